theorem dX6_init_5 : decode cX6_init 5 = .ok (.iconst 1, 1) := by decide +kernel
theorem dX6_init_6 : decode cX6_init 6 = .ok (.putfield 7, 3) := by decide +kernel
theorem dX6_init_9 : decode cX6_init 9 = .ok (.aload_n 0, 1) := by decide +kernel
theorem dX6_init_10 : decode cX6_init 10 = .ok (.iconst 4, 1) := by decide +kernel
theorem dX6_init_11 : decode cX6_init 11 = .ok (.newarray .int, 2) := by decide +kernel
theorem dX6_init_13 : decode cX6_init 13 = .ok (.putfield 13, 3) := by decide +kernel
theorem dX6_init_16 : decode cX6_init 16 = .ok (.aload_n 0, 1) := by decide +kernel
theorem dX6_init_17 : decode cX6_init 17 = .ok (.iconst 4, 1) := by decide +kernel
theorem dX6_init_18 : decode cX6_init 18 = .ok (.newarray .int, 2) := by decide +kernel
theorem dX6_init_20 : decode cX6_init 20 = .ok (.putfield 17, 3) := by decide +kernel
theorem dX6_init_23 : decode cX6_init 23 = .ok (.aload_n 0, 1) := by decide +kernel
theorem dX6_init_24 : decode cX6_init 24 = .ok (.sipush 2401, 3) := by decide +kernel
theorem dX6_init_27 : decode cX6_init 27 = .ok (.newarray .int, 2) := by decide +kernel
theorem dX6_init_29 : decode cX6_init 29 = .ok (.putfield 20, 3) := by decide +kernel
theorem dX6_init_32 : decode cX6_init 32 = .ok (.aload_n 0, 1) := by decide +kernel
theorem dX6_init_33 : decode cX6_init 33 = .ok (.bipush 96, 2) := by decide +kernel
theorem dX6_init_35 : decode cX6_init 35 = .ok (.newarray .int, 2) := by decide +kernel
theorem dX6_init_37 : decode cX6_init 37 = .ok (.putfield 23, 3) := by decide +kernel
theorem dX6_init_40 : decode cX6_init 40 = .ok (.aload_n 0, 1) := by decide +kernel
theorem dX6_init_41 : decode cX6_init 41 = .ok (.iconst 4, 1) := by decide +kernel
theorem dX6_init_42 : decode cX6_init 42 = .ok (.newarray .int, 2) := by decide +kernel
theorem dX6_init_44 : decode cX6_init 44 = .ok (.putfield 26, 3) := by decide +kernel
theorem dX6_init_47 : decode cX6_init 47 = .ok (.aload_n 0, 1) := by decide +kernel
theorem dX6_init_48 : decode cX6_init 48 = .ok (.sipush 1000, 3) := by decide +kernel
theorem dX6_init_51 : decode cX6_init 51 = .ok (.newarray .int, 2) := by decide +kernel
theorem dX6_init_53 : decode cX6_init 53 = .ok (.putfield 29, 3) := by decide +kernel
theorem dX6_init_56 : decode cX6_init 56 = .ok (.aload_n 0, 1) := by decide +kernel
theorem dX6_init_57 : decode cX6_init 57 = .ok (.iconst 4, 1) := by decide +kernel
theorem dX6_init_58 : decode cX6_init 58 = .ok (.newarray .int, 2) := by decide +kernel
theorem dX6_init_60 : decode cX6_init 60 = .ok (.putfield 32, 3) := by decide +kernel
theorem dX6_init_63 : decode cX6_init 63 = .ok (.aload_n 0, 1) := by decide +kernel
theorem dX6_init_64 : decode cX6_init 64 = .ok (.iconst 4, 1) := by decide +kernel
theorem dX6_init_65 : decode cX6_init 65 = .ok (.newarray .long, 2) := by decide +kernel
theorem dX6_init_67 : decode cX6_init 67 = .ok (.putfield 35, 3) := by decide +kernel
theorem dX6_init_70 : decode cX6_init 70 = .ok (.aload_n 0, 1) := by decide +kernel
theorem dX6_init_71 : decode cX6_init 71 = .ok (.iconst 4, 1) := by decide +kernel
theorem dX6_init_72 : decode cX6_init 72 = .ok (.newarray .long, 2) := by decide +kernel
theorem dX6_init_74 : decode cX6_init 74 = .ok (.putfield 39, 3) := by decide +kernel
theorem dX6_init_77 : decode cX6_init 77 = .ok (.aload_n 0, 1) := by decide +kernel
theorem dX6_init_78 : decode cX6_init 78 = .ok (.bipush 16, 2) := by decide +kernel
theorem dX6_init_80 : decode cX6_init 80 = .ok (.newarray .long, 2) := by decide +kernel
theorem dX6_init_82 : decode cX6_init 82 = .ok (.putfield 42, 3) := by decide +kernel
theorem dX6_init_85 : decode cX6_init 85 = .ok (.return_, 1) := by decide +kernel
theorem dX6_change_0 : decode cX6_change 0 = .ok (.aload_n 0, 1) := by decide +kernel
theorem dX6_change_1 : decode cX6_change 1 = .ok (.iconst 0, 1) := by decide +kernel
theorem dX6_change_2 : decode cX6_change 2 = .ok (.putfield 45, 3) := by decide +kernel
theorem dX6_change_5 : decode cX6_change 5 = .ok (.aload_n 0, 1) := by decide +kernel
theorem dX6_change_6 : decode cX6_change 6 = .ok (.iconst 0, 1) := by decide +kernel
theorem dX6_change_7 : decode cX6_change 7 = .ok (.putfield 49, 3) := by decide +kernel
theorem dX6_change_10 : decode cX6_change 10 = .ok (.return_, 1) := by decide +kernel
theorem dX6_begin_0 : decode cX6_begin 0 = .ok (.iload_n 1, 1) := by decide +kernel
theorem dX6_begin_1 : decode cX6_begin 1 = .ok (.iconst 1, 1) := by decide +kernel
theorem dX6_begin_2 : decode cX6_begin 2 = .ok (.if_icmp .lt 9, 3) := by decide +kernel
theorem dX6_begin_5 : decode cX6_begin 5 = .ok (.iload_n 1, 1) := by decide +kernel
theorem dX6_begin_6 : decode cX6_begin 6 = .ok (.bipush 60, 2) := by decide +kernel
theorem dX6_begin_8 : decode cX6_begin 8 = .ok (.if_icmp .le 5, 3) := by decide +kernel
theorem dX6_begin_11 : decode cX6_begin 11 = .ok (.iconst 0, 1) := by decide +kernel
theorem dX6_begin_12 : decode cX6_begin 12 = .ok (.ireturn, 1) := by decide +kernel
theorem dX6_begin_13 : decode cX6_begin 13 = .ok (.aload_n 0, 1) := by decide +kernel
theorem dX6_begin_14 : decode cX6_begin 14 = .ok (.iload_n 1, 1) := by decide +kernel
theorem dX6_begin_15 : decode cX6_begin 15 = .ok (.putfield 7, 3) := by decide +kernel
theorem dX6_begin_18 : decode cX6_begin 18 = .ok (.aload_n 0, 1) := by decide +kernel
theorem dX6_begin_19 : decode cX6_begin 19 = .ok (.iconst 0, 1) := by decide +kernel
theorem dX6_begin_20 : decode cX6_begin 20 = .ok (.putfield 52, 3) := by decide +kernel
theorem dX6_begin_23 : decode cX6_begin 23 = .ok (.aload_n 0, 1) := by decide +kernel
theorem dX6_begin_24 : decode cX6_begin 24 = .ok (.invokevirtual 55, 3) := by decide +kernel
theorem dX6_begin_27 : decode cX6_begin 27 = .ok (.iconst 1, 1) := by decide +kernel
theorem dX6_begin_28 : decode cX6_begin 28 = .ok (.ireturn, 1) := by decide +kernel
theorem dX6_kind_0 : decode cX6_kind 0 = .ok (.aload_n 0, 1) := by decide +kernel
theorem dX6_kind_1 : decode cX6_kind 1 = .ok (.getfield 52, 3) := by decide +kernel
theorem dX6_kind_4 : decode cX6_kind 4 = .ok (.iconst 4, 1) := by decide +kernel
theorem dX6_kind_5 : decode cX6_kind 5 = .ok (.if_icmp .eq 26, 3) := by decide +kernel
theorem dX6_kind_8 : decode cX6_kind 8 = .ok (.iload_n 1, 1) := by decide +kernel
theorem dX6_kind_9 : decode cX6_kind 9 = .ok (.iconst 1, 1) := by decide +kernel
theorem dX6_kind_10 : decode cX6_kind 10 = .ok (.if_icmp .lt 21, 3) := by decide +kernel
theorem dX6_kind_13 : decode cX6_kind 13 = .ok (.iload_n 1, 1) := by decide +kernel
theorem dX6_kind_14 : decode cX6_kind 14 = .ok (.aload_n 0, 1) := by decide +kernel
theorem dX6_kind_15 : decode cX6_kind 15 = .ok (.getfield 7, 3) := by decide +kernel
theorem dX6_kind_18 : decode cX6_kind 18 = .ok (.if_icmp .gt 13, 3) := by decide +kernel
theorem dX6_kind_21 : decode cX6_kind 21 = .ok (.iload_n 2, 1) := by decide +kernel
theorem dX6_kind_22 : decode cX6_kind 22 = .ok (.ifCond .lt 9, 3) := by decide +kernel
theorem dX6_kind_25 : decode cX6_kind 25 = .ok (.iload_n 2, 1) := by decide +kernel
theorem dX6_kind_26 : decode cX6_kind 26 = .ok (.bipush 6, 2) := by decide +kernel
theorem dX6_kind_28 : decode cX6_kind 28 = .ok (.if_icmp .le 5, 3) := by decide +kernel
theorem dX6_kind_31 : decode cX6_kind 31 = .ok (.iconst (-1), 1) := by decide +kernel
theorem dX6_kind_32 : decode cX6_kind 32 = .ok (.ireturn, 1) := by decide +kernel
theorem dX6_kind_33 : decode cX6_kind 33 = .ok (.aload_n 0, 1) := by decide +kernel
theorem dX6_kind_34 : decode cX6_kind 34 = .ok (.getfield 13, 3) := by decide +kernel
theorem dX6_kind_37 : decode cX6_kind 37 = .ok (.aload_n 0, 1) := by decide +kernel
theorem dX6_kind_38 : decode cX6_kind 38 = .ok (.getfield 52, 3) := by decide +kernel
theorem dX6_kind_41 : decode cX6_kind 41 = .ok (.iload_n 1, 1) := by decide +kernel
theorem dX6_kind_42 : decode cX6_kind 42 = .ok (.iastore, 1) := by decide +kernel
theorem dX6_kind_43 : decode cX6_kind 43 = .ok (.aload_n 0, 1) := by decide +kernel
theorem dX6_kind_44 : decode cX6_kind 44 = .ok (.getfield 17, 3) := by decide +kernel
theorem dX6_kind_47 : decode cX6_kind 47 = .ok (.aload_n 0, 1) := by decide +kernel
theorem dX6_kind_48 : decode cX6_kind 48 = .ok (.getfield 52, 3) := by decide +kernel
theorem dX6_kind_51 : decode cX6_kind 51 = .ok (.iload_n 2, 1) := by decide +kernel
theorem dX6_kind_52 : decode cX6_kind 52 = .ok (.iastore, 1) := by decide +kernel
theorem dX6_kind_53 : decode cX6_kind 53 = .ok (.aload_n 0, 1) := by decide +kernel
theorem dX6_kind_54 : decode cX6_kind 54 = .ok (.dup, 1) := by decide +kernel
theorem dX6_kind_55 : decode cX6_kind 55 = .ok (.getfield 52, 3) := by decide +kernel
theorem dX6_kind_58 : decode cX6_kind 58 = .ok (.iconst 1, 1) := by decide +kernel
theorem dX6_kind_59 : decode cX6_kind 59 = .ok (.iadd, 1) := by decide +kernel
theorem dX6_kind_60 : decode cX6_kind 60 = .ok (.putfield 52, 3) := by decide +kernel
theorem dX6_kind_63 : decode cX6_kind 63 = .ok (.aload_n 0, 1) := by decide +kernel
theorem dX6_kind_64 : decode cX6_kind 64 = .ok (.invokevirtual 55, 3) := by decide +kernel
theorem dX6_kind_67 : decode cX6_kind 67 = .ok (.aload_n 0, 1) := by decide +kernel
theorem dX6_kind_68 : decode cX6_kind 68 = .ok (.getfield 52, 3) := by decide +kernel
theorem dX6_kind_71 : decode cX6_kind 71 = .ok (.iconst 1, 1) := by decide +kernel
theorem dX6_kind_72 : decode cX6_kind 72 = .ok (.isub, 1) := by decide +kernel
theorem dX6_kind_73 : decode cX6_kind 73 = .ok (.ireturn, 1) := by decide +kernel
theorem dX6_ask_0 : decode cX6_ask 0 = .ok (.iload_n 1, 1) := by decide +kernel
theorem dX6_ask_1 : decode cX6_ask 1 = .ok (.ifCond .lt 21, 3) := by decide +kernel
theorem dX6_ask_4 : decode cX6_ask 4 = .ok (.iload_n 1, 1) := by decide +kernel
theorem dX6_ask_5 : decode cX6_ask 5 = .ok (.aload_n 0, 1) := by decide +kernel
theorem dX6_ask_6 : decode cX6_ask 6 = .ok (.getfield 52, 3) := by decide +kernel
theorem dX6_ask_9 : decode cX6_ask 9 = .ok (.if_icmp .ge 13, 3) := by decide +kernel
theorem dX6_ask_12 : decode cX6_ask 12 = .ok (.iload_n 2, 1) := by decide +kernel
theorem dX6_ask_13 : decode cX6_ask 13 = .ok (.ifCond .lt 9, 3) := by decide +kernel
theorem dX6_ask_16 : decode cX6_ask 16 = .ok (.iload_n 2, 1) := by decide +kernel
theorem dX6_ask_17 : decode cX6_ask 17 = .ok (.bipush 6, 2) := by decide +kernel
theorem dX6_ask_19 : decode cX6_ask 19 = .ok (.if_icmp .le 5, 3) := by decide +kernel
theorem dX6_ask_22 : decode cX6_ask 22 = .ok (.iconst 0, 1) := by decide +kernel
theorem dX6_ask_23 : decode cX6_ask 23 = .ok (.ireturn, 1) := by decide +kernel
theorem dX6_ask_24 : decode cX6_ask 24 = .ok (.aload_n 0, 1) := by decide +kernel
theorem dX6_ask_25 : decode cX6_ask 25 = .ok (.getfield 17, 3) := by decide +kernel
theorem dX6_ask_28 : decode cX6_ask 28 = .ok (.iload_n 1, 1) := by decide +kernel
theorem dX6_ask_29 : decode cX6_ask 29 = .ok (.iload_n 2, 1) := by decide +kernel
theorem dX6_ask_30 : decode cX6_ask 30 = .ok (.iastore, 1) := by decide +kernel
theorem dX6_ask_31 : decode cX6_ask 31 = .ok (.aload_n 0, 1) := by decide +kernel
theorem dX6_ask_32 : decode cX6_ask 32 = .ok (.invokevirtual 55, 3) := by decide +kernel
theorem dX6_ask_35 : decode cX6_ask 35 = .ok (.iconst 1, 1) := by decide +kernel
theorem dX6_ask_36 : decode cX6_ask 36 = .ok (.ireturn, 1) := by decide +kernel
theorem dX6_drop_0 : decode cX6_drop 0 = .ok (.aload_n 0, 1) := by decide +kernel
theorem dX6_drop_1 : decode cX6_drop 1 = .ok (.getfield 52, 3) := by decide +kernel
theorem dX6_drop_4 : decode cX6_drop 4 = .ok (.ifCond .ne 5, 3) := by decide +kernel
theorem dX6_drop_7 : decode cX6_drop 7 = .ok (.iconst (-1), 1) := by decide +kernel
theorem dX6_drop_8 : decode cX6_drop 8 = .ok (.ireturn, 1) := by decide +kernel
theorem dX6_drop_9 : decode cX6_drop 9 = .ok (.aload_n 0, 1) := by decide +kernel
theorem dX6_drop_10 : decode cX6_drop 10 = .ok (.dup, 1) := by decide +kernel
theorem dX6_drop_11 : decode cX6_drop 11 = .ok (.getfield 52, 3) := by decide +kernel
theorem dX6_drop_14 : decode cX6_drop 14 = .ok (.iconst 1, 1) := by decide +kernel
theorem dX6_drop_15 : decode cX6_drop 15 = .ok (.isub, 1) := by decide +kernel
theorem dX6_drop_16 : decode cX6_drop 16 = .ok (.putfield 52, 3) := by decide +kernel
theorem dX6_drop_19 : decode cX6_drop 19 = .ok (.aload_n 0, 1) := by decide +kernel
theorem dX6_drop_20 : decode cX6_drop 20 = .ok (.invokevirtual 55, 3) := by decide +kernel
theorem dX6_drop_23 : decode cX6_drop 23 = .ok (.aload_n 0, 1) := by decide +kernel
theorem dX6_drop_24 : decode cX6_drop 24 = .ok (.getfield 52, 3) := by decide +kernel
theorem dX6_drop_27 : decode cX6_drop 27 = .ok (.ireturn, 1) := by decide +kernel
theorem dX6_of_0 : decode cX6_of 0 = .ok (.iload_n 1, 1) := by decide +kernel
theorem dX6_of_1 : decode cX6_of 1 = .ok (.ifCond .ne 10, 3) := by decide +kernel
theorem dX6_of_4 : decode cX6_of 4 = .ok (.aload_n 0, 1) := by decide +kernel
theorem dX6_of_5 : decode cX6_of 5 = .ok (.getfield 7, 3) := by decide +kernel
theorem dX6_of_8 : decode cX6_of 8 = .ok (.goto 16, 3) := by decide +kernel
theorem dX6_of_11 : decode cX6_of 11 = .ok (.iload_n 1, 1) := by decide +kernel
theorem dX6_of_12 : decode cX6_of 12 = .ok (.iconst 1, 1) := by decide +kernel
theorem dX6_of_13 : decode cX6_of 13 = .ok (.if_icmp .ne 10, 3) := by decide +kernel
theorem dX6_of_16 : decode cX6_of 16 = .ok (.aload_n 0, 1) := by decide +kernel
theorem dX6_of_17 : decode cX6_of 17 = .ok (.getfield 52, 3) := by decide +kernel
theorem dX6_of_20 : decode cX6_of 20 = .ok (.goto 4, 3) := by decide +kernel
theorem dX6_of_23 : decode cX6_of 23 = .ok (.iconst (-1), 1) := by decide +kernel
theorem dX6_of_24 : decode cX6_of 24 = .ok (.ireturn, 1) := by decide +kernel
theorem dX6_ofKind_0 : decode cX6_ofKind 0 = .ok (.iload_n 1, 1) := by decide +kernel
theorem dX6_ofKind_1 : decode cX6_ofKind 1 = .ok (.ifCond .lt 11, 3) := by decide +kernel
theorem dX6_ofKind_4 : decode cX6_ofKind 4 = .ok (.iload_n 1, 1) := by decide +kernel
theorem dX6_ofKind_5 : decode cX6_ofKind 5 = .ok (.aload_n 0, 1) := by decide +kernel
theorem dX6_ofKind_6 : decode cX6_ofKind 6 = .ok (.getfield 52, 3) := by decide +kernel
theorem dX6_ofKind_9 : decode cX6_ofKind 9 = .ok (.if_icmp .lt 5, 3) := by decide +kernel
theorem dX6_ofKind_12 : decode cX6_ofKind 12 = .ok (.iconst (-1), 1) := by decide +kernel
theorem dX6_ofKind_13 : decode cX6_ofKind 13 = .ok (.ireturn, 1) := by decide +kernel
theorem dX6_ofKind_14 : decode cX6_ofKind 14 = .ok (.iload_n 2, 1) := by decide +kernel
theorem dX6_ofKind_15 : decode cX6_ofKind 15 = .ok (.ifCond .ne 12, 3) := by decide +kernel
theorem dX6_ofKind_18 : decode cX6_ofKind 18 = .ok (.aload_n 0, 1) := by decide +kernel
theorem dX6_ofKind_19 : decode cX6_ofKind 19 = .ok (.getfield 13, 3) := by decide +kernel
theorem dX6_ofKind_22 : decode cX6_ofKind 22 = .ok (.iload_n 1, 1) := by decide +kernel
theorem dX6_ofKind_23 : decode cX6_ofKind 23 = .ok (.iaload, 1) := by decide +kernel
theorem dX6_ofKind_24 : decode cX6_ofKind 24 = .ok (.goto 18, 3) := by decide +kernel
theorem dX6_ofKind_27 : decode cX6_ofKind 27 = .ok (.iload_n 2, 1) := by decide +kernel
theorem dX6_ofKind_28 : decode cX6_ofKind 28 = .ok (.iconst 1, 1) := by decide +kernel
theorem dX6_ofKind_29 : decode cX6_ofKind 29 = .ok (.if_icmp .ne 12, 3) := by decide +kernel
theorem dX6_ofKind_32 : decode cX6_ofKind 32 = .ok (.aload_n 0, 1) := by decide +kernel
theorem dX6_ofKind_33 : decode cX6_ofKind 33 = .ok (.getfield 17, 3) := by decide +kernel
theorem dX6_ofKind_36 : decode cX6_ofKind 36 = .ok (.iload_n 1, 1) := by decide +kernel
theorem dX6_ofKind_37 : decode cX6_ofKind 37 = .ok (.iaload, 1) := by decide +kernel
theorem dX6_ofKind_38 : decode cX6_ofKind 38 = .ok (.goto 4, 3) := by decide +kernel
theorem dX6_ofKind_41 : decode cX6_ofKind 41 = .ok (.iconst (-1), 1) := by decide +kernel
theorem dX6_ofKind_42 : decode cX6_ofKind 42 = .ok (.ireturn, 1) := by decide +kernel
theorem dX6_demandOf_0 : decode cX6_demandOf 0 = .ok (.iload_n 1, 1) := by decide +kernel
theorem dX6_demandOf_1 : decode cX6_demandOf 1 = .ok (.aload_n 0, 1) := by decide +kernel
theorem dX6_demandOf_2 : decode cX6_demandOf 2 = .ok (.getfield 52, 3) := by decide +kernel
theorem dX6_demandOf_5 : decode cX6_demandOf 5 = .ok (.if_icmp .ge 12, 3) := by decide +kernel
theorem dX6_demandOf_8 : decode cX6_demandOf 8 = .ok (.aload_n 0, 1) := by decide +kernel
theorem dX6_demandOf_9 : decode cX6_demandOf 9 = .ok (.getfield 17, 3) := by decide +kernel
theorem dX6_demandOf_12 : decode cX6_demandOf 12 = .ok (.iload_n 1, 1) := by decide +kernel
theorem dX6_demandOf_13 : decode cX6_demandOf 13 = .ok (.iaload, 1) := by decide +kernel
theorem dX6_demandOf_14 : decode cX6_demandOf 14 = .ok (.goto 4, 3) := by decide +kernel
theorem dX6_demandOf_17 : decode cX6_demandOf 17 = .ok (.iconst 0, 1) := by decide +kernel
theorem dX6_demandOf_18 : decode cX6_demandOf 18 = .ok (.ireturn, 1) := by decide +kernel
theorem dX6_widthOf_0 : decode cX6_widthOf 0 = .ok (.iload_n 1, 1) := by decide +kernel
theorem dX6_widthOf_1 : decode cX6_widthOf 1 = .ok (.aload_n 0, 1) := by decide +kernel
theorem dX6_widthOf_2 : decode cX6_widthOf 2 = .ok (.getfield 52, 3) := by decide +kernel
theorem dX6_widthOf_5 : decode cX6_widthOf 5 = .ok (.if_icmp .ge 12, 3) := by decide +kernel
theorem dX6_widthOf_8 : decode cX6_widthOf 8 = .ok (.aload_n 0, 1) := by decide +kernel
theorem dX6_widthOf_9 : decode cX6_widthOf 9 = .ok (.getfield 13, 3) := by decide +kernel
theorem dX6_widthOf_12 : decode cX6_widthOf 12 = .ok (.iload_n 1, 1) := by decide +kernel
theorem dX6_widthOf_13 : decode cX6_widthOf 13 = .ok (.iaload, 1) := by decide +kernel
theorem dX6_widthOf_14 : decode cX6_widthOf 14 = .ok (.goto 4, 3) := by decide +kernel
theorem dX6_widthOf_17 : decode cX6_widthOf 17 = .ok (.iconst 0, 1) := by decide +kernel
theorem dX6_widthOf_18 : decode cX6_widthOf 18 = .ok (.ireturn, 1) := by decide +kernel
theorem dX6_digit_0 : decode cX6_digit 0 = .ok (.iload_n 0, 1) := by decide +kernel
theorem dX6_digit_1 : decode cX6_digit 1 = .ok (.istore_n 2, 1) := by decide +kernel
theorem dX6_digit_2 : decode cX6_digit 2 = .ok (.iconst 3, 1) := by decide +kernel
theorem dX6_digit_3 : decode cX6_digit 3 = .ok (.istore_n 3, 1) := by decide +kernel
theorem dX6_digit_4 : decode cX6_digit 4 = .ok (.iload_n 3, 1) := by decide +kernel
theorem dX6_digit_5 : decode cX6_digit 5 = .ok (.iload_n 1, 1) := by decide +kernel
theorem dX6_digit_6 : decode cX6_digit 6 = .ok (.if_icmp .le 14, 3) := by decide +kernel
theorem dX6_digit_9 : decode cX6_digit 9 = .ok (.iload_n 2, 1) := by decide +kernel
theorem dX6_digit_10 : decode cX6_digit 10 = .ok (.bipush 7, 2) := by decide +kernel
theorem dX6_digit_12 : decode cX6_digit 12 = .ok (.idiv, 1) := by decide +kernel
theorem dX6_digit_13 : decode cX6_digit 13 = .ok (.istore_n 2, 1) := by decide +kernel
theorem dX6_digit_14 : decode cX6_digit 14 = .ok (.iinc 3 (-1), 3) := by decide +kernel
theorem dX6_digit_17 : decode cX6_digit 17 = .ok (.goto (-13), 3) := by decide +kernel
theorem dX6_digit_20 : decode cX6_digit 20 = .ok (.iload_n 2, 1) := by decide +kernel
theorem dX6_digit_21 : decode cX6_digit 21 = .ok (.bipush 7, 2) := by decide +kernel
theorem dX6_digit_23 : decode cX6_digit 23 = .ok (.irem, 1) := by decide +kernel
theorem dX6_digit_24 : decode cX6_digit 24 = .ok (.ireturn, 1) := by decide +kernel
theorem dX6_isWithin_0 : decode cX6_isWithin 0 = .ok (.iconst 1, 1) := by decide +kernel
theorem dX6_isWithin_1 : decode cX6_isWithin 1 = .ok (.istore_n 3, 1) := by decide +kernel
theorem dX6_isWithin_2 : decode cX6_isWithin 2 = .ok (.iconst 0, 1) := by decide +kernel
theorem dX6_isWithin_3 : decode cX6_isWithin 3 = .ok (.istore 4, 2) := by decide +kernel
theorem dX6_isWithin_5 : decode cX6_isWithin 5 = .ok (.iload 4, 2) := by decide +kernel
theorem dX6_isWithin_7 : decode cX6_isWithin 7 = .ok (.iconst 4, 1) := by decide +kernel
theorem dX6_isWithin_8 : decode cX6_isWithin 8 = .ok (.if_icmp .ge 34, 3) := by decide +kernel
theorem dX6_isWithin_11 : decode cX6_isWithin 11 = .ok (.iload_n 3, 1) := by decide +kernel
theorem dX6_isWithin_12 : decode cX6_isWithin 12 = .ok (.ifCond .eq 22, 3) := by decide +kernel
theorem dX6_isWithin_15 : decode cX6_isWithin 15 = .ok (.iload_n 1, 1) := by decide +kernel
theorem dX6_isWithin_16 : decode cX6_isWithin 16 = .ok (.iload 4, 2) := by decide +kernel
theorem dX6_isWithin_18 : decode cX6_isWithin 18 = .ok (.invokestatic 58, 3) := by decide +kernel
theorem dX6_isWithin_21 : decode cX6_isWithin 21 = .ok (.iload_n 2, 1) := by decide +kernel
theorem dX6_isWithin_22 : decode cX6_isWithin 22 = .ok (.iload 4, 2) := by decide +kernel
theorem dX6_isWithin_24 : decode cX6_isWithin 24 = .ok (.invokestatic 58, 3) := by decide +kernel
theorem dX6_isWithin_27 : decode cX6_isWithin 27 = .ok (.if_icmp .gt 7, 3) := by decide +kernel
theorem dX6_isWithin_30 : decode cX6_isWithin 30 = .ok (.iconst 1, 1) := by decide +kernel
theorem dX6_isWithin_31 : decode cX6_isWithin 31 = .ok (.goto 4, 3) := by decide +kernel
theorem dX6_isWithin_34 : decode cX6_isWithin 34 = .ok (.iconst 0, 1) := by decide +kernel
theorem dX6_isWithin_35 : decode cX6_isWithin 35 = .ok (.istore_n 3, 1) := by decide +kernel
theorem dX6_isWithin_36 : decode cX6_isWithin 36 = .ok (.iinc 4 1, 3) := by decide +kernel
theorem dX6_isWithin_39 : decode cX6_isWithin 39 = .ok (.goto (-34), 3) := by decide +kernel
theorem dX6_isWithin_42 : decode cX6_isWithin 42 = .ok (.iload_n 3, 1) := by decide +kernel
theorem dX6_isWithin_43 : decode cX6_isWithin 43 = .ok (.ireturn, 1) := by decide +kernel
theorem dX6_fits_0 : decode cX6_fits 0 = .ok (.iconst 0, 1) := by decide +kernel
theorem dX6_fits_1 : decode cX6_fits 1 = .ok (.istore_n 2, 1) := by decide +kernel
theorem dX6_fits_2 : decode cX6_fits 2 = .ok (.iconst 0, 1) := by decide +kernel
theorem dX6_fits_3 : decode cX6_fits 3 = .ok (.istore_n 3, 1) := by decide +kernel
theorem dX6_fits_4 : decode cX6_fits 4 = .ok (.iload_n 3, 1) := by decide +kernel
theorem dX6_fits_5 : decode cX6_fits 5 = .ok (.iconst 4, 1) := by decide +kernel
theorem dX6_fits_6 : decode cX6_fits 6 = .ok (.if_icmp .ge 23, 3) := by decide +kernel
theorem dX6_fits_9 : decode cX6_fits 9 = .ok (.iload_n 2, 1) := by decide +kernel
theorem dX6_fits_10 : decode cX6_fits 10 = .ok (.iload_n 1, 1) := by decide +kernel
theorem dX6_fits_11 : decode cX6_fits 11 = .ok (.iload_n 3, 1) := by decide +kernel
theorem dX6_fits_12 : decode cX6_fits 12 = .ok (.invokestatic 58, 3) := by decide +kernel
theorem dX6_fits_15 : decode cX6_fits 15 = .ok (.aload_n 0, 1) := by decide +kernel
theorem dX6_fits_16 : decode cX6_fits 16 = .ok (.iload_n 3, 1) := by decide +kernel
theorem dX6_fits_17 : decode cX6_fits 17 = .ok (.invokevirtual 62, 3) := by decide +kernel
theorem dX6_fits_20 : decode cX6_fits 20 = .ok (.imul, 1) := by decide +kernel
theorem dX6_fits_21 : decode cX6_fits 21 = .ok (.iadd, 1) := by decide +kernel
theorem dX6_fits_22 : decode cX6_fits 22 = .ok (.istore_n 2, 1) := by decide +kernel
theorem dX6_fits_23 : decode cX6_fits 23 = .ok (.iinc 3 1, 3) := by decide +kernel
theorem dX6_fits_26 : decode cX6_fits 26 = .ok (.goto (-22), 3) := by decide +kernel
theorem dX6_fits_29 : decode cX6_fits 29 = .ok (.iload_n 2, 1) := by decide +kernel
theorem dX6_fits_30 : decode cX6_fits 30 = .ok (.aload_n 0, 1) := by decide +kernel
theorem dX6_fits_31 : decode cX6_fits 31 = .ok (.getfield 7, 3) := by decide +kernel
theorem dX6_fits_34 : decode cX6_fits 34 = .ok (.if_icmp .gt 7, 3) := by decide +kernel
theorem dX6_fits_37 : decode cX6_fits 37 = .ok (.iconst 1, 1) := by decide +kernel
theorem dX6_fits_38 : decode cX6_fits 38 = .ok (.goto 4, 3) := by decide +kernel
theorem dX6_fits_41 : decode cX6_fits 41 = .ok (.iconst 0, 1) := by decide +kernel
theorem dX6_fits_42 : decode cX6_fits 42 = .ok (.ireturn, 1) := by decide +kernel
theorem dX6_all_0 : decode cX6_all 0 = .ok (.iconst 0, 1) := by decide +kernel
theorem dX6_all_1 : decode cX6_all 1 = .ok (.istore_n 1, 1) := by decide +kernel
theorem dX6_all_2 : decode cX6_all 2 = .ok (.iconst 0, 1) := by decide +kernel
theorem dX6_all_3 : decode cX6_all 3 = .ok (.istore_n 2, 1) := by decide +kernel
theorem dX6_all_4 : decode cX6_all 4 = .ok (.iload_n 2, 1) := by decide +kernel
theorem dX6_all_5 : decode cX6_all 5 = .ok (.iconst 4, 1) := by decide +kernel
theorem dX6_all_6 : decode cX6_all 6 = .ok (.if_icmp .ge 20, 3) := by decide +kernel
theorem dX6_all_9 : decode cX6_all 9 = .ok (.bipush 7, 2) := by decide +kernel
theorem dX6_all_11 : decode cX6_all 11 = .ok (.iload_n 1, 1) := by decide +kernel
theorem dX6_all_12 : decode cX6_all 12 = .ok (.imul, 1) := by decide +kernel
theorem dX6_all_13 : decode cX6_all 13 = .ok (.aload_n 0, 1) := by decide +kernel
theorem dX6_all_14 : decode cX6_all 14 = .ok (.iload_n 2, 1) := by decide +kernel
theorem dX6_all_15 : decode cX6_all 15 = .ok (.invokevirtual 66, 3) := by decide +kernel
theorem dX6_all_18 : decode cX6_all 18 = .ok (.iadd, 1) := by decide +kernel
theorem dX6_all_19 : decode cX6_all 19 = .ok (.istore_n 1, 1) := by decide +kernel
theorem dX6_all_20 : decode cX6_all 20 = .ok (.iinc 2 1, 3) := by decide +kernel
theorem dX6_all_23 : decode cX6_all 23 = .ok (.goto (-19), 3) := by decide +kernel
theorem dX6_all_26 : decode cX6_all 26 = .ok (.iload_n 1, 1) := by decide +kernel
theorem dX6_all_27 : decode cX6_all 27 = .ok (.ireturn, 1) := by decide +kernel
theorem dX6_learn_0 : decode cX6_learn 0 = .ok (.aload_n 0, 1) := by decide +kernel
theorem dX6_learn_1 : decode cX6_learn 1 = .ok (.getfield 45, 3) := by decide +kernel
theorem dX6_learn_4 : decode cX6_learn 4 = .ok (.ifCond .eq 4, 3) := by decide +kernel
theorem dX6_learn_7 : decode cX6_learn 7 = .ok (.return_, 1) := by decide +kernel
theorem dX6_learn_8 : decode cX6_learn 8 = .ok (.aload_n 0, 1) := by decide +kernel
theorem dX6_learn_9 : decode cX6_learn 9 = .ok (.iconst 1, 1) := by decide +kernel
theorem dX6_learn_10 : decode cX6_learn 10 = .ok (.putfield 45, 3) := by decide +kernel
theorem dX6_learn_13 : decode cX6_learn 13 = .ok (.aload_n 0, 1) := by decide +kernel
theorem dX6_learn_14 : decode cX6_learn 14 = .ok (.invokevirtual 69, 3) := by decide +kernel
theorem dX6_learn_17 : decode cX6_learn 17 = .ok (.istore_n 1, 1) := by decide +kernel
theorem dX6_learn_18 : decode cX6_learn 18 = .ok (.aload_n 0, 1) := by decide +kernel
theorem dX6_learn_19 : decode cX6_learn 19 = .ok (.getfield 20, 3) := by decide +kernel
theorem dX6_learn_22 : decode cX6_learn 22 = .ok (.iconst 0, 1) := by decide +kernel
theorem dX6_learn_23 : decode cX6_learn 23 = .ok (.iconst 0, 1) := by decide +kernel
theorem dX6_learn_24 : decode cX6_learn 24 = .ok (.iastore, 1) := by decide +kernel
theorem dX6_learn_25 : decode cX6_learn 25 = .ok (.iconst 1, 1) := by decide +kernel
theorem dX6_learn_26 : decode cX6_learn 26 = .ok (.istore_n 2, 1) := by decide +kernel
theorem dX6_learn_27 : decode cX6_learn 27 = .ok (.iload_n 2, 1) := by decide +kernel
theorem dX6_learn_28 : decode cX6_learn 28 = .ok (.iload_n 1, 1) := by decide +kernel
theorem dX6_learn_29 : decode cX6_learn 29 = .ok (.if_icmp .gt 34, 3) := by decide +kernel
theorem dX6_learn_32 : decode cX6_learn 32 = .ok (.aload_n 0, 1) := by decide +kernel
theorem dX6_learn_33 : decode cX6_learn 33 = .ok (.getfield 20, 3) := by decide +kernel
theorem dX6_learn_36 : decode cX6_learn 36 = .ok (.iload_n 2, 1) := by decide +kernel
theorem dX6_learn_37 : decode cX6_learn 37 = .ok (.aload_n 0, 1) := by decide +kernel
theorem dX6_learn_38 : decode cX6_learn 38 = .ok (.iload_n 2, 1) := by decide +kernel
theorem dX6_learn_39 : decode cX6_learn 39 = .ok (.iload_n 1, 1) := by decide +kernel
theorem dX6_learn_40 : decode cX6_learn 40 = .ok (.invokevirtual 73, 3) := by decide +kernel
theorem dX6_learn_43 : decode cX6_learn 43 = .ok (.ifCond .eq 11, 3) := by decide +kernel
theorem dX6_learn_46 : decode cX6_learn 46 = .ok (.aload_n 0, 1) := by decide +kernel
theorem dX6_learn_47 : decode cX6_learn 47 = .ok (.iload_n 2, 1) := by decide +kernel
theorem dX6_learn_48 : decode cX6_learn 48 = .ok (.invokevirtual 77, 3) := by decide +kernel
theorem dX6_learn_51 : decode cX6_learn 51 = .ok (.goto 5, 3) := by decide +kernel
theorem dX6_learn_54 : decode cX6_learn 54 = .ok (.bipush 99, 2) := by decide +kernel
theorem dX6_learn_56 : decode cX6_learn 56 = .ok (.iastore, 1) := by decide +kernel
theorem dX6_learn_57 : decode cX6_learn 57 = .ok (.iinc 2 1, 3) := by decide +kernel
theorem dX6_learn_60 : decode cX6_learn 60 = .ok (.goto (-33), 3) := by decide +kernel
theorem dX6_learn_63 : decode cX6_learn 63 = .ok (.aload_n 0, 1) := by decide +kernel
theorem dX6_learn_64 : decode cX6_learn 64 = .ok (.iconst 0, 1) := by decide +kernel
theorem dX6_learn_65 : decode cX6_learn 65 = .ok (.putfield 80, 3) := by decide +kernel
theorem dX6_learn_68 : decode cX6_learn 68 = .ok (.iload_n 1, 1) := by decide +kernel
theorem dX6_learn_69 : decode cX6_learn 69 = .ok (.istore_n 2, 1) := by decide +kernel
theorem dX6_learn_70 : decode cX6_learn 70 = .ok (.iload_n 2, 1) := by decide +kernel
theorem dX6_learn_71 : decode cX6_learn 71 = .ok (.ifCond .le 99, 3) := by decide +kernel
theorem dX6_learn_74 : decode cX6_learn 74 = .ok (.iload_n 2, 1) := by decide +kernel
theorem dX6_learn_75 : decode cX6_learn 75 = .ok (.istore_n 3, 1) := by decide +kernel
theorem dX6_learn_76 : decode cX6_learn 76 = .ok (.aload_n 0, 1) := by decide +kernel
theorem dX6_learn_77 : decode cX6_learn 77 = .ok (.iload_n 3, 1) := by decide +kernel
theorem dX6_learn_78 : decode cX6_learn 78 = .ok (.iload_n 2, 1) := by decide +kernel
theorem dX6_learn_79 : decode cX6_learn 79 = .ok (.invokevirtual 73, 3) := by decide +kernel
theorem dX6_learn_82 : decode cX6_learn 82 = .ok (.ifCond .eq 30, 3) := by decide +kernel
theorem dX6_learn_85 : decode cX6_learn 85 = .ok (.aload_n 0, 1) := by decide +kernel
theorem dX6_learn_86 : decode cX6_learn 86 = .ok (.iload_n 3, 1) := by decide +kernel
theorem dX6_learn_87 : decode cX6_learn 87 = .ok (.invokevirtual 83, 3) := by decide +kernel
theorem dX6_learn_90 : decode cX6_learn 90 = .ok (.ifCond .eq 22, 3) := by decide +kernel
theorem dX6_learn_93 : decode cX6_learn 93 = .ok (.aload_n 0, 1) := by decide +kernel
theorem dX6_learn_94 : decode cX6_learn 94 = .ok (.getfield 20, 3) := by decide +kernel
theorem dX6_learn_97 : decode cX6_learn 97 = .ok (.iload_n 2, 1) := by decide +kernel
theorem dX6_learn_98 : decode cX6_learn 98 = .ok (.iload_n 3, 1) := by decide +kernel
theorem dX6_learn_99 : decode cX6_learn 99 = .ok (.isub, 1) := by decide +kernel
theorem dX6_learn_100 : decode cX6_learn 100 = .ok (.iaload, 1) := by decide +kernel
theorem dX6_learn_101 : decode cX6_learn 101 = .ok (.iconst 1, 1) := by decide +kernel
theorem dX6_learn_102 : decode cX6_learn 102 = .ok (.iadd, 1) := by decide +kernel
theorem dX6_learn_103 : decode cX6_learn 103 = .ok (.aload_n 0, 1) := by decide +kernel
theorem dX6_learn_104 : decode cX6_learn 104 = .ok (.getfield 20, 3) := by decide +kernel
theorem dX6_learn_107 : decode cX6_learn 107 = .ok (.iload_n 2, 1) := by decide +kernel
theorem dX6_learn_108 : decode cX6_learn 108 = .ok (.iaload, 1) := by decide +kernel
theorem dX6_learn_109 : decode cX6_learn 109 = .ok (.if_icmp .eq 9, 3) := by decide +kernel
theorem dX6_learn_112 : decode cX6_learn 112 = .ok (.iinc 3 (-1), 3) := by decide +kernel
theorem dX6_learn_115 : decode cX6_learn 115 = .ok (.goto (-39), 3) := by decide +kernel
theorem dX6_learn_118 : decode cX6_learn 118 = .ok (.iconst 0, 1) := by decide +kernel
theorem dX6_learn_119 : decode cX6_learn 119 = .ok (.istore 4, 2) := by decide +kernel
theorem dX6_learn_121 : decode cX6_learn 121 = .ok (.iload 4, 2) := by decide +kernel
theorem dX6_learn_123 : decode cX6_learn 123 = .ok (.iconst 4, 1) := by decide +kernel
theorem dX6_learn_124 : decode cX6_learn 124 = .ok (.if_icmp .ge 29, 3) := by decide +kernel
theorem dX6_learn_127 : decode cX6_learn 127 = .ok (.aload_n 0, 1) := by decide +kernel
theorem dX6_learn_128 : decode cX6_learn 128 = .ok (.getfield 23, 3) := by decide +kernel
theorem dX6_learn_131 : decode cX6_learn 131 = .ok (.iconst 4, 1) := by decide +kernel
theorem dX6_learn_132 : decode cX6_learn 132 = .ok (.aload_n 0, 1) := by decide +kernel
theorem dX6_learn_133 : decode cX6_learn 133 = .ok (.getfield 80, 3) := by decide +kernel
theorem dX6_learn_136 : decode cX6_learn 136 = .ok (.imul, 1) := by decide +kernel
theorem dX6_learn_137 : decode cX6_learn 137 = .ok (.iload 4, 2) := by decide +kernel
theorem dX6_learn_139 : decode cX6_learn 139 = .ok (.iadd, 1) := by decide +kernel
theorem dX6_learn_140 : decode cX6_learn 140 = .ok (.iload_n 3, 1) := by decide +kernel
theorem dX6_learn_141 : decode cX6_learn 141 = .ok (.iload 4, 2) := by decide +kernel
theorem dX6_learn_143 : decode cX6_learn 143 = .ok (.invokestatic 58, 3) := by decide +kernel
theorem dX6_learn_146 : decode cX6_learn 146 = .ok (.iastore, 1) := by decide +kernel
theorem dX6_learn_147 : decode cX6_learn 147 = .ok (.iinc 4 1, 3) := by decide +kernel
theorem dX6_learn_150 : decode cX6_learn 150 = .ok (.goto (-29), 3) := by decide +kernel
theorem dX6_learn_153 : decode cX6_learn 153 = .ok (.aload_n 0, 1) := by decide +kernel
theorem dX6_learn_154 : decode cX6_learn 154 = .ok (.dup, 1) := by decide +kernel
theorem dX6_learn_155 : decode cX6_learn 155 = .ok (.getfield 80, 3) := by decide +kernel
theorem dX6_learn_158 : decode cX6_learn 158 = .ok (.iconst 1, 1) := by decide +kernel
theorem dX6_learn_159 : decode cX6_learn 159 = .ok (.iadd, 1) := by decide +kernel
theorem dX6_learn_160 : decode cX6_learn 160 = .ok (.putfield 80, 3) := by decide +kernel
theorem dX6_learn_163 : decode cX6_learn 163 = .ok (.iload_n 2, 1) := by decide +kernel
theorem dX6_learn_164 : decode cX6_learn 164 = .ok (.iload_n 3, 1) := by decide +kernel
theorem dX6_learn_165 : decode cX6_learn 165 = .ok (.isub, 1) := by decide +kernel
theorem dX6_learn_166 : decode cX6_learn 166 = .ok (.istore_n 2, 1) := by decide +kernel
theorem dX6_learn_167 : decode cX6_learn 167 = .ok (.goto (-97), 3) := by decide +kernel
theorem dX6_learn_170 : decode cX6_learn 170 = .ok (.return_, 1) := by decide +kernel
theorem dX6_fewestOf_0 : decode cX6_fewestOf 0 = .ok (.bipush 99, 2) := by decide +kernel
theorem dX6_fewestOf_2 : decode cX6_fewestOf 2 = .ok (.istore_n 2, 1) := by decide +kernel
theorem dX6_fewestOf_3 : decode cX6_fewestOf 3 = .ok (.iload_n 1, 1) := by decide +kernel
theorem dX6_fewestOf_4 : decode cX6_fewestOf 4 = .ok (.iconst 0, 1) := by decide +kernel
theorem dX6_fewestOf_5 : decode cX6_fewestOf 5 = .ok (.invokestatic 58, 3) := by decide +kernel
theorem dX6_fewestOf_8 : decode cX6_fewestOf 8 = .ok (.istore_n 3, 1) := by decide +kernel
theorem dX6_fewestOf_9 : decode cX6_fewestOf 9 = .ok (.iload_n 3, 1) := by decide +kernel
theorem dX6_fewestOf_10 : decode cX6_fewestOf 10 = .ok (.ifCond .lt 173, 3) := by decide +kernel
theorem dX6_fewestOf_13 : decode cX6_fewestOf 13 = .ok (.iload_n 1, 1) := by decide +kernel
theorem dX6_fewestOf_14 : decode cX6_fewestOf 14 = .ok (.iconst 1, 1) := by decide +kernel
theorem dX6_fewestOf_15 : decode cX6_fewestOf 15 = .ok (.invokestatic 58, 3) := by decide +kernel
theorem dX6_fewestOf_18 : decode cX6_fewestOf 18 = .ok (.istore 4, 2) := by decide +kernel
theorem dX6_fewestOf_20 : decode cX6_fewestOf 20 = .ok (.iload 4, 2) := by decide +kernel
theorem dX6_fewestOf_22 : decode cX6_fewestOf 22 = .ok (.ifCond .lt 155, 3) := by decide +kernel
theorem dX6_fewestOf_25 : decode cX6_fewestOf 25 = .ok (.iload_n 1, 1) := by decide +kernel
theorem dX6_fewestOf_26 : decode cX6_fewestOf 26 = .ok (.iconst 2, 1) := by decide +kernel
theorem dX6_fewestOf_27 : decode cX6_fewestOf 27 = .ok (.invokestatic 58, 3) := by decide +kernel
theorem dX6_fewestOf_30 : decode cX6_fewestOf 30 = .ok (.istore 5, 2) := by decide +kernel
theorem dX6_fewestOf_32 : decode cX6_fewestOf 32 = .ok (.iload 5, 2) := by decide +kernel
theorem dX6_fewestOf_34 : decode cX6_fewestOf 34 = .ok (.ifCond .lt 137, 3) := by decide +kernel
theorem dX6_fewestOf_37 : decode cX6_fewestOf 37 = .ok (.iload_n 1, 1) := by decide +kernel
theorem dX6_fewestOf_38 : decode cX6_fewestOf 38 = .ok (.iconst 3, 1) := by decide +kernel
theorem dX6_fewestOf_39 : decode cX6_fewestOf 39 = .ok (.invokestatic 58, 3) := by decide +kernel
theorem dX6_fewestOf_42 : decode cX6_fewestOf 42 = .ok (.istore 6, 2) := by decide +kernel
theorem dX6_fewestOf_44 : decode cX6_fewestOf 44 = .ok (.iload 6, 2) := by decide +kernel
theorem dX6_fewestOf_46 : decode cX6_fewestOf 46 = .ok (.ifCond .lt 119, 3) := by decide +kernel
theorem dX6_fewestOf_49 : decode cX6_fewestOf 49 = .ok (.bipush 7, 2) := by decide +kernel
theorem dX6_fewestOf_51 : decode cX6_fewestOf 51 = .ok (.bipush 7, 2) := by decide +kernel
theorem dX6_fewestOf_53 : decode cX6_fewestOf 53 = .ok (.bipush 7, 2) := by decide +kernel
theorem dX6_fewestOf_55 : decode cX6_fewestOf 55 = .ok (.iload_n 3, 1) := by decide +kernel
theorem dX6_fewestOf_56 : decode cX6_fewestOf 56 = .ok (.imul, 1) := by decide +kernel
theorem dX6_fewestOf_57 : decode cX6_fewestOf 57 = .ok (.iload 4, 2) := by decide +kernel
theorem dX6_fewestOf_59 : decode cX6_fewestOf 59 = .ok (.iadd, 1) := by decide +kernel
theorem dX6_fewestOf_60 : decode cX6_fewestOf 60 = .ok (.imul, 1) := by decide +kernel
theorem dX6_fewestOf_61 : decode cX6_fewestOf 61 = .ok (.iload 5, 2) := by decide +kernel
theorem dX6_fewestOf_63 : decode cX6_fewestOf 63 = .ok (.iadd, 1) := by decide +kernel
theorem dX6_fewestOf_64 : decode cX6_fewestOf 64 = .ok (.imul, 1) := by decide +kernel
theorem dX6_fewestOf_65 : decode cX6_fewestOf 65 = .ok (.iload 6, 2) := by decide +kernel
theorem dX6_fewestOf_67 : decode cX6_fewestOf 67 = .ok (.iadd, 1) := by decide +kernel
theorem dX6_fewestOf_68 : decode cX6_fewestOf 68 = .ok (.istore 7, 2) := by decide +kernel
theorem dX6_fewestOf_70 : decode cX6_fewestOf 70 = .ok (.iload 7, 2) := by decide +kernel
theorem dX6_fewestOf_72 : decode cX6_fewestOf 72 = .ok (.ifCond .le 48, 3) := by decide +kernel
theorem dX6_fewestOf_75 : decode cX6_fewestOf 75 = .ok (.iload_n 3, 1) := by decide +kernel
theorem dX6_fewestOf_76 : decode cX6_fewestOf 76 = .ok (.aload_n 0, 1) := by decide +kernel
theorem dX6_fewestOf_77 : decode cX6_fewestOf 77 = .ok (.iconst 0, 1) := by decide +kernel
theorem dX6_fewestOf_78 : decode cX6_fewestOf 78 = .ok (.invokevirtual 62, 3) := by decide +kernel
theorem dX6_fewestOf_81 : decode cX6_fewestOf 81 = .ok (.imul, 1) := by decide +kernel
theorem dX6_fewestOf_82 : decode cX6_fewestOf 82 = .ok (.iload 4, 2) := by decide +kernel
theorem dX6_fewestOf_84 : decode cX6_fewestOf 84 = .ok (.aload_n 0, 1) := by decide +kernel
theorem dX6_fewestOf_85 : decode cX6_fewestOf 85 = .ok (.iconst 1, 1) := by decide +kernel
theorem dX6_fewestOf_86 : decode cX6_fewestOf 86 = .ok (.invokevirtual 62, 3) := by decide +kernel
theorem dX6_fewestOf_89 : decode cX6_fewestOf 89 = .ok (.imul, 1) := by decide +kernel
theorem dX6_fewestOf_90 : decode cX6_fewestOf 90 = .ok (.iadd, 1) := by decide +kernel
theorem dX6_fewestOf_91 : decode cX6_fewestOf 91 = .ok (.iload 5, 2) := by decide +kernel
theorem dX6_fewestOf_93 : decode cX6_fewestOf 93 = .ok (.aload_n 0, 1) := by decide +kernel
theorem dX6_fewestOf_94 : decode cX6_fewestOf 94 = .ok (.iconst 2, 1) := by decide +kernel
theorem dX6_fewestOf_95 : decode cX6_fewestOf 95 = .ok (.invokevirtual 62, 3) := by decide +kernel
theorem dX6_fewestOf_98 : decode cX6_fewestOf 98 = .ok (.imul, 1) := by decide +kernel
theorem dX6_fewestOf_99 : decode cX6_fewestOf 99 = .ok (.iadd, 1) := by decide +kernel
theorem dX6_fewestOf_100 : decode cX6_fewestOf 100 = .ok (.iload 6, 2) := by decide +kernel
theorem dX6_fewestOf_102 : decode cX6_fewestOf 102 = .ok (.aload_n 0, 1) := by decide +kernel
theorem dX6_fewestOf_103 : decode cX6_fewestOf 103 = .ok (.iconst 3, 1) := by decide +kernel
theorem dX6_fewestOf_104 : decode cX6_fewestOf 104 = .ok (.invokevirtual 62, 3) := by decide +kernel
theorem dX6_fewestOf_107 : decode cX6_fewestOf 107 = .ok (.imul, 1) := by decide +kernel
theorem dX6_fewestOf_108 : decode cX6_fewestOf 108 = .ok (.iadd, 1) := by decide +kernel
theorem dX6_fewestOf_109 : decode cX6_fewestOf 109 = .ok (.aload_n 0, 1) := by decide +kernel
theorem dX6_fewestOf_110 : decode cX6_fewestOf 110 = .ok (.getfield 7, 3) := by decide +kernel
theorem dX6_fewestOf_113 : decode cX6_fewestOf 113 = .ok (.if_icmp .gt 7, 3) := by decide +kernel
theorem dX6_fewestOf_116 : decode cX6_fewestOf 116 = .ok (.iconst 1, 1) := by decide +kernel
theorem dX6_fewestOf_117 : decode cX6_fewestOf 117 = .ok (.goto 4, 3) := by decide +kernel
theorem dX6_fewestOf_120 : decode cX6_fewestOf 120 = .ok (.iconst 0, 1) := by decide +kernel
theorem dX6_fewestOf_121 : decode cX6_fewestOf 121 = .ok (.istore 8, 2) := by decide +kernel
theorem dX6_fewestOf_123 : decode cX6_fewestOf 123 = .ok (.iload 8, 2) := by decide +kernel
theorem dX6_fewestOf_125 : decode cX6_fewestOf 125 = .ok (.ifCond .eq 32, 3) := by decide +kernel
theorem dX6_fewestOf_128 : decode cX6_fewestOf 128 = .ok (.aload_n 0, 1) := by decide +kernel
theorem dX6_fewestOf_129 : decode cX6_fewestOf 129 = .ok (.getfield 20, 3) := by decide +kernel
theorem dX6_fewestOf_132 : decode cX6_fewestOf 132 = .ok (.iload_n 1, 1) := by decide +kernel
theorem dX6_fewestOf_133 : decode cX6_fewestOf 133 = .ok (.iload 7, 2) := by decide +kernel
theorem dX6_fewestOf_135 : decode cX6_fewestOf 135 = .ok (.isub, 1) := by decide +kernel
theorem dX6_fewestOf_136 : decode cX6_fewestOf 136 = .ok (.iaload, 1) := by decide +kernel
theorem dX6_fewestOf_137 : decode cX6_fewestOf 137 = .ok (.iconst 1, 1) := by decide +kernel
theorem dX6_fewestOf_138 : decode cX6_fewestOf 138 = .ok (.iadd, 1) := by decide +kernel
theorem dX6_fewestOf_139 : decode cX6_fewestOf 139 = .ok (.iload_n 2, 1) := by decide +kernel
theorem dX6_fewestOf_140 : decode cX6_fewestOf 140 = .ok (.if_icmp .ge 17, 3) := by decide +kernel
theorem dX6_fewestOf_143 : decode cX6_fewestOf 143 = .ok (.aload_n 0, 1) := by decide +kernel
theorem dX6_fewestOf_144 : decode cX6_fewestOf 144 = .ok (.getfield 20, 3) := by decide +kernel
theorem dX6_fewestOf_147 : decode cX6_fewestOf 147 = .ok (.iload_n 1, 1) := by decide +kernel
theorem dX6_fewestOf_148 : decode cX6_fewestOf 148 = .ok (.iload 7, 2) := by decide +kernel
theorem dX6_fewestOf_150 : decode cX6_fewestOf 150 = .ok (.isub, 1) := by decide +kernel
theorem dX6_fewestOf_151 : decode cX6_fewestOf 151 = .ok (.iaload, 1) := by decide +kernel
theorem dX6_fewestOf_152 : decode cX6_fewestOf 152 = .ok (.iconst 1, 1) := by decide +kernel
theorem dX6_fewestOf_153 : decode cX6_fewestOf 153 = .ok (.iadd, 1) := by decide +kernel
theorem dX6_fewestOf_154 : decode cX6_fewestOf 154 = .ok (.goto 4, 3) := by decide +kernel
theorem dX6_fewestOf_157 : decode cX6_fewestOf 157 = .ok (.iload_n 2, 1) := by decide +kernel
theorem dX6_fewestOf_158 : decode cX6_fewestOf 158 = .ok (.istore_n 2, 1) := by decide +kernel
theorem dX6_fewestOf_159 : decode cX6_fewestOf 159 = .ok (.iinc 6 (-1), 3) := by decide +kernel
theorem dX6_fewestOf_162 : decode cX6_fewestOf 162 = .ok (.goto (-118), 3) := by decide +kernel
theorem dX6_fewestOf_165 : decode cX6_fewestOf 165 = .ok (.iinc 5 (-1), 3) := by decide +kernel
theorem dX6_fewestOf_168 : decode cX6_fewestOf 168 = .ok (.goto (-136), 3) := by decide +kernel
theorem dX6_fewestOf_171 : decode cX6_fewestOf 171 = .ok (.iinc 4 (-1), 3) := by decide +kernel
theorem dX6_fewestOf_174 : decode cX6_fewestOf 174 = .ok (.goto (-154), 3) := by decide +kernel
theorem dX6_fewestOf_177 : decode cX6_fewestOf 177 = .ok (.iinc 3 (-1), 3) := by decide +kernel
theorem dX6_fewestOf_180 : decode cX6_fewestOf 180 = .ok (.goto (-171), 3) := by decide +kernel
theorem dX6_fewestOf_183 : decode cX6_fewestOf 183 = .ok (.iload_n 2, 1) := by decide +kernel
theorem dX6_fewestOf_184 : decode cX6_fewestOf 184 = .ok (.ireturn, 1) := by decide +kernel
theorem dX6_rolls_0 : decode cX6_rolls 0 = .ok (.aload_n 0, 1) := by decide +kernel
theorem dX6_rolls_1 : decode cX6_rolls 1 = .ok (.invokevirtual 87, 3) := by decide +kernel
theorem dX6_rolls_4 : decode cX6_rolls 4 = .ok (.aload_n 0, 1) := by decide +kernel
theorem dX6_rolls_5 : decode cX6_rolls 5 = .ok (.getfield 80, 3) := by decide +kernel
theorem dX6_rolls_8 : decode cX6_rolls 8 = .ok (.ireturn, 1) := by decide +kernel
theorem dX6_cut_0 : decode cX6_cut 0 = .ok (.aload_n 0, 1) := by decide +kernel
theorem dX6_cut_1 : decode cX6_cut 1 = .ok (.invokevirtual 87, 3) := by decide +kernel
theorem dX6_cut_4 : decode cX6_cut 4 = .ok (.iload_n 1, 1) := by decide +kernel
theorem dX6_cut_5 : decode cX6_cut 5 = .ok (.ifCond .lt 36, 3) := by decide +kernel
theorem dX6_cut_8 : decode cX6_cut 8 = .ok (.iload_n 1, 1) := by decide +kernel
theorem dX6_cut_9 : decode cX6_cut 9 = .ok (.aload_n 0, 1) := by decide +kernel
theorem dX6_cut_10 : decode cX6_cut 10 = .ok (.getfield 80, 3) := by decide +kernel
theorem dX6_cut_13 : decode cX6_cut 13 = .ok (.if_icmp .ge 28, 3) := by decide +kernel
theorem dX6_cut_16 : decode cX6_cut 16 = .ok (.iload_n 2, 1) := by decide +kernel
theorem dX6_cut_17 : decode cX6_cut 17 = .ok (.ifCond .lt 24, 3) := by decide +kernel
theorem dX6_cut_20 : decode cX6_cut 20 = .ok (.iload_n 2, 1) := by decide +kernel
theorem dX6_cut_21 : decode cX6_cut 21 = .ok (.aload_n 0, 1) := by decide +kernel
theorem dX6_cut_22 : decode cX6_cut 22 = .ok (.getfield 52, 3) := by decide +kernel
theorem dX6_cut_25 : decode cX6_cut 25 = .ok (.if_icmp .ge 16, 3) := by decide +kernel
theorem dX6_cut_28 : decode cX6_cut 28 = .ok (.aload_n 0, 1) := by decide +kernel
theorem dX6_cut_29 : decode cX6_cut 29 = .ok (.getfield 23, 3) := by decide +kernel
theorem dX6_cut_32 : decode cX6_cut 32 = .ok (.iconst 4, 1) := by decide +kernel
theorem dX6_cut_33 : decode cX6_cut 33 = .ok (.iload_n 1, 1) := by decide +kernel
theorem dX6_cut_34 : decode cX6_cut 34 = .ok (.imul, 1) := by decide +kernel
theorem dX6_cut_35 : decode cX6_cut 35 = .ok (.iload_n 2, 1) := by decide +kernel
theorem dX6_cut_36 : decode cX6_cut 36 = .ok (.iadd, 1) := by decide +kernel
theorem dX6_cut_37 : decode cX6_cut 37 = .ok (.iaload, 1) := by decide +kernel
theorem dX6_cut_38 : decode cX6_cut 38 = .ok (.goto 4, 3) := by decide +kernel
theorem dX6_cut_41 : decode cX6_cut 41 = .ok (.iconst (-1), 1) := by decide +kernel
theorem dX6_cut_42 : decode cX6_cut 42 = .ok (.ireturn, 1) := by decide +kernel
theorem dX6_with_0 : decode cX6_with 0 = .ok (.iconst 0, 1) := by decide +kernel
theorem dX6_with_1 : decode cX6_with 1 = .ok (.istore 5, 2) := by decide +kernel
theorem dX6_with_3 : decode cX6_with 3 = .ok (.iconst 0, 1) := by decide +kernel
theorem dX6_with_4 : decode cX6_with 4 = .ok (.istore 6, 2) := by decide +kernel
theorem dX6_with_6 : decode cX6_with 6 = .ok (.iload 6, 2) := by decide +kernel
theorem dX6_with_8 : decode cX6_with 8 = .ok (.iconst 4, 1) := by decide +kernel
theorem dX6_with_9 : decode cX6_with 9 = .ok (.if_icmp .ge 70, 3) := by decide +kernel
theorem dX6_with_12 : decode cX6_with 12 = .ok (.iload 6, 2) := by decide +kernel
theorem dX6_with_14 : decode cX6_with 14 = .ok (.ifCond .ne 7, 3) := by decide +kernel
theorem dX6_with_17 : decode cX6_with 17 = .ok (.iload_n 1, 1) := by decide +kernel
theorem dX6_with_18 : decode cX6_with 18 = .ok (.goto 25, 3) := by decide +kernel
theorem dX6_with_21 : decode cX6_with 21 = .ok (.iload 6, 2) := by decide +kernel
theorem dX6_with_23 : decode cX6_with 23 = .ok (.iconst 1, 1) := by decide +kernel
theorem dX6_with_24 : decode cX6_with 24 = .ok (.if_icmp .ne 7, 3) := by decide +kernel
theorem dX6_with_27 : decode cX6_with 27 = .ok (.iload_n 2, 1) := by decide +kernel
theorem dX6_with_28 : decode cX6_with 28 = .ok (.goto 15, 3) := by decide +kernel
theorem dX6_with_31 : decode cX6_with 31 = .ok (.iload 6, 2) := by decide +kernel
theorem dX6_with_33 : decode cX6_with 33 = .ok (.iconst 2, 1) := by decide +kernel
theorem dX6_with_34 : decode cX6_with 34 = .ok (.if_icmp .ne 7, 3) := by decide +kernel
theorem dX6_with_37 : decode cX6_with 37 = .ok (.iload_n 3, 1) := by decide +kernel
theorem dX6_with_38 : decode cX6_with 38 = .ok (.goto 5, 3) := by decide +kernel
theorem dX6_with_41 : decode cX6_with 41 = .ok (.iload 4, 2) := by decide +kernel
theorem dX6_with_43 : decode cX6_with 43 = .ok (.istore 7, 2) := by decide +kernel
theorem dX6_with_45 : decode cX6_with 45 = .ok (.iload 7, 2) := by decide +kernel
theorem dX6_with_47 : decode cX6_with 47 = .ok (.ifCond .lt 14, 3) := by decide +kernel
theorem dX6_with_50 : decode cX6_with 50 = .ok (.iload 7, 2) := by decide +kernel
theorem dX6_with_52 : decode cX6_with 52 = .ok (.aload_n 0, 1) := by decide +kernel
theorem dX6_with_53 : decode cX6_with 53 = .ok (.iload 6, 2) := by decide +kernel
theorem dX6_with_55 : decode cX6_with 55 = .ok (.invokevirtual 66, 3) := by decide +kernel
theorem dX6_with_58 : decode cX6_with 58 = .ok (.if_icmp .le 5, 3) := by decide +kernel
theorem dX6_with_61 : decode cX6_with 61 = .ok (.iconst (-1), 1) := by decide +kernel
theorem dX6_with_62 : decode cX6_with 62 = .ok (.ireturn, 1) := by decide +kernel
theorem dX6_with_63 : decode cX6_with 63 = .ok (.bipush 7, 2) := by decide +kernel
theorem dX6_with_65 : decode cX6_with 65 = .ok (.iload 5, 2) := by decide +kernel
theorem dX6_with_67 : decode cX6_with 67 = .ok (.imul, 1) := by decide +kernel
theorem dX6_with_68 : decode cX6_with 68 = .ok (.iload 7, 2) := by decide +kernel
theorem dX6_with_70 : decode cX6_with 70 = .ok (.iadd, 1) := by decide +kernel
theorem dX6_with_71 : decode cX6_with 71 = .ok (.istore 5, 2) := by decide +kernel
theorem dX6_with_73 : decode cX6_with 73 = .ok (.iinc 6 1, 3) := by decide +kernel
theorem dX6_with_76 : decode cX6_with 76 = .ok (.goto (-70), 3) := by decide +kernel
theorem dX6_with_79 : decode cX6_with 79 = .ok (.aload_n 0, 1) := by decide +kernel
theorem dX6_with_80 : decode cX6_with 80 = .ok (.iload 5, 2) := by decide +kernel
theorem dX6_with_82 : decode cX6_with 82 = .ok (.invokevirtual 83, 3) := by decide +kernel
theorem dX6_with_85 : decode cX6_with 85 = .ok (.ifCond .ne 5, 3) := by decide +kernel
theorem dX6_with_88 : decode cX6_with 88 = .ok (.iconst (-1), 1) := by decide +kernel
theorem dX6_with_89 : decode cX6_with 89 = .ok (.ireturn, 1) := by decide +kernel
theorem dX6_with_90 : decode cX6_with 90 = .ok (.aload_n 0, 1) := by decide +kernel
theorem dX6_with_91 : decode cX6_with 91 = .ok (.invokevirtual 87, 3) := by decide +kernel
theorem dX6_with_94 : decode cX6_with 94 = .ok (.iconst 1, 1) := by decide +kernel
theorem dX6_with_95 : decode cX6_with 95 = .ok (.aload_n 0, 1) := by decide +kernel
theorem dX6_with_96 : decode cX6_with 96 = .ok (.getfield 20, 3) := by decide +kernel
theorem dX6_with_99 : decode cX6_with 99 = .ok (.aload_n 0, 1) := by decide +kernel
theorem dX6_with_100 : decode cX6_with 100 = .ok (.invokevirtual 69, 3) := by decide +kernel
theorem dX6_with_103 : decode cX6_with 103 = .ok (.iload 5, 2) := by decide +kernel
theorem dX6_with_105 : decode cX6_with 105 = .ok (.isub, 1) := by decide +kernel
theorem dX6_with_106 : decode cX6_with 106 = .ok (.iaload, 1) := by decide +kernel
theorem dX6_with_107 : decode cX6_with 107 = .ok (.iadd, 1) := by decide +kernel
theorem dX6_with_108 : decode cX6_with 108 = .ok (.ireturn, 1) := by decide +kernel
theorem dX6_most_0 : decode cX6_most 0 = .ok (.iload_n 1, 1) := by decide +kernel
theorem dX6_most_1 : decode cX6_most 1 = .ok (.aload_n 0, 1) := by decide +kernel
theorem dX6_most_2 : decode cX6_most 2 = .ok (.getfield 52, 3) := by decide +kernel
theorem dX6_most_5 : decode cX6_most 5 = .ok (.if_icmp .ge 14, 3) := by decide +kernel
theorem dX6_most_8 : decode cX6_most 8 = .ok (.iload_n 2, 1) := by decide +kernel
theorem dX6_most_9 : decode cX6_most 9 = .ok (.aload_n 0, 1) := by decide +kernel
theorem dX6_most_10 : decode cX6_most 10 = .ok (.getfield 13, 3) := by decide +kernel
theorem dX6_most_13 : decode cX6_most 13 = .ok (.iload_n 1, 1) := by decide +kernel
theorem dX6_most_14 : decode cX6_most 14 = .ok (.iaload, 1) := by decide +kernel
theorem dX6_most_15 : decode cX6_most 15 = .ok (.idiv, 1) := by decide +kernel
theorem dX6_most_16 : decode cX6_most 16 = .ok (.goto 4, 3) := by decide +kernel
theorem dX6_most_19 : decode cX6_most 19 = .ok (.iconst 0, 1) := by decide +kernel
theorem dX6_most_20 : decode cX6_most 20 = .ok (.ireturn, 1) := by decide +kernel
theorem dX6_dear_0 : decode cX6_dear 0 = .ok (.ldc2_w 90, 3) := by decide +kernel
theorem dX6_dear_3 : decode cX6_dear 3 = .ok (.lstore 9, 2) := by decide +kernel
theorem dX6_dear_5 : decode cX6_dear 5 = .ok (.aload_n 0, 1) := by decide +kernel
theorem dX6_dear_6 : decode cX6_dear 6 = .ok (.iconst 0, 1) := by decide +kernel
theorem dX6_dear_7 : decode cX6_dear 7 = .ok (.aload_n 0, 1) := by decide +kernel
theorem dX6_dear_8 : decode cX6_dear 8 = .ok (.getfield 7, 3) := by decide +kernel
theorem dX6_dear_11 : decode cX6_dear 11 = .ok (.invokevirtual 92, 3) := by decide +kernel
theorem dX6_dear_14 : decode cX6_dear 14 = .ok (.istore 11, 2) := by decide +kernel
theorem dX6_dear_16 : decode cX6_dear 16 = .ok (.iload 11, 2) := by decide +kernel
theorem dX6_dear_18 : decode cX6_dear 18 = .ok (.ifCond .lt 166, 3) := by decide +kernel
theorem dX6_dear_21 : decode cX6_dear 21 = .ok (.aload_n 0, 1) := by decide +kernel
theorem dX6_dear_22 : decode cX6_dear 22 = .ok (.getfield 7, 3) := by decide +kernel
theorem dX6_dear_25 : decode cX6_dear 25 = .ok (.iload 11, 2) := by decide +kernel
theorem dX6_dear_27 : decode cX6_dear 27 = .ok (.aload_n 0, 1) := by decide +kernel
theorem dX6_dear_28 : decode cX6_dear 28 = .ok (.iconst 0, 1) := by decide +kernel
theorem dX6_dear_29 : decode cX6_dear 29 = .ok (.invokevirtual 62, 3) := by decide +kernel
theorem dX6_dear_32 : decode cX6_dear 32 = .ok (.imul, 1) := by decide +kernel
theorem dX6_dear_33 : decode cX6_dear 33 = .ok (.isub, 1) := by decide +kernel
theorem dX6_dear_34 : decode cX6_dear 34 = .ok (.istore 12, 2) := by decide +kernel
theorem dX6_dear_36 : decode cX6_dear 36 = .ok (.aload_n 0, 1) := by decide +kernel
theorem dX6_dear_37 : decode cX6_dear 37 = .ok (.iconst 1, 1) := by decide +kernel
theorem dX6_dear_38 : decode cX6_dear 38 = .ok (.iload 12, 2) := by decide +kernel
theorem dX6_dear_40 : decode cX6_dear 40 = .ok (.invokevirtual 92, 3) := by decide +kernel
theorem dX6_dear_43 : decode cX6_dear 43 = .ok (.istore 13, 2) := by decide +kernel
theorem dX6_dear_45 : decode cX6_dear 45 = .ok (.iload 13, 2) := by decide +kernel
theorem dX6_dear_47 : decode cX6_dear 47 = .ok (.ifCond .lt 131, 3) := by decide +kernel
theorem dX6_dear_50 : decode cX6_dear 50 = .ok (.iload 12, 2) := by decide +kernel
theorem dX6_dear_52 : decode cX6_dear 52 = .ok (.iload 13, 2) := by decide +kernel
theorem dX6_dear_54 : decode cX6_dear 54 = .ok (.aload_n 0, 1) := by decide +kernel
theorem dX6_dear_55 : decode cX6_dear 55 = .ok (.iconst 1, 1) := by decide +kernel
theorem dX6_dear_56 : decode cX6_dear 56 = .ok (.invokevirtual 62, 3) := by decide +kernel
theorem dX6_dear_59 : decode cX6_dear 59 = .ok (.imul, 1) := by decide +kernel
theorem dX6_dear_60 : decode cX6_dear 60 = .ok (.isub, 1) := by decide +kernel
theorem dX6_dear_61 : decode cX6_dear 61 = .ok (.istore 14, 2) := by decide +kernel
theorem dX6_dear_63 : decode cX6_dear 63 = .ok (.aload_n 0, 1) := by decide +kernel
theorem dX6_dear_64 : decode cX6_dear 64 = .ok (.iconst 2, 1) := by decide +kernel
theorem dX6_dear_65 : decode cX6_dear 65 = .ok (.iload 14, 2) := by decide +kernel
theorem dX6_dear_67 : decode cX6_dear 67 = .ok (.invokevirtual 92, 3) := by decide +kernel
theorem dX6_dear_70 : decode cX6_dear 70 = .ok (.istore 15, 2) := by decide +kernel
theorem dX6_dear_72 : decode cX6_dear 72 = .ok (.iload 15, 2) := by decide +kernel
theorem dX6_dear_74 : decode cX6_dear 74 = .ok (.ifCond .lt 98, 3) := by decide +kernel
theorem dX6_dear_77 : decode cX6_dear 77 = .ok (.aload_n 0, 1) := by decide +kernel
theorem dX6_dear_78 : decode cX6_dear 78 = .ok (.iconst 3, 1) := by decide +kernel
theorem dX6_dear_79 : decode cX6_dear 79 = .ok (.iload 14, 2) := by decide +kernel
theorem dX6_dear_81 : decode cX6_dear 81 = .ok (.iload 15, 2) := by decide +kernel
theorem dX6_dear_83 : decode cX6_dear 83 = .ok (.aload_n 0, 1) := by decide +kernel
theorem dX6_dear_84 : decode cX6_dear 84 = .ok (.iconst 2, 1) := by decide +kernel
theorem dX6_dear_85 : decode cX6_dear 85 = .ok (.invokevirtual 62, 3) := by decide +kernel
theorem dX6_dear_88 : decode cX6_dear 88 = .ok (.imul, 1) := by decide +kernel
theorem dX6_dear_89 : decode cX6_dear 89 = .ok (.isub, 1) := by decide +kernel
theorem dX6_dear_90 : decode cX6_dear 90 = .ok (.invokevirtual 92, 3) := by decide +kernel
theorem dX6_dear_93 : decode cX6_dear 93 = .ok (.istore 16, 2) := by decide +kernel
theorem dX6_dear_95 : decode cX6_dear 95 = .ok (.iload 11, 2) := by decide +kernel
theorem dX6_dear_97 : decode cX6_dear 97 = .ok (.i2l, 1) := by decide +kernel
theorem dX6_dear_98 : decode cX6_dear 98 = .ok (.lload_n 1, 1) := by decide +kernel
theorem dX6_dear_99 : decode cX6_dear 99 = .ok (.lmul, 1) := by decide +kernel
theorem dX6_dear_100 : decode cX6_dear 100 = .ok (.iload 13, 2) := by decide +kernel
theorem dX6_dear_102 : decode cX6_dear 102 = .ok (.i2l, 1) := by decide +kernel
theorem dX6_dear_103 : decode cX6_dear 103 = .ok (.lload_n 3, 1) := by decide +kernel
theorem dX6_dear_104 : decode cX6_dear 104 = .ok (.lmul, 1) := by decide +kernel
theorem dX6_dear_105 : decode cX6_dear 105 = .ok (.ladd, 1) := by decide +kernel
theorem dX6_dear_106 : decode cX6_dear 106 = .ok (.iload 15, 2) := by decide +kernel
theorem dX6_dear_108 : decode cX6_dear 108 = .ok (.i2l, 1) := by decide +kernel
theorem dX6_dear_109 : decode cX6_dear 109 = .ok (.lload 5, 2) := by decide +kernel
theorem dX6_dear_111 : decode cX6_dear 111 = .ok (.lmul, 1) := by decide +kernel
theorem dX6_dear_112 : decode cX6_dear 112 = .ok (.ladd, 1) := by decide +kernel
theorem dX6_dear_113 : decode cX6_dear 113 = .ok (.iload 16, 2) := by decide +kernel
theorem dX6_dear_115 : decode cX6_dear 115 = .ok (.i2l, 1) := by decide +kernel
theorem dX6_dear_116 : decode cX6_dear 116 = .ok (.lload 7, 2) := by decide +kernel
theorem dX6_dear_118 : decode cX6_dear 118 = .ok (.lmul, 1) := by decide +kernel
theorem dX6_dear_119 : decode cX6_dear 119 = .ok (.ladd, 1) := by decide +kernel
theorem dX6_dear_120 : decode cX6_dear 120 = .ok (.lstore 17, 2) := by decide +kernel
theorem dX6_dear_122 : decode cX6_dear 122 = .ok (.lload 17, 2) := by decide +kernel
theorem dX6_dear_124 : decode cX6_dear 124 = .ok (.lload 9, 2) := by decide +kernel
theorem dX6_dear_126 : decode cX6_dear 126 = .ok (.lcmp, 1) := by decide +kernel
theorem dX6_dear_127 : decode cX6_dear 127 = .ok (.ifCond .le 39, 3) := by decide +kernel
theorem dX6_dear_130 : decode cX6_dear 130 = .ok (.lload 17, 2) := by decide +kernel
theorem dX6_dear_132 : decode cX6_dear 132 = .ok (.lstore 9, 2) := by decide +kernel
theorem dX6_dear_134 : decode cX6_dear 134 = .ok (.aload_n 0, 1) := by decide +kernel
theorem dX6_dear_135 : decode cX6_dear 135 = .ok (.getfield 26, 3) := by decide +kernel
theorem dX6_dear_138 : decode cX6_dear 138 = .ok (.iconst 0, 1) := by decide +kernel
theorem dX6_dear_139 : decode cX6_dear 139 = .ok (.iload 11, 2) := by decide +kernel
theorem dX6_dear_141 : decode cX6_dear 141 = .ok (.iastore, 1) := by decide +kernel
theorem dX6_dear_142 : decode cX6_dear 142 = .ok (.aload_n 0, 1) := by decide +kernel
theorem dX6_dear_143 : decode cX6_dear 143 = .ok (.getfield 26, 3) := by decide +kernel
theorem dX6_dear_146 : decode cX6_dear 146 = .ok (.iconst 1, 1) := by decide +kernel
theorem dX6_dear_147 : decode cX6_dear 147 = .ok (.iload 13, 2) := by decide +kernel
theorem dX6_dear_149 : decode cX6_dear 149 = .ok (.iastore, 1) := by decide +kernel
theorem dX6_dear_150 : decode cX6_dear 150 = .ok (.aload_n 0, 1) := by decide +kernel
theorem dX6_dear_151 : decode cX6_dear 151 = .ok (.getfield 26, 3) := by decide +kernel
theorem dX6_dear_154 : decode cX6_dear 154 = .ok (.iconst 2, 1) := by decide +kernel
theorem dX6_dear_155 : decode cX6_dear 155 = .ok (.iload 15, 2) := by decide +kernel
theorem dX6_dear_157 : decode cX6_dear 157 = .ok (.iastore, 1) := by decide +kernel
theorem dX6_dear_158 : decode cX6_dear 158 = .ok (.aload_n 0, 1) := by decide +kernel
theorem dX6_dear_159 : decode cX6_dear 159 = .ok (.getfield 26, 3) := by decide +kernel
theorem dX6_dear_162 : decode cX6_dear 162 = .ok (.iconst 3, 1) := by decide +kernel
theorem dX6_dear_163 : decode cX6_dear 163 = .ok (.iload 16, 2) := by decide +kernel
theorem dX6_dear_165 : decode cX6_dear 165 = .ok (.iastore, 1) := by decide +kernel
