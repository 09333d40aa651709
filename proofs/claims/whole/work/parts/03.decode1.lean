theorem dX3_pieces_21 : decode cX3_pieces 21 = .ok (.ireturn, 1) := by decide +kernel
theorem dX3_make_0 : decode cX3_make 0 = .ok (.aload_n 0, 1) := by decide +kernel
theorem dX3_make_1 : decode cX3_make 1 = .ok (.getfield 25, 3) := by decide +kernel
theorem dX3_make_4 : decode cX3_make 4 = .ok (.getfield 36, 3) := by decide +kernel
theorem dX3_make_7 : decode cX3_make 7 = .ok (.iconst 0, 1) := by decide +kernel
theorem dX3_make_8 : decode cX3_make 8 = .ok (.aload_n 0, 1) := by decide +kernel
theorem dX3_make_9 : decode cX3_make 9 = .ok (.getfield 15, 3) := by decide +kernel
theorem dX3_make_12 : decode cX3_make 12 = .ok (.iconst 0, 1) := by decide +kernel
theorem dX3_make_13 : decode cX3_make 13 = .ok (.iconst 4, 1) := by decide +kernel
theorem dX3_make_14 : decode cX3_make 14 = .ok (.invokestatic 41, 3) := by decide +kernel
theorem dX3_make_17 : decode cX3_make 17 = .ok (.aload_n 0, 1) := by decide +kernel
theorem dX3_make_18 : decode cX3_make 18 = .ok (.getfield 18, 3) := by decide +kernel
theorem dX3_make_21 : decode cX3_make 21 = .ok (.iconst 0, 1) := by decide +kernel
theorem dX3_make_22 : decode cX3_make 22 = .ok (.invokestatic 47, 3) := by decide +kernel
theorem dX3_make_25 : decode cX3_make 25 = .ok (.aload_n 0, 1) := by decide +kernel
theorem dX3_make_26 : decode cX3_make 26 = .ok (.iconst 0, 1) := by decide +kernel
theorem dX3_make_27 : decode cX3_make 27 = .ok (.invokevirtual 53, 3) := by decide +kernel
theorem dX3_make_30 : decode cX3_make 30 = .ok (.aload_n 0, 1) := by decide +kernel
theorem dX3_make_31 : decode cX3_make 31 = .ok (.getfield 29, 3) := by decide +kernel
theorem dX3_make_34 : decode cX3_make 34 = .ok (.aload_n 0, 1) := by decide +kernel
theorem dX3_make_35 : decode cX3_make 35 = .ok (.getfield 15, 3) := by decide +kernel
theorem dX3_make_38 : decode cX3_make 38 = .ok (.invokestatic 57, 3) := by decide +kernel
theorem dX3_make_41 : decode cX3_make 41 = .ok (.invokevirtual 61, 3) := by decide +kernel
theorem dX3_make_44 : decode cX3_make 44 = .ok (.istore_n 1, 1) := by decide +kernel
theorem dX3_make_45 : decode cX3_make 45 = .ok (.iconst 0, 1) := by decide +kernel
theorem dX3_make_46 : decode cX3_make 46 = .ok (.istore_n 2, 1) := by decide +kernel
theorem dX3_make_47 : decode cX3_make 47 = .ok (.iload_n 2, 1) := by decide +kernel
theorem dX3_make_48 : decode cX3_make 48 = .ok (.iload_n 1, 1) := by decide +kernel
theorem dX3_make_49 : decode cX3_make 49 = .ok (.if_icmp .ge 42, 3) := by decide +kernel
theorem dX3_make_52 : decode cX3_make 52 = .ok (.iconst 0, 1) := by decide +kernel
theorem dX3_make_53 : decode cX3_make 53 = .ok (.istore_n 3, 1) := by decide +kernel
theorem dX3_make_54 : decode cX3_make 54 = .ok (.iload_n 3, 1) := by decide +kernel
theorem dX3_make_55 : decode cX3_make 55 = .ok (.getstatic 67, 3) := by decide +kernel
theorem dX3_make_58 : decode cX3_make 58 = .ok (.iconst 4, 1) := by decide +kernel
theorem dX3_make_59 : decode cX3_make 59 = .ok (.iaload, 1) := by decide +kernel
theorem dX3_make_60 : decode cX3_make 60 = .ok (.if_icmp .ge 20, 3) := by decide +kernel
theorem dX3_make_63 : decode cX3_make 63 = .ok (.aload_n 0, 1) := by decide +kernel
theorem dX3_make_64 : decode cX3_make 64 = .ok (.invokevirtual 70, 3) := by decide +kernel
theorem dX3_make_67 : decode cX3_make 67 = .ok (.ifCond .ne 13, 3) := by decide +kernel
theorem dX3_make_70 : decode cX3_make 70 = .ok (.aload_n 0, 1) := by decide +kernel
theorem dX3_make_71 : decode cX3_make 71 = .ok (.invokevirtual 74, 3) := by decide +kernel
theorem dX3_make_74 : decode cX3_make 74 = .ok (.iinc 3 1, 3) := by decide +kernel
theorem dX3_make_77 : decode cX3_make 77 = .ok (.goto (-23), 3) := by decide +kernel
theorem dX3_make_80 : decode cX3_make 80 = .ok (.aload_n 0, 1) := by decide +kernel
theorem dX3_make_81 : decode cX3_make 81 = .ok (.iload_n 2, 1) := by decide +kernel
theorem dX3_make_82 : decode cX3_make 82 = .ok (.invokevirtual 77, 3) := by decide +kernel
theorem dX3_make_85 : decode cX3_make 85 = .ok (.iinc 2 1, 3) := by decide +kernel
theorem dX3_make_88 : decode cX3_make 88 = .ok (.goto (-41), 3) := by decide +kernel
theorem dX3_make_91 : decode cX3_make 91 = .ok (.aload_n 0, 1) := by decide +kernel
theorem dX3_make_92 : decode cX3_make 92 = .ok (.iconst 1, 1) := by decide +kernel
theorem dX3_make_93 : decode cX3_make 93 = .ok (.putfield 21, 3) := by decide +kernel
theorem dX3_make_96 : decode cX3_make 96 = .ok (.return_, 1) := by decide +kernel
theorem dX3_savesARoll_0 : decode cX3_savesARoll 0 = .ok (.iconst 0, 1) := by decide +kernel
theorem dX3_savesARoll_1 : decode cX3_savesARoll 1 = .ok (.istore_n 1, 1) := by decide +kernel
theorem dX3_savesARoll_2 : decode cX3_savesARoll 2 = .ok (.iload_n 1, 1) := by decide +kernel
theorem dX3_savesARoll_3 : decode cX3_savesARoll 3 = .ok (.iconst 4, 1) := by decide +kernel
theorem dX3_savesARoll_4 : decode cX3_savesARoll 4 = .ok (.if_icmp .ge 26, 3) := by decide +kernel
theorem dX3_savesARoll_7 : decode cX3_savesARoll 7 = .ok (.aload_n 0, 1) := by decide +kernel
theorem dX3_savesARoll_8 : decode cX3_savesARoll 8 = .ok (.getfield 18, 3) := by decide +kernel
theorem dX3_savesARoll_11 : decode cX3_savesARoll 11 = .ok (.iload_n 1, 1) := by decide +kernel
theorem dX3_savesARoll_12 : decode cX3_savesARoll 12 = .ok (.iaload, 1) := by decide +kernel
theorem dX3_savesARoll_13 : decode cX3_savesARoll 13 = .ok (.aload_n 0, 1) := by decide +kernel
theorem dX3_savesARoll_14 : decode cX3_savesARoll 14 = .ok (.getfield 15, 3) := by decide +kernel
theorem dX3_savesARoll_17 : decode cX3_savesARoll 17 = .ok (.iload_n 1, 1) := by decide +kernel
theorem dX3_savesARoll_18 : decode cX3_savesARoll 18 = .ok (.iaload, 1) := by decide +kernel
theorem dX3_savesARoll_19 : decode cX3_savesARoll 19 = .ok (.if_icmp .le 5, 3) := by decide +kernel
theorem dX3_savesARoll_22 : decode cX3_savesARoll 22 = .ok (.iconst 0, 1) := by decide +kernel
theorem dX3_savesARoll_23 : decode cX3_savesARoll 23 = .ok (.ireturn, 1) := by decide +kernel
theorem dX3_savesARoll_24 : decode cX3_savesARoll 24 = .ok (.iinc 1 1, 3) := by decide +kernel
theorem dX3_savesARoll_27 : decode cX3_savesARoll 27 = .ok (.goto (-25), 3) := by decide +kernel
theorem dX3_savesARoll_30 : decode cX3_savesARoll 30 = .ok (.aload_n 0, 1) := by decide +kernel
theorem dX3_savesARoll_31 : decode cX3_savesARoll 31 = .ok (.getfield 15, 3) := by decide +kernel
theorem dX3_savesARoll_34 : decode cX3_savesARoll 34 = .ok (.invokestatic 57, 3) := by decide +kernel
theorem dX3_savesARoll_37 : decode cX3_savesARoll 37 = .ok (.istore_n 1, 1) := by decide +kernel
theorem dX3_savesARoll_38 : decode cX3_savesARoll 38 = .ok (.aload_n 0, 1) := by decide +kernel
theorem dX3_savesARoll_39 : decode cX3_savesARoll 39 = .ok (.getfield 29, 3) := by decide +kernel
theorem dX3_savesARoll_42 : decode cX3_savesARoll 42 = .ok (.iload_n 1, 1) := by decide +kernel
theorem dX3_savesARoll_43 : decode cX3_savesARoll 43 = .ok (.aload_n 0, 1) := by decide +kernel
theorem dX3_savesARoll_44 : decode cX3_savesARoll 44 = .ok (.getfield 18, 3) := by decide +kernel
theorem dX3_savesARoll_47 : decode cX3_savesARoll 47 = .ok (.invokestatic 57, 3) := by decide +kernel
theorem dX3_savesARoll_50 : decode cX3_savesARoll 50 = .ok (.isub, 1) := by decide +kernel
theorem dX3_savesARoll_51 : decode cX3_savesARoll 51 = .ok (.invokevirtual 61, 3) := by decide +kernel
theorem dX3_savesARoll_54 : decode cX3_savesARoll 54 = .ok (.aload_n 0, 1) := by decide +kernel
theorem dX3_savesARoll_55 : decode cX3_savesARoll 55 = .ok (.getfield 29, 3) := by decide +kernel
theorem dX3_savesARoll_58 : decode cX3_savesARoll 58 = .ok (.iload_n 1, 1) := by decide +kernel
theorem dX3_savesARoll_59 : decode cX3_savesARoll 59 = .ok (.invokevirtual 61, 3) := by decide +kernel
theorem dX3_savesARoll_62 : decode cX3_savesARoll 62 = .ok (.if_icmp .ge 7, 3) := by decide +kernel
theorem dX3_savesARoll_65 : decode cX3_savesARoll 65 = .ok (.iconst 1, 1) := by decide +kernel
theorem dX3_savesARoll_66 : decode cX3_savesARoll 66 = .ok (.goto 4, 3) := by decide +kernel
theorem dX3_savesARoll_69 : decode cX3_savesARoll 69 = .ok (.iconst 0, 1) := by decide +kernel
theorem dX3_savesARoll_70 : decode cX3_savesARoll 70 = .ok (.ireturn, 1) := by decide +kernel
theorem dX3_take_0 : decode cX3_take 0 = .ok (.iconst 0, 1) := by decide +kernel
theorem dX3_take_1 : decode cX3_take 1 = .ok (.istore_n 2, 1) := by decide +kernel
theorem dX3_take_2 : decode cX3_take 2 = .ok (.iload_n 2, 1) := by decide +kernel
theorem dX3_take_3 : decode cX3_take 3 = .ok (.iconst 4, 1) := by decide +kernel
theorem dX3_take_4 : decode cX3_take 4 = .ok (.if_icmp .ge 40, 3) := by decide +kernel
theorem dX3_take_7 : decode cX3_take 7 = .ok (.aload_n 0, 1) := by decide +kernel
theorem dX3_take_8 : decode cX3_take 8 = .ok (.getfield 9, 3) := by decide +kernel
theorem dX3_take_11 : decode cX3_take 11 = .ok (.iload_n 1, 1) := by decide +kernel
theorem dX3_take_12 : decode cX3_take 12 = .ok (.iconst 4, 1) := by decide +kernel
theorem dX3_take_13 : decode cX3_take 13 = .ok (.imul, 1) := by decide +kernel
theorem dX3_take_14 : decode cX3_take 14 = .ok (.iload_n 2, 1) := by decide +kernel
theorem dX3_take_15 : decode cX3_take 15 = .ok (.iadd, 1) := by decide +kernel
theorem dX3_take_16 : decode cX3_take 16 = .ok (.aload_n 0, 1) := by decide +kernel
theorem dX3_take_17 : decode cX3_take 17 = .ok (.getfield 18, 3) := by decide +kernel
theorem dX3_take_20 : decode cX3_take 20 = .ok (.iload_n 2, 1) := by decide +kernel
theorem dX3_take_21 : decode cX3_take 21 = .ok (.iaload, 1) := by decide +kernel
theorem dX3_take_22 : decode cX3_take 22 = .ok (.iastore, 1) := by decide +kernel
theorem dX3_take_23 : decode cX3_take 23 = .ok (.aload_n 0, 1) := by decide +kernel
theorem dX3_take_24 : decode cX3_take 24 = .ok (.getfield 15, 3) := by decide +kernel
theorem dX3_take_27 : decode cX3_take 27 = .ok (.iload_n 2, 1) := by decide +kernel
theorem dX3_take_28 : decode cX3_take 28 = .ok (.dup2, 1) := by decide +kernel
theorem dX3_take_29 : decode cX3_take 29 = .ok (.iaload, 1) := by decide +kernel
theorem dX3_take_30 : decode cX3_take 30 = .ok (.aload_n 0, 1) := by decide +kernel
theorem dX3_take_31 : decode cX3_take 31 = .ok (.getfield 18, 3) := by decide +kernel
theorem dX3_take_34 : decode cX3_take 34 = .ok (.iload_n 2, 1) := by decide +kernel
theorem dX3_take_35 : decode cX3_take 35 = .ok (.iaload, 1) := by decide +kernel
theorem dX3_take_36 : decode cX3_take 36 = .ok (.isub, 1) := by decide +kernel
theorem dX3_take_37 : decode cX3_take 37 = .ok (.iastore, 1) := by decide +kernel
theorem dX3_take_38 : decode cX3_take 38 = .ok (.iinc 2 1, 3) := by decide +kernel
theorem dX3_take_41 : decode cX3_take 41 = .ok (.goto (-39), 3) := by decide +kernel
theorem dX3_take_44 : decode cX3_take 44 = .ok (.return_, 1) := by decide +kernel
theorem dX3_stepOn_0 : decode cX3_stepOn 0 = .ok (.iconst 3, 1) := by decide +kernel
theorem dX3_stepOn_1 : decode cX3_stepOn 1 = .ok (.istore_n 1, 1) := by decide +kernel
theorem dX3_stepOn_2 : decode cX3_stepOn 2 = .ok (.iload_n 1, 1) := by decide +kernel
theorem dX3_stepOn_3 : decode cX3_stepOn 3 = .ok (.ifCond .lt 36, 3) := by decide +kernel
theorem dX3_stepOn_6 : decode cX3_stepOn 6 = .ok (.aload_n 0, 1) := by decide +kernel
theorem dX3_stepOn_7 : decode cX3_stepOn 7 = .ok (.getfield 18, 3) := by decide +kernel
theorem dX3_stepOn_10 : decode cX3_stepOn 10 = .ok (.iload_n 1, 1) := by decide +kernel
theorem dX3_stepOn_11 : decode cX3_stepOn 11 = .ok (.iaload, 1) := by decide +kernel
theorem dX3_stepOn_12 : decode cX3_stepOn 12 = .ok (.ifCond .le 21, 3) := by decide +kernel
theorem dX3_stepOn_15 : decode cX3_stepOn 15 = .ok (.aload_n 0, 1) := by decide +kernel
theorem dX3_stepOn_16 : decode cX3_stepOn 16 = .ok (.getfield 18, 3) := by decide +kernel
theorem dX3_stepOn_19 : decode cX3_stepOn 19 = .ok (.iload_n 1, 1) := by decide +kernel
theorem dX3_stepOn_20 : decode cX3_stepOn 20 = .ok (.dup2, 1) := by decide +kernel
theorem dX3_stepOn_21 : decode cX3_stepOn 21 = .ok (.iaload, 1) := by decide +kernel
theorem dX3_stepOn_22 : decode cX3_stepOn 22 = .ok (.iconst 1, 1) := by decide +kernel
theorem dX3_stepOn_23 : decode cX3_stepOn 23 = .ok (.isub, 1) := by decide +kernel
theorem dX3_stepOn_24 : decode cX3_stepOn 24 = .ok (.iastore, 1) := by decide +kernel
theorem dX3_stepOn_25 : decode cX3_stepOn 25 = .ok (.aload_n 0, 1) := by decide +kernel
theorem dX3_stepOn_26 : decode cX3_stepOn 26 = .ok (.iload_n 1, 1) := by decide +kernel
theorem dX3_stepOn_27 : decode cX3_stepOn 27 = .ok (.iconst 1, 1) := by decide +kernel
theorem dX3_stepOn_28 : decode cX3_stepOn 28 = .ok (.iadd, 1) := by decide +kernel
theorem dX3_stepOn_29 : decode cX3_stepOn 29 = .ok (.invokevirtual 53, 3) := by decide +kernel
theorem dX3_stepOn_32 : decode cX3_stepOn 32 = .ok (.return_, 1) := by decide +kernel
theorem dX3_stepOn_33 : decode cX3_stepOn 33 = .ok (.iinc 1 (-1), 3) := by decide +kernel
theorem dX3_stepOn_36 : decode cX3_stepOn 36 = .ok (.goto (-34), 3) := by decide +kernel
theorem dX3_stepOn_39 : decode cX3_stepOn 39 = .ok (.return_, 1) := by decide +kernel
theorem dX3_fillFrom_0 : decode cX3_fillFrom 0 = .ok (.aload_n 0, 1) := by decide +kernel
theorem dX3_fillFrom_1 : decode cX3_fillFrom 1 = .ok (.getfield 25, 3) := by decide +kernel
theorem dX3_fillFrom_4 : decode cX3_fillFrom 4 = .ok (.getfield 80, 3) := by decide +kernel
theorem dX3_fillFrom_7 : decode cX3_fillFrom 7 = .ok (.istore_n 2, 1) := by decide +kernel
theorem dX3_fillFrom_8 : decode cX3_fillFrom 8 = .ok (.iconst 0, 1) := by decide +kernel
theorem dX3_fillFrom_9 : decode cX3_fillFrom 9 = .ok (.istore_n 3, 1) := by decide +kernel
theorem dX3_fillFrom_10 : decode cX3_fillFrom 10 = .ok (.iload_n 3, 1) := by decide +kernel
theorem dX3_fillFrom_11 : decode cX3_fillFrom 11 = .ok (.aload_n 0, 1) := by decide +kernel
theorem dX3_fillFrom_12 : decode cX3_fillFrom 12 = .ok (.getfield 25, 3) := by decide +kernel
theorem dX3_fillFrom_15 : decode cX3_fillFrom 15 = .ok (.getfield 84, 3) := by decide +kernel
theorem dX3_fillFrom_18 : decode cX3_fillFrom 18 = .ok (.if_icmp .ge 59, 3) := by decide +kernel
theorem dX3_fillFrom_21 : decode cX3_fillFrom 21 = .ok (.iload_n 3, 1) := by decide +kernel
theorem dX3_fillFrom_22 : decode cX3_fillFrom 22 = .ok (.iload_n 1, 1) := by decide +kernel
theorem dX3_fillFrom_23 : decode cX3_fillFrom 23 = .ok (.if_icmp .lt 29, 3) := by decide +kernel
theorem dX3_fillFrom_26 : decode cX3_fillFrom 26 = .ok (.aload_n 0, 1) := by decide +kernel
theorem dX3_fillFrom_27 : decode cX3_fillFrom 27 = .ok (.getfield 18, 3) := by decide +kernel
theorem dX3_fillFrom_30 : decode cX3_fillFrom 30 = .ok (.iload_n 3, 1) := by decide +kernel
theorem dX3_fillFrom_31 : decode cX3_fillFrom 31 = .ok (.aload_n 0, 1) := by decide +kernel
theorem dX3_fillFrom_32 : decode cX3_fillFrom 32 = .ok (.getfield 15, 3) := by decide +kernel
theorem dX3_fillFrom_35 : decode cX3_fillFrom 35 = .ok (.iload_n 3, 1) := by decide +kernel
theorem dX3_fillFrom_36 : decode cX3_fillFrom 36 = .ok (.iaload, 1) := by decide +kernel
theorem dX3_fillFrom_37 : decode cX3_fillFrom 37 = .ok (.iload_n 2, 1) := by decide +kernel
theorem dX3_fillFrom_38 : decode cX3_fillFrom 38 = .ok (.aload_n 0, 1) := by decide +kernel
theorem dX3_fillFrom_39 : decode cX3_fillFrom 39 = .ok (.getfield 25, 3) := by decide +kernel
theorem dX3_fillFrom_42 : decode cX3_fillFrom 42 = .ok (.getfield 87, 3) := by decide +kernel
theorem dX3_fillFrom_45 : decode cX3_fillFrom 45 = .ok (.iload_n 3, 1) := by decide +kernel
theorem dX3_fillFrom_46 : decode cX3_fillFrom 46 = .ok (.iaload, 1) := by decide +kernel
theorem dX3_fillFrom_47 : decode cX3_fillFrom 47 = .ok (.idiv, 1) := by decide +kernel
theorem dX3_fillFrom_48 : decode cX3_fillFrom 48 = .ok (.invokestatic 90, 3) := by decide +kernel
theorem dX3_fillFrom_51 : decode cX3_fillFrom 51 = .ok (.iastore, 1) := by decide +kernel
theorem dX3_fillFrom_52 : decode cX3_fillFrom 52 = .ok (.iload_n 2, 1) := by decide +kernel
theorem dX3_fillFrom_53 : decode cX3_fillFrom 53 = .ok (.aload_n 0, 1) := by decide +kernel
theorem dX3_fillFrom_54 : decode cX3_fillFrom 54 = .ok (.getfield 18, 3) := by decide +kernel
theorem dX3_fillFrom_57 : decode cX3_fillFrom 57 = .ok (.iload_n 3, 1) := by decide +kernel
theorem dX3_fillFrom_58 : decode cX3_fillFrom 58 = .ok (.iaload, 1) := by decide +kernel
theorem dX3_fillFrom_59 : decode cX3_fillFrom 59 = .ok (.aload_n 0, 1) := by decide +kernel
theorem dX3_fillFrom_60 : decode cX3_fillFrom 60 = .ok (.getfield 25, 3) := by decide +kernel
theorem dX3_fillFrom_63 : decode cX3_fillFrom 63 = .ok (.getfield 87, 3) := by decide +kernel
theorem dX3_fillFrom_66 : decode cX3_fillFrom 66 = .ok (.iload_n 3, 1) := by decide +kernel
theorem dX3_fillFrom_67 : decode cX3_fillFrom 67 = .ok (.iaload, 1) := by decide +kernel
theorem dX3_fillFrom_68 : decode cX3_fillFrom 68 = .ok (.imul, 1) := by decide +kernel
theorem dX3_fillFrom_69 : decode cX3_fillFrom 69 = .ok (.isub, 1) := by decide +kernel
theorem dX3_fillFrom_70 : decode cX3_fillFrom 70 = .ok (.istore_n 2, 1) := by decide +kernel
theorem dX3_fillFrom_71 : decode cX3_fillFrom 71 = .ok (.iinc 3 1, 3) := by decide +kernel
theorem dX3_fillFrom_74 : decode cX3_fillFrom 74 = .ok (.goto (-64), 3) := by decide +kernel
theorem dX3_fillFrom_77 : decode cX3_fillFrom 77 = .ok (.return_, 1) := by decide +kernel
theorem dX4_init_0 : decode cX4_init 0 = .ok (.aload_n 0, 1) := by decide +kernel
theorem dX4_init_1 : decode cX4_init 1 = .ok (.invokespecial 3, 3) := by decide +kernel
theorem dX4_init_4 : decode cX4_init 4 = .ok (.aload_n 0, 1) := by decide +kernel
theorem dX4_init_5 : decode cX4_init 5 = .ok (.getstatic 9, 3) := by decide +kernel
theorem dX4_init_8 : decode cX4_init 8 = .ok (.iconst 4, 1) := by decide +kernel
theorem dX4_init_9 : decode cX4_init 9 = .ok (.iaload, 1) := by decide +kernel
theorem dX4_init_10 : decode cX4_init 10 = .ok (.newarray .int, 2) := by decide +kernel
theorem dX4_init_12 : decode cX4_init 12 = .ok (.putfield 13, 3) := by decide +kernel
theorem dX4_init_15 : decode cX4_init 15 = .ok (.aload_n 0, 1) := by decide +kernel
theorem dX4_init_16 : decode cX4_init 16 = .ok (.aload_n 1, 1) := by decide +kernel
theorem dX4_init_17 : decode cX4_init 17 = .ok (.putfield 18, 3) := by decide +kernel
theorem dX4_init_20 : decode cX4_init 20 = .ok (.return_, 1) := by decide +kernel
theorem dX4_fewest_0 : decode cX4_fewest 0 = .ok (.aload_n 0, 1) := by decide +kernel
theorem dX4_fewest_1 : decode cX4_fewest 1 = .ok (.getfield 13, 3) := by decide +kernel
theorem dX4_fewest_4 : decode cX4_fewest 4 = .ok (.iload_n 1, 1) := by decide +kernel
theorem dX4_fewest_5 : decode cX4_fewest 5 = .ok (.iaload, 1) := by decide +kernel
theorem dX4_fewest_6 : decode cX4_fewest 6 = .ok (.aload_n 0, 1) := by decide +kernel
theorem dX4_fewest_7 : decode cX4_fewest 7 = .ok (.getfield 18, 3) := by decide +kernel
theorem dX4_fewest_10 : decode cX4_fewest 10 = .ok (.getfield 22, 3) := by decide +kernel
theorem dX4_fewest_13 : decode cX4_fewest 13 = .ok (.iadd, 1) := by decide +kernel
theorem dX4_fewest_14 : decode cX4_fewest 14 = .ok (.iconst 1, 1) := by decide +kernel
theorem dX4_fewest_15 : decode cX4_fewest 15 = .ok (.isub, 1) := by decide +kernel
theorem dX4_fewest_16 : decode cX4_fewest 16 = .ok (.aload_n 0, 1) := by decide +kernel
theorem dX4_fewest_17 : decode cX4_fewest 17 = .ok (.getfield 18, 3) := by decide +kernel
theorem dX4_fewest_20 : decode cX4_fewest 20 = .ok (.getfield 22, 3) := by decide +kernel
theorem dX4_fewest_23 : decode cX4_fewest 23 = .ok (.idiv, 1) := by decide +kernel
theorem dX4_fewest_24 : decode cX4_fewest 24 = .ok (.ireturn, 1) := by decide +kernel
theorem dX4_extendTo_0 : decode cX4_extendTo 0 = .ok (.getstatic 9, 3) := by decide +kernel
theorem dX4_extendTo_3 : decode cX4_extendTo 3 = .ok (.iload_n 1, 1) := by decide +kernel
theorem dX4_extendTo_4 : decode cX4_extendTo 4 = .ok (.iaload, 1) := by decide +kernel
theorem dX4_extendTo_5 : decode cX4_extendTo 5 = .ok (.istore_n 2, 1) := by decide +kernel
theorem dX4_extendTo_6 : decode cX4_extendTo 6 = .ok (.iload_n 2, 1) := by decide +kernel
theorem dX4_extendTo_7 : decode cX4_extendTo 7 = .ok (.getstatic 9, 3) := by decide +kernel
theorem dX4_extendTo_10 : decode cX4_extendTo 10 = .ok (.iload_n 1, 1) := by decide +kernel
theorem dX4_extendTo_11 : decode cX4_extendTo 11 = .ok (.iconst 1, 1) := by decide +kernel
theorem dX4_extendTo_12 : decode cX4_extendTo 12 = .ok (.iadd, 1) := by decide +kernel
theorem dX4_extendTo_13 : decode cX4_extendTo 13 = .ok (.iaload, 1) := by decide +kernel
theorem dX4_extendTo_14 : decode cX4_extendTo 14 = .ok (.if_icmp .ge 21, 3) := by decide +kernel
theorem dX4_extendTo_17 : decode cX4_extendTo 17 = .ok (.aload_n 0, 1) := by decide +kernel
theorem dX4_extendTo_18 : decode cX4_extendTo 18 = .ok (.getfield 13, 3) := by decide +kernel
theorem dX4_extendTo_21 : decode cX4_extendTo 21 = .ok (.iload_n 2, 1) := by decide +kernel
theorem dX4_extendTo_22 : decode cX4_extendTo 22 = .ok (.aload_n 0, 1) := by decide +kernel
theorem dX4_extendTo_23 : decode cX4_extendTo 23 = .ok (.iload_n 2, 1) := by decide +kernel
theorem dX4_extendTo_24 : decode cX4_extendTo 24 = .ok (.iload_n 1, 1) := by decide +kernel
theorem dX4_extendTo_25 : decode cX4_extendTo 25 = .ok (.invokevirtual 28, 3) := by decide +kernel
theorem dX4_extendTo_28 : decode cX4_extendTo 28 = .ok (.iastore, 1) := by decide +kernel
theorem dX4_extendTo_29 : decode cX4_extendTo 29 = .ok (.iinc 2 1, 3) := by decide +kernel
theorem dX4_extendTo_32 : decode cX4_extendTo 32 = .ok (.goto (-26), 3) := by decide +kernel
theorem dX4_extendTo_35 : decode cX4_extendTo 35 = .ok (.return_, 1) := by decide +kernel
theorem dX4_leastOf_0 : decode cX4_leastOf 0 = .ok (.sipush 1440, 3) := by decide +kernel
theorem dX4_leastOf_3 : decode cX4_leastOf 3 = .ok (.istore_n 3, 1) := by decide +kernel
theorem dX4_leastOf_4 : decode cX4_leastOf 4 = .ok (.iconst 0, 1) := by decide +kernel
theorem dX4_leastOf_5 : decode cX4_leastOf 5 = .ok (.istore 4, 2) := by decide +kernel
theorem dX4_leastOf_7 : decode cX4_leastOf 7 = .ok (.iload 4, 2) := by decide +kernel
theorem dX4_leastOf_9 : decode cX4_leastOf 9 = .ok (.iload_n 2, 1) := by decide +kernel
theorem dX4_leastOf_10 : decode cX4_leastOf 10 = .ok (.if_icmp .gt 55, 3) := by decide +kernel
theorem dX4_leastOf_13 : decode cX4_leastOf 13 = .ok (.iload_n 1, 1) := by decide +kernel
theorem dX4_leastOf_14 : decode cX4_leastOf 14 = .ok (.getstatic 9, 3) := by decide +kernel
theorem dX4_leastOf_17 : decode cX4_leastOf 17 = .ok (.iload 4, 2) := by decide +kernel
theorem dX4_leastOf_19 : decode cX4_leastOf 19 = .ok (.iaload, 1) := by decide +kernel
theorem dX4_leastOf_20 : decode cX4_leastOf 20 = .ok (.idiv, 1) := by decide +kernel
theorem dX4_leastOf_21 : decode cX4_leastOf 21 = .ok (.bipush 7, 2) := by decide +kernel
theorem dX4_leastOf_23 : decode cX4_leastOf 23 = .ok (.irem, 1) := by decide +kernel
theorem dX4_leastOf_24 : decode cX4_leastOf 24 = .ok (.ifCond .le 35, 3) := by decide +kernel
theorem dX4_leastOf_27 : decode cX4_leastOf 27 = .ok (.iload_n 3, 1) := by decide +kernel
theorem dX4_leastOf_28 : decode cX4_leastOf 28 = .ok (.aload_n 0, 1) := by decide +kernel
theorem dX4_leastOf_29 : decode cX4_leastOf 29 = .ok (.aload_n 0, 1) := by decide +kernel
theorem dX4_leastOf_30 : decode cX4_leastOf 30 = .ok (.getfield 13, 3) := by decide +kernel
theorem dX4_leastOf_33 : decode cX4_leastOf 33 = .ok (.iload_n 1, 1) := by decide +kernel
theorem dX4_leastOf_34 : decode cX4_leastOf 34 = .ok (.getstatic 9, 3) := by decide +kernel
theorem dX4_leastOf_37 : decode cX4_leastOf 37 = .ok (.iload 4, 2) := by decide +kernel
theorem dX4_leastOf_39 : decode cX4_leastOf 39 = .ok (.iaload, 1) := by decide +kernel
theorem dX4_leastOf_40 : decode cX4_leastOf 40 = .ok (.isub, 1) := by decide +kernel
theorem dX4_leastOf_41 : decode cX4_leastOf 41 = .ok (.iaload, 1) := by decide +kernel
theorem dX4_leastOf_42 : decode cX4_leastOf 42 = .ok (.aload_n 0, 1) := by decide +kernel
theorem dX4_leastOf_43 : decode cX4_leastOf 43 = .ok (.getfield 18, 3) := by decide +kernel
theorem dX4_leastOf_46 : decode cX4_leastOf 46 = .ok (.getfield 32, 3) := by decide +kernel
theorem dX4_leastOf_49 : decode cX4_leastOf 49 = .ok (.iload 4, 2) := by decide +kernel
theorem dX4_leastOf_51 : decode cX4_leastOf 51 = .ok (.iaload, 1) := by decide +kernel
theorem dX4_leastOf_52 : decode cX4_leastOf 52 = .ok (.invokevirtual 35, 3) := by decide +kernel
theorem dX4_leastOf_55 : decode cX4_leastOf 55 = .ok (.invokestatic 38, 3) := by decide +kernel
theorem dX4_leastOf_58 : decode cX4_leastOf 58 = .ok (.istore_n 3, 1) := by decide +kernel
theorem dX4_leastOf_59 : decode cX4_leastOf 59 = .ok (.iinc 4 1, 3) := by decide +kernel
theorem dX4_leastOf_62 : decode cX4_leastOf 62 = .ok (.goto (-55), 3) := by decide +kernel
theorem dX4_leastOf_65 : decode cX4_leastOf 65 = .ok (.iload_n 3, 1) := by decide +kernel
theorem dX4_leastOf_66 : decode cX4_leastOf 66 = .ok (.ireturn, 1) := by decide +kernel
theorem dX4_placed_0 : decode cX4_placed 0 = .ok (.iload_n 1, 1) := by decide +kernel
theorem dX4_placed_1 : decode cX4_placed 1 = .ok (.aload_n 0, 1) := by decide +kernel
theorem dX4_placed_2 : decode cX4_placed 2 = .ok (.getfield 18, 3) := by decide +kernel
theorem dX4_placed_5 : decode cX4_placed 5 = .ok (.getfield 22, 3) := by decide +kernel
theorem dX4_placed_8 : decode cX4_placed 8 = .ok (.irem, 1) := by decide +kernel
theorem dX4_placed_9 : decode cX4_placed 9 = .ok (.istore_n 3, 1) := by decide +kernel
theorem dX4_placed_10 : decode cX4_placed 10 = .ok (.iload_n 3, 1) := by decide +kernel
theorem dX4_placed_11 : decode cX4_placed 11 = .ok (.iload_n 2, 1) := by decide +kernel
theorem dX4_placed_12 : decode cX4_placed 12 = .ok (.iadd, 1) := by decide +kernel
theorem dX4_placed_13 : decode cX4_placed 13 = .ok (.aload_n 0, 1) := by decide +kernel
theorem dX4_placed_14 : decode cX4_placed 14 = .ok (.getfield 18, 3) := by decide +kernel
theorem dX4_placed_17 : decode cX4_placed 17 = .ok (.getfield 22, 3) := by decide +kernel
theorem dX4_placed_20 : decode cX4_placed 20 = .ok (.if_icmp .le 17, 3) := by decide +kernel
theorem dX4_placed_23 : decode cX4_placed 23 = .ok (.iload_n 1, 1) := by decide +kernel
theorem dX4_placed_24 : decode cX4_placed 24 = .ok (.iload_n 3, 1) := by decide +kernel
theorem dX4_placed_25 : decode cX4_placed 25 = .ok (.isub, 1) := by decide +kernel
theorem dX4_placed_26 : decode cX4_placed 26 = .ok (.aload_n 0, 1) := by decide +kernel
theorem dX4_placed_27 : decode cX4_placed 27 = .ok (.getfield 18, 3) := by decide +kernel
theorem dX4_placed_30 : decode cX4_placed 30 = .ok (.getfield 22, 3) := by decide +kernel
theorem dX4_placed_33 : decode cX4_placed 33 = .ok (.iadd, 1) := by decide +kernel
theorem dX4_placed_34 : decode cX4_placed 34 = .ok (.iload_n 2, 1) := by decide +kernel
theorem dX4_placed_35 : decode cX4_placed 35 = .ok (.iadd, 1) := by decide +kernel
theorem dX4_placed_36 : decode cX4_placed 36 = .ok (.ireturn, 1) := by decide +kernel
theorem dX4_placed_37 : decode cX4_placed 37 = .ok (.iload_n 1, 1) := by decide +kernel
theorem dX4_placed_38 : decode cX4_placed 38 = .ok (.iload_n 2, 1) := by decide +kernel
theorem dX4_placed_39 : decode cX4_placed 39 = .ok (.iadd, 1) := by decide +kernel
theorem dX4_placed_40 : decode cX4_placed 40 = .ok (.ireturn, 1) := by decide +kernel
theorem dX5_init_0 : decode cX5_init 0 = .ok (.aload_n 0, 1) := by decide +kernel
theorem dX5_init_1 : decode cX5_init 1 = .ok (.invokespecial 1, 3) := by decide +kernel
theorem dX5_init_4 : decode cX5_init 4 = .ok (.aload_n 0, 1) := by decide +kernel
theorem dX5_init_5 : decode cX5_init 5 = .ok (.new 7, 3) := by decide +kernel
theorem dX5_init_8 : decode cX5_init 8 = .ok (.dup, 1) := by decide +kernel
theorem dX5_init_9 : decode cX5_init 9 = .ok (.invokespecial 9, 3) := by decide +kernel
theorem dX5_init_12 : decode cX5_init 12 = .ok (.putfield 10, 3) := by decide +kernel
theorem dX5_init_15 : decode cX5_init 15 = .ok (.aload_n 0, 1) := by decide +kernel
theorem dX5_init_16 : decode cX5_init 16 = .ok (.new 16, 3) := by decide +kernel
theorem dX5_init_19 : decode cX5_init 19 = .ok (.dup, 1) := by decide +kernel
theorem dX5_init_20 : decode cX5_init 20 = .ok (.aload_n 0, 1) := by decide +kernel
theorem dX5_init_21 : decode cX5_init 21 = .ok (.getfield 10, 3) := by decide +kernel
theorem dX5_init_24 : decode cX5_init 24 = .ok (.invokespecial 18, 3) := by decide +kernel
theorem dX5_init_27 : decode cX5_init 27 = .ok (.putfield 21, 3) := by decide +kernel
theorem dX5_init_30 : decode cX5_init 30 = .ok (.aload_n 0, 1) := by decide +kernel
theorem dX5_init_31 : decode cX5_init 31 = .ok (.new 25, 3) := by decide +kernel
theorem dX5_init_34 : decode cX5_init 34 = .ok (.dup, 1) := by decide +kernel
theorem dX5_init_35 : decode cX5_init 35 = .ok (.aload_n 0, 1) := by decide +kernel
theorem dX5_init_36 : decode cX5_init 36 = .ok (.getfield 10, 3) := by decide +kernel
theorem dX5_init_39 : decode cX5_init 39 = .ok (.aload_n 0, 1) := by decide +kernel
theorem dX5_init_40 : decode cX5_init 40 = .ok (.getfield 21, 3) := by decide +kernel
theorem dX5_init_43 : decode cX5_init 43 = .ok (.invokespecial 27, 3) := by decide +kernel
theorem dX5_init_46 : decode cX5_init 46 = .ok (.putfield 30, 3) := by decide +kernel
theorem dX5_init_49 : decode cX5_init 49 = .ok (.aload_n 0, 1) := by decide +kernel
theorem dX5_init_50 : decode cX5_init 50 = .ok (.new 34, 3) := by decide +kernel
theorem dX5_init_53 : decode cX5_init 53 = .ok (.dup, 1) := by decide +kernel
theorem dX5_init_54 : decode cX5_init 54 = .ok (.aload_n 0, 1) := by decide +kernel
theorem dX5_init_55 : decode cX5_init 55 = .ok (.getfield 10, 3) := by decide +kernel
theorem dX5_init_58 : decode cX5_init 58 = .ok (.invokespecial 36, 3) := by decide +kernel
theorem dX5_init_61 : decode cX5_init 61 = .ok (.putfield 37, 3) := by decide +kernel
theorem dX5_init_64 : decode cX5_init 64 = .ok (.aload_n 0, 1) := by decide +kernel
theorem dX5_init_65 : decode cX5_init 65 = .ok (.new 41, 3) := by decide +kernel
theorem dX5_init_68 : decode cX5_init 68 = .ok (.dup, 1) := by decide +kernel
theorem dX5_init_69 : decode cX5_init 69 = .ok (.aload_n 0, 1) := by decide +kernel
theorem dX5_init_70 : decode cX5_init 70 = .ok (.getfield 10, 3) := by decide +kernel
theorem dX5_init_73 : decode cX5_init 73 = .ok (.aload_n 0, 1) := by decide +kernel
theorem dX5_init_74 : decode cX5_init 74 = .ok (.getfield 37, 3) := by decide +kernel
theorem dX5_init_77 : decode cX5_init 77 = .ok (.invokespecial 43, 3) := by decide +kernel
theorem dX5_init_80 : decode cX5_init 80 = .ok (.putfield 46, 3) := by decide +kernel
theorem dX5_init_83 : decode cX5_init 83 = .ok (.return_, 1) := by decide +kernel
theorem dX5_begin_0 : decode cX5_begin 0 = .ok (.iload_n 1, 1) := by decide +kernel
theorem dX5_begin_1 : decode cX5_begin 1 = .ok (.iconst 1, 1) := by decide +kernel
theorem dX5_begin_2 : decode cX5_begin 2 = .ok (.if_icmp .lt 9, 3) := by decide +kernel
theorem dX5_begin_5 : decode cX5_begin 5 = .ok (.iload_n 1, 1) := by decide +kernel
theorem dX5_begin_6 : decode cX5_begin 6 = .ok (.bipush 60, 2) := by decide +kernel
theorem dX5_begin_8 : decode cX5_begin 8 = .ok (.if_icmp .le 5, 3) := by decide +kernel
theorem dX5_begin_11 : decode cX5_begin 11 = .ok (.iconst 0, 1) := by decide +kernel
theorem dX5_begin_12 : decode cX5_begin 12 = .ok (.ireturn, 1) := by decide +kernel
theorem dX5_begin_13 : decode cX5_begin 13 = .ok (.aload_n 0, 1) := by decide +kernel
theorem dX5_begin_14 : decode cX5_begin 14 = .ok (.getfield 10, 3) := by decide +kernel
theorem dX5_begin_17 : decode cX5_begin 17 = .ok (.iload_n 1, 1) := by decide +kernel
theorem dX5_begin_18 : decode cX5_begin 18 = .ok (.invokevirtual 50, 3) := by decide +kernel
theorem dX5_begin_21 : decode cX5_begin 21 = .ok (.aload_n 0, 1) := by decide +kernel
theorem dX5_begin_22 : decode cX5_begin 22 = .ok (.getfield 30, 3) := by decide +kernel
theorem dX5_begin_25 : decode cX5_begin 25 = .ok (.invokevirtual 54, 3) := by decide +kernel
theorem dX5_begin_28 : decode cX5_begin 28 = .ok (.iconst 1, 1) := by decide +kernel
theorem dX5_begin_29 : decode cX5_begin 29 = .ok (.ireturn, 1) := by decide +kernel
theorem dX5_kind_0 : decode cX5_kind 0 = .ok (.aload_n 0, 1) := by decide +kernel
theorem dX5_kind_1 : decode cX5_kind 1 = .ok (.getfield 10, 3) := by decide +kernel
theorem dX5_kind_4 : decode cX5_kind 4 = .ok (.getfield 57, 3) := by decide +kernel
theorem dX5_kind_7 : decode cX5_kind 7 = .ok (.iconst 4, 1) := by decide +kernel
theorem dX5_kind_8 : decode cX5_kind 8 = .ok (.if_icmp .ge 26, 3) := by decide +kernel
theorem dX5_kind_11 : decode cX5_kind 11 = .ok (.iload_n 1, 1) := by decide +kernel
theorem dX5_kind_12 : decode cX5_kind 12 = .ok (.iconst 1, 1) := by decide +kernel
theorem dX5_kind_13 : decode cX5_kind 13 = .ok (.if_icmp .lt 21, 3) := by decide +kernel
theorem dX5_kind_16 : decode cX5_kind 16 = .ok (.iload_n 1, 1) := by decide +kernel
theorem dX5_kind_17 : decode cX5_kind 17 = .ok (.aload_n 0, 1) := by decide +kernel
theorem dX5_kind_18 : decode cX5_kind 18 = .ok (.getfield 10, 3) := by decide +kernel
theorem dX5_kind_21 : decode cX5_kind 21 = .ok (.getfield 61, 3) := by decide +kernel
theorem dX5_kind_24 : decode cX5_kind 24 = .ok (.if_icmp .gt 10, 3) := by decide +kernel
theorem dX5_kind_27 : decode cX5_kind 27 = .ok (.iload_n 2, 1) := by decide +kernel
theorem dX5_kind_28 : decode cX5_kind 28 = .ok (.invokestatic 64, 3) := by decide +kernel
theorem dX5_kind_31 : decode cX5_kind 31 = .ok (.ifCond .ne 5, 3) := by decide +kernel
theorem dX5_kind_34 : decode cX5_kind 34 = .ok (.iconst (-1), 1) := by decide +kernel
theorem dX5_kind_35 : decode cX5_kind 35 = .ok (.ireturn, 1) := by decide +kernel
theorem dX5_kind_36 : decode cX5_kind 36 = .ok (.aload_n 0, 1) := by decide +kernel
theorem dX5_kind_37 : decode cX5_kind 37 = .ok (.getfield 10, 3) := by decide +kernel
theorem dX5_kind_40 : decode cX5_kind 40 = .ok (.iload_n 1, 1) := by decide +kernel
theorem dX5_kind_41 : decode cX5_kind 41 = .ok (.iload_n 2, 1) := by decide +kernel
theorem dX5_kind_42 : decode cX5_kind 42 = .ok (.invokevirtual 68, 3) := by decide +kernel
theorem dX5_kind_45 : decode cX5_kind 45 = .ok (.istore_n 3, 1) := by decide +kernel
theorem dX5_kind_46 : decode cX5_kind 46 = .ok (.aload_n 0, 1) := by decide +kernel
theorem dX5_kind_47 : decode cX5_kind 47 = .ok (.getfield 21, 3) := by decide +kernel
theorem dX5_kind_50 : decode cX5_kind 50 = .ok (.iload_n 3, 1) := by decide +kernel
theorem dX5_kind_51 : decode cX5_kind 51 = .ok (.invokevirtual 72, 3) := by decide +kernel
theorem dX5_kind_54 : decode cX5_kind 54 = .ok (.aload_n 0, 1) := by decide +kernel
theorem dX5_kind_55 : decode cX5_kind 55 = .ok (.getfield 30, 3) := by decide +kernel
theorem dX5_kind_58 : decode cX5_kind 58 = .ok (.invokevirtual 54, 3) := by decide +kernel
theorem dX5_kind_61 : decode cX5_kind 61 = .ok (.iload_n 3, 1) := by decide +kernel
theorem dX5_kind_62 : decode cX5_kind 62 = .ok (.ireturn, 1) := by decide +kernel
theorem dX5_ask_0 : decode cX5_ask 0 = .ok (.aload_n 0, 1) := by decide +kernel
theorem dX5_ask_1 : decode cX5_ask 1 = .ok (.getfield 10, 3) := by decide +kernel
theorem dX5_ask_4 : decode cX5_ask 4 = .ok (.iload_n 1, 1) := by decide +kernel
theorem dX5_ask_5 : decode cX5_ask 5 = .ok (.invokevirtual 75, 3) := by decide +kernel
theorem dX5_ask_8 : decode cX5_ask 8 = .ok (.ifCond .eq 10, 3) := by decide +kernel
theorem dX5_ask_11 : decode cX5_ask 11 = .ok (.iload_n 2, 1) := by decide +kernel
theorem dX5_ask_12 : decode cX5_ask 12 = .ok (.invokestatic 64, 3) := by decide +kernel
theorem dX5_ask_15 : decode cX5_ask 15 = .ok (.ifCond .ne 5, 3) := by decide +kernel
theorem dX5_ask_18 : decode cX5_ask 18 = .ok (.iconst 0, 1) := by decide +kernel
theorem dX5_ask_19 : decode cX5_ask 19 = .ok (.ireturn, 1) := by decide +kernel
theorem dX5_ask_20 : decode cX5_ask 20 = .ok (.aload_n 0, 1) := by decide +kernel
theorem dX5_ask_21 : decode cX5_ask 21 = .ok (.getfield 10, 3) := by decide +kernel
theorem dX5_ask_24 : decode cX5_ask 24 = .ok (.getfield 78, 3) := by decide +kernel
theorem dX5_ask_27 : decode cX5_ask 27 = .ok (.iload_n 1, 1) := by decide +kernel
theorem dX5_ask_28 : decode cX5_ask 28 = .ok (.iload_n 2, 1) := by decide +kernel
theorem dX5_ask_29 : decode cX5_ask 29 = .ok (.iastore, 1) := by decide +kernel
theorem dX5_ask_30 : decode cX5_ask 30 = .ok (.aload_n 0, 1) := by decide +kernel
theorem dX5_ask_31 : decode cX5_ask 31 = .ok (.getfield 30, 3) := by decide +kernel
theorem dX5_ask_34 : decode cX5_ask 34 = .ok (.invokevirtual 54, 3) := by decide +kernel
theorem dX5_ask_37 : decode cX5_ask 37 = .ok (.iconst 1, 1) := by decide +kernel
theorem dX5_ask_38 : decode cX5_ask 38 = .ok (.ireturn, 1) := by decide +kernel
theorem dX5_drop_0 : decode cX5_drop 0 = .ok (.aload_n 0, 1) := by decide +kernel
theorem dX5_drop_1 : decode cX5_drop 1 = .ok (.getfield 10, 3) := by decide +kernel
theorem dX5_drop_4 : decode cX5_drop 4 = .ok (.getfield 57, 3) := by decide +kernel
theorem dX5_drop_7 : decode cX5_drop 7 = .ok (.ifCond .ne 5, 3) := by decide +kernel
theorem dX5_drop_10 : decode cX5_drop 10 = .ok (.iconst (-1), 1) := by decide +kernel
theorem dX5_drop_11 : decode cX5_drop 11 = .ok (.ireturn, 1) := by decide +kernel
theorem dX5_drop_12 : decode cX5_drop 12 = .ok (.aload_n 0, 1) := by decide +kernel
theorem dX5_drop_13 : decode cX5_drop 13 = .ok (.getfield 10, 3) := by decide +kernel
theorem dX5_drop_16 : decode cX5_drop 16 = .ok (.invokevirtual 82, 3) := by decide +kernel
theorem dX5_drop_19 : decode cX5_drop 19 = .ok (.aload_n 0, 1) := by decide +kernel
theorem dX5_drop_20 : decode cX5_drop 20 = .ok (.getfield 30, 3) := by decide +kernel
theorem dX5_drop_23 : decode cX5_drop 23 = .ok (.invokevirtual 54, 3) := by decide +kernel
theorem dX5_drop_26 : decode cX5_drop 26 = .ok (.aload_n 0, 1) := by decide +kernel
theorem dX5_drop_27 : decode cX5_drop 27 = .ok (.getfield 10, 3) := by decide +kernel
theorem dX5_drop_30 : decode cX5_drop 30 = .ok (.getfield 57, 3) := by decide +kernel
theorem dX5_drop_33 : decode cX5_drop 33 = .ok (.ireturn, 1) := by decide +kernel
theorem dX5_of_0 : decode cX5_of 0 = .ok (.iload_n 1, 1) := by decide +kernel
theorem dX5_of_1 : decode cX5_of 1 = .ok (.ifCond .ne 11, 3) := by decide +kernel
theorem dX5_of_4 : decode cX5_of 4 = .ok (.aload_n 0, 1) := by decide +kernel
theorem dX5_of_5 : decode cX5_of 5 = .ok (.getfield 10, 3) := by decide +kernel
theorem dX5_of_8 : decode cX5_of 8 = .ok (.getfield 61, 3) := by decide +kernel
theorem dX5_of_11 : decode cX5_of 11 = .ok (.ireturn, 1) := by decide +kernel
theorem dX5_of_12 : decode cX5_of 12 = .ok (.iload_n 1, 1) := by decide +kernel
theorem dX5_of_13 : decode cX5_of 13 = .ok (.iconst 1, 1) := by decide +kernel
theorem dX5_of_14 : decode cX5_of 14 = .ok (.if_icmp .ne 13, 3) := by decide +kernel
theorem dX5_of_17 : decode cX5_of 17 = .ok (.aload_n 0, 1) := by decide +kernel
theorem dX5_of_18 : decode cX5_of 18 = .ok (.getfield 10, 3) := by decide +kernel
theorem dX5_of_21 : decode cX5_of 21 = .ok (.getfield 57, 3) := by decide +kernel
theorem dX5_of_24 : decode cX5_of 24 = .ok (.goto 4, 3) := by decide +kernel
theorem dX5_of_27 : decode cX5_of 27 = .ok (.iconst (-1), 1) := by decide +kernel
theorem dX5_of_28 : decode cX5_of 28 = .ok (.ireturn, 1) := by decide +kernel
theorem dX5_ofKind_0 : decode cX5_ofKind 0 = .ok (.aload_n 0, 1) := by decide +kernel
theorem dX5_ofKind_1 : decode cX5_ofKind 1 = .ok (.getfield 10, 3) := by decide +kernel
theorem dX5_ofKind_4 : decode cX5_ofKind 4 = .ok (.iload_n 1, 1) := by decide +kernel
theorem dX5_ofKind_5 : decode cX5_ofKind 5 = .ok (.invokevirtual 75, 3) := by decide +kernel
theorem dX5_ofKind_8 : decode cX5_ofKind 8 = .ok (.ifCond .ne 5, 3) := by decide +kernel
theorem dX5_ofKind_11 : decode cX5_ofKind 11 = .ok (.iconst (-1), 1) := by decide +kernel
theorem dX5_ofKind_12 : decode cX5_ofKind 12 = .ok (.ireturn, 1) := by decide +kernel
theorem dX5_ofKind_13 : decode cX5_ofKind 13 = .ok (.iload_n 2, 1) := by decide +kernel
theorem dX5_ofKind_14 : decode cX5_ofKind 14 = .ok (.ifCond .ne 13, 3) := by decide +kernel
theorem dX5_ofKind_17 : decode cX5_ofKind 17 = .ok (.aload_n 0, 1) := by decide +kernel
theorem dX5_ofKind_18 : decode cX5_ofKind 18 = .ok (.getfield 10, 3) := by decide +kernel
theorem dX5_ofKind_21 : decode cX5_ofKind 21 = .ok (.getfield 85, 3) := by decide +kernel
theorem dX5_ofKind_24 : decode cX5_ofKind 24 = .ok (.iload_n 1, 1) := by decide +kernel
theorem dX5_ofKind_25 : decode cX5_ofKind 25 = .ok (.iaload, 1) := by decide +kernel
theorem dX5_ofKind_26 : decode cX5_ofKind 26 = .ok (.ireturn, 1) := by decide +kernel
theorem dX5_ofKind_27 : decode cX5_ofKind 27 = .ok (.iload_n 2, 1) := by decide +kernel
theorem dX5_ofKind_28 : decode cX5_ofKind 28 = .ok (.iconst 1, 1) := by decide +kernel
theorem dX5_ofKind_29 : decode cX5_ofKind 29 = .ok (.if_icmp .ne 15, 3) := by decide +kernel
theorem dX5_ofKind_32 : decode cX5_ofKind 32 = .ok (.aload_n 0, 1) := by decide +kernel
theorem dX5_ofKind_33 : decode cX5_ofKind 33 = .ok (.getfield 10, 3) := by decide +kernel
theorem dX5_ofKind_36 : decode cX5_ofKind 36 = .ok (.getfield 78, 3) := by decide +kernel
theorem dX5_ofKind_39 : decode cX5_ofKind 39 = .ok (.iload_n 1, 1) := by decide +kernel
theorem dX5_ofKind_40 : decode cX5_ofKind 40 = .ok (.iaload, 1) := by decide +kernel
theorem dX5_ofKind_41 : decode cX5_ofKind 41 = .ok (.goto 4, 3) := by decide +kernel
theorem dX5_ofKind_44 : decode cX5_ofKind 44 = .ok (.iconst (-1), 1) := by decide +kernel
theorem dX5_ofKind_45 : decode cX5_ofKind 45 = .ok (.ireturn, 1) := by decide +kernel
theorem dX5_rolls_0 : decode cX5_rolls 0 = .ok (.aload_n 0, 1) := by decide +kernel
theorem dX5_rolls_1 : decode cX5_rolls 1 = .ok (.getfield 21, 3) := by decide +kernel
theorem dX5_rolls_4 : decode cX5_rolls 4 = .ok (.aload_n 0, 1) := by decide +kernel
theorem dX5_rolls_5 : decode cX5_rolls 5 = .ok (.getfield 10, 3) := by decide +kernel
theorem dX5_rolls_8 : decode cX5_rolls 8 = .ok (.getfield 78, 3) := by decide +kernel
theorem dX5_rolls_11 : decode cX5_rolls 11 = .ok (.invokestatic 88, 3) := by decide +kernel
theorem dX5_rolls_14 : decode cX5_rolls 14 = .ok (.invokevirtual 92, 3) := by decide +kernel
theorem dX5_rolls_17 : decode cX5_rolls 17 = .ok (.ireturn, 1) := by decide +kernel
theorem dX5_cut_0 : decode cX5_cut 0 = .ok (.aload_n 0, 1) := by decide +kernel
theorem dX5_cut_1 : decode cX5_cut 1 = .ok (.getfield 10, 3) := by decide +kernel
theorem dX5_cut_4 : decode cX5_cut 4 = .ok (.iload_n 2, 1) := by decide +kernel
theorem dX5_cut_5 : decode cX5_cut 5 = .ok (.invokevirtual 75, 3) := by decide +kernel
theorem dX5_cut_8 : decode cX5_cut 8 = .ok (.ifCond .eq 15, 3) := by decide +kernel
theorem dX5_cut_11 : decode cX5_cut 11 = .ok (.iload_n 1, 1) := by decide +kernel
theorem dX5_cut_12 : decode cX5_cut 12 = .ok (.ifCond .lt 11, 3) := by decide +kernel
theorem dX5_cut_15 : decode cX5_cut 15 = .ok (.iload_n 1, 1) := by decide +kernel
theorem dX5_cut_16 : decode cX5_cut 16 = .ok (.aload_n 0, 1) := by decide +kernel
theorem dX5_cut_17 : decode cX5_cut 17 = .ok (.invokevirtual 96, 3) := by decide +kernel
theorem dX5_cut_20 : decode cX5_cut 20 = .ok (.if_icmp .lt 5, 3) := by decide +kernel
theorem dX5_cut_23 : decode cX5_cut 23 = .ok (.iconst (-1), 1) := by decide +kernel
theorem dX5_cut_24 : decode cX5_cut 24 = .ok (.ireturn, 1) := by decide +kernel
theorem dX5_cut_25 : decode cX5_cut 25 = .ok (.aload_n 0, 1) := by decide +kernel
theorem dX5_cut_26 : decode cX5_cut 26 = .ok (.getfield 30, 3) := by decide +kernel
theorem dX5_cut_29 : decode cX5_cut 29 = .ok (.iload_n 1, 1) := by decide +kernel
theorem dX5_cut_30 : decode cX5_cut 30 = .ok (.iload_n 2, 1) := by decide +kernel
theorem dX5_cut_31 : decode cX5_cut 31 = .ok (.invokevirtual 100, 3) := by decide +kernel
theorem dX5_cut_34 : decode cX5_cut 34 = .ok (.ireturn, 1) := by decide +kernel
theorem dX5_with_0 : decode cX5_with 0 = .ok (.aload_n 0, 1) := by decide +kernel
theorem dX5_with_1 : decode cX5_with 1 = .ok (.getfield 10, 3) := by decide +kernel
theorem dX5_with_4 : decode cX5_with 4 = .ok (.iconst 0, 1) := by decide +kernel
theorem dX5_with_5 : decode cX5_with 5 = .ok (.iload_n 1, 1) := by decide +kernel
theorem dX5_with_6 : decode cX5_with 6 = .ok (.invokevirtual 103, 3) := by decide +kernel
theorem dX5_with_9 : decode cX5_with 9 = .ok (.ifCond .eq 40, 3) := by decide +kernel
theorem dX5_with_12 : decode cX5_with 12 = .ok (.aload_n 0, 1) := by decide +kernel
theorem dX5_with_13 : decode cX5_with 13 = .ok (.getfield 10, 3) := by decide +kernel
theorem dX5_with_16 : decode cX5_with 16 = .ok (.iconst 1, 1) := by decide +kernel
theorem dX5_with_17 : decode cX5_with 17 = .ok (.iload_n 2, 1) := by decide +kernel
theorem dX5_with_18 : decode cX5_with 18 = .ok (.invokevirtual 103, 3) := by decide +kernel
theorem dX5_with_21 : decode cX5_with 21 = .ok (.ifCond .eq 28, 3) := by decide +kernel
theorem dX5_with_24 : decode cX5_with 24 = .ok (.aload_n 0, 1) := by decide +kernel
theorem dX5_with_25 : decode cX5_with 25 = .ok (.getfield 10, 3) := by decide +kernel
theorem dX5_with_28 : decode cX5_with 28 = .ok (.iconst 2, 1) := by decide +kernel
theorem dX5_with_29 : decode cX5_with 29 = .ok (.iload_n 3, 1) := by decide +kernel
theorem dX5_with_30 : decode cX5_with 30 = .ok (.invokevirtual 103, 3) := by decide +kernel
theorem dX5_with_33 : decode cX5_with 33 = .ok (.ifCond .eq 16, 3) := by decide +kernel
theorem dX5_with_36 : decode cX5_with 36 = .ok (.aload_n 0, 1) := by decide +kernel
theorem dX5_with_37 : decode cX5_with 37 = .ok (.getfield 10, 3) := by decide +kernel
theorem dX5_with_40 : decode cX5_with 40 = .ok (.iconst 3, 1) := by decide +kernel
theorem dX5_with_41 : decode cX5_with 41 = .ok (.iload 4, 2) := by decide +kernel
theorem dX5_with_43 : decode cX5_with 43 = .ok (.invokevirtual 103, 3) := by decide +kernel
theorem dX5_with_46 : decode cX5_with 46 = .ok (.ifCond .ne 5, 3) := by decide +kernel
theorem dX5_with_49 : decode cX5_with 49 = .ok (.iconst (-1), 1) := by decide +kernel
theorem dX5_with_50 : decode cX5_with 50 = .ok (.ireturn, 1) := by decide +kernel
theorem dX5_with_51 : decode cX5_with 51 = .ok (.aload_n 0, 1) := by decide +kernel
theorem dX5_with_52 : decode cX5_with 52 = .ok (.getfield 10, 3) := by decide +kernel
theorem dX5_with_55 : decode cX5_with 55 = .ok (.getfield 85, 3) := by decide +kernel
theorem dX5_with_58 : decode cX5_with 58 = .ok (.astore 5, 2) := by decide +kernel
theorem dX5_with_60 : decode cX5_with 60 = .ok (.iload_n 1, 1) := by decide +kernel
theorem dX5_with_61 : decode cX5_with 61 = .ok (.aload 5, 2) := by decide +kernel
theorem dX5_with_63 : decode cX5_with 63 = .ok (.iconst 0, 1) := by decide +kernel
theorem dX5_with_64 : decode cX5_with 64 = .ok (.iaload, 1) := by decide +kernel
theorem dX5_with_65 : decode cX5_with 65 = .ok (.imul, 1) := by decide +kernel
theorem dX5_with_66 : decode cX5_with 66 = .ok (.iload_n 2, 1) := by decide +kernel
theorem dX5_with_67 : decode cX5_with 67 = .ok (.aload 5, 2) := by decide +kernel
theorem dX5_with_69 : decode cX5_with 69 = .ok (.iconst 1, 1) := by decide +kernel
theorem dX5_with_70 : decode cX5_with 70 = .ok (.iaload, 1) := by decide +kernel
theorem dX5_with_71 : decode cX5_with 71 = .ok (.imul, 1) := by decide +kernel
theorem dX5_with_72 : decode cX5_with 72 = .ok (.iadd, 1) := by decide +kernel
theorem dX5_with_73 : decode cX5_with 73 = .ok (.iload_n 3, 1) := by decide +kernel
theorem dX5_with_74 : decode cX5_with 74 = .ok (.aload 5, 2) := by decide +kernel
theorem dX5_with_76 : decode cX5_with 76 = .ok (.iconst 2, 1) := by decide +kernel
theorem dX5_with_77 : decode cX5_with 77 = .ok (.iaload, 1) := by decide +kernel
theorem dX5_with_78 : decode cX5_with 78 = .ok (.imul, 1) := by decide +kernel
theorem dX5_with_79 : decode cX5_with 79 = .ok (.iadd, 1) := by decide +kernel
theorem dX5_with_80 : decode cX5_with 80 = .ok (.iload 4, 2) := by decide +kernel
theorem dX5_with_82 : decode cX5_with 82 = .ok (.aload 5, 2) := by decide +kernel
theorem dX5_with_84 : decode cX5_with 84 = .ok (.iconst 3, 1) := by decide +kernel
theorem dX5_with_85 : decode cX5_with 85 = .ok (.iaload, 1) := by decide +kernel
theorem dX5_with_86 : decode cX5_with 86 = .ok (.imul, 1) := by decide +kernel
theorem dX5_with_87 : decode cX5_with 87 = .ok (.iadd, 1) := by decide +kernel
theorem dX5_with_88 : decode cX5_with 88 = .ok (.aload_n 0, 1) := by decide +kernel
theorem dX5_with_89 : decode cX5_with 89 = .ok (.getfield 10, 3) := by decide +kernel
theorem dX5_with_92 : decode cX5_with 92 = .ok (.getfield 61, 3) := by decide +kernel
theorem dX5_with_95 : decode cX5_with 95 = .ok (.if_icmp .le 5, 3) := by decide +kernel
theorem dX5_with_98 : decode cX5_with 98 = .ok (.iconst (-1), 1) := by decide +kernel
theorem dX5_with_99 : decode cX5_with 99 = .ok (.ireturn, 1) := by decide +kernel
theorem dX5_with_100 : decode cX5_with 100 = .ok (.iload_n 1, 1) := by decide +kernel
theorem dX5_with_101 : decode cX5_with 101 = .ok (.getstatic 107, 3) := by decide +kernel
theorem dX5_with_104 : decode cX5_with 104 = .ok (.iconst 0, 1) := by decide +kernel
theorem dX5_with_105 : decode cX5_with 105 = .ok (.iaload, 1) := by decide +kernel
theorem dX5_with_106 : decode cX5_with 106 = .ok (.imul, 1) := by decide +kernel
theorem dX5_with_107 : decode cX5_with 107 = .ok (.iload_n 2, 1) := by decide +kernel
theorem dX5_with_108 : decode cX5_with 108 = .ok (.getstatic 107, 3) := by decide +kernel
theorem dX5_with_111 : decode cX5_with 111 = .ok (.iconst 1, 1) := by decide +kernel
theorem dX5_with_112 : decode cX5_with 112 = .ok (.iaload, 1) := by decide +kernel
theorem dX5_with_113 : decode cX5_with 113 = .ok (.imul, 1) := by decide +kernel
theorem dX5_with_114 : decode cX5_with 114 = .ok (.iadd, 1) := by decide +kernel
theorem dX5_with_115 : decode cX5_with 115 = .ok (.iload_n 3, 1) := by decide +kernel
theorem dX5_with_116 : decode cX5_with 116 = .ok (.getstatic 107, 3) := by decide +kernel
theorem dX5_with_119 : decode cX5_with 119 = .ok (.iconst 2, 1) := by decide +kernel
theorem dX5_with_120 : decode cX5_with 120 = .ok (.iaload, 1) := by decide +kernel
theorem dX5_with_121 : decode cX5_with 121 = .ok (.imul, 1) := by decide +kernel
theorem dX5_with_122 : decode cX5_with 122 = .ok (.iadd, 1) := by decide +kernel
theorem dX5_with_123 : decode cX5_with 123 = .ok (.iload 4, 2) := by decide +kernel
theorem dX5_with_125 : decode cX5_with 125 = .ok (.getstatic 107, 3) := by decide +kernel
theorem dX5_with_128 : decode cX5_with 128 = .ok (.iconst 3, 1) := by decide +kernel
theorem dX5_with_129 : decode cX5_with 129 = .ok (.iaload, 1) := by decide +kernel
theorem dX5_with_130 : decode cX5_with 130 = .ok (.imul, 1) := by decide +kernel
theorem dX5_with_131 : decode cX5_with 131 = .ok (.iadd, 1) := by decide +kernel
theorem dX5_with_132 : decode cX5_with 132 = .ok (.istore 6, 2) := by decide +kernel
theorem dX5_with_134 : decode cX5_with 134 = .ok (.iconst 1, 1) := by decide +kernel
theorem dX5_with_135 : decode cX5_with 135 = .ok (.aload_n 0, 1) := by decide +kernel
theorem dX5_with_136 : decode cX5_with 136 = .ok (.getfield 21, 3) := by decide +kernel
theorem dX5_with_139 : decode cX5_with 139 = .ok (.aload_n 0, 1) := by decide +kernel
theorem dX5_with_140 : decode cX5_with 140 = .ok (.getfield 10, 3) := by decide +kernel
theorem dX5_with_143 : decode cX5_with 143 = .ok (.getfield 78, 3) := by decide +kernel
theorem dX5_with_146 : decode cX5_with 146 = .ok (.invokestatic 88, 3) := by decide +kernel
theorem dX5_with_149 : decode cX5_with 149 = .ok (.iload 6, 2) := by decide +kernel
theorem dX5_with_151 : decode cX5_with 151 = .ok (.isub, 1) := by decide +kernel
theorem dX5_with_152 : decode cX5_with 152 = .ok (.invokevirtual 92, 3) := by decide +kernel
theorem dX5_with_155 : decode cX5_with 155 = .ok (.iadd, 1) := by decide +kernel
theorem dX5_with_156 : decode cX5_with 156 = .ok (.ireturn, 1) := by decide +kernel
theorem dX5_floorTop_0 : decode cX5_floorTop 0 = .ok (.aload_n 0, 1) := by decide +kernel
theorem dX5_floorTop_1 : decode cX5_floorTop 1 = .ok (.getfield 46, 3) := by decide +kernel
theorem dX5_floorTop_4 : decode cX5_floorTop 4 = .ok (.invokevirtual 110, 3) := by decide +kernel
theorem dX5_floorTop_7 : decode cX5_floorTop 7 = .ok (.aload_n 0, 1) := by decide +kernel
theorem dX5_floorTop_8 : decode cX5_floorTop 8 = .ok (.getfield 46, 3) := by decide +kernel
theorem dX5_floorTop_11 : decode cX5_floorTop 11 = .ok (.getfield 113, 3) := by decide +kernel
theorem dX5_floorTop_14 : decode cX5_floorTop 14 = .ok (.lreturn, 1) := by decide +kernel
theorem dX5_floorBottom_0 : decode cX5_floorBottom 0 = .ok (.aload_n 0, 1) := by decide +kernel
theorem dX5_floorBottom_1 : decode cX5_floorBottom 1 = .ok (.getfield 46, 3) := by decide +kernel
theorem dX5_floorBottom_4 : decode cX5_floorBottom 4 = .ok (.invokevirtual 110, 3) := by decide +kernel
theorem dX5_floorBottom_7 : decode cX5_floorBottom 7 = .ok (.aload_n 0, 1) := by decide +kernel
theorem dX5_floorBottom_8 : decode cX5_floorBottom 8 = .ok (.getfield 46, 3) := by decide +kernel
theorem dX5_floorBottom_11 : decode cX5_floorBottom 11 = .ok (.getfield 117, 3) := by decide +kernel
theorem dX5_floorBottom_14 : decode cX5_floorBottom 14 = .ok (.lreturn, 1) := by decide +kernel
theorem dX5_price_0 : decode cX5_price 0 = .ok (.iload_n 1, 1) := by decide +kernel
theorem dX5_price_1 : decode cX5_price 1 = .ok (.invokestatic 120, 3) := by decide +kernel
theorem dX5_price_4 : decode cX5_price 4 = .ok (.ifCond .eq 25, 3) := by decide +kernel
theorem dX5_price_7 : decode cX5_price 7 = .ok (.iload_n 2, 1) := by decide +kernel
theorem dX5_price_8 : decode cX5_price 8 = .ok (.invokestatic 120, 3) := by decide +kernel
theorem dX5_price_11 : decode cX5_price 11 = .ok (.ifCond .eq 18, 3) := by decide +kernel
theorem dX5_price_14 : decode cX5_price 14 = .ok (.iload_n 3, 1) := by decide +kernel
theorem dX5_price_15 : decode cX5_price 15 = .ok (.invokestatic 120, 3) := by decide +kernel
theorem dX5_price_18 : decode cX5_price 18 = .ok (.ifCond .eq 11, 3) := by decide +kernel
theorem dX5_price_21 : decode cX5_price 21 = .ok (.iload 4, 2) := by decide +kernel
theorem dX5_price_23 : decode cX5_price 23 = .ok (.invokestatic 120, 3) := by decide +kernel
theorem dX5_price_26 : decode cX5_price 26 = .ok (.ifCond .ne 5, 3) := by decide +kernel
theorem dX5_price_29 : decode cX5_price 29 = .ok (.iconst (-1), 1) := by decide +kernel
theorem dX5_price_30 : decode cX5_price 30 = .ok (.ireturn, 1) := by decide +kernel
theorem dX5_price_31 : decode cX5_price 31 = .ok (.aload_n 0, 1) := by decide +kernel
theorem dX5_price_32 : decode cX5_price 32 = .ok (.getfield 37, 3) := by decide +kernel
theorem dX5_price_35 : decode cX5_price 35 = .ok (.getfield 123, 3) := by decide +kernel
theorem dX5_price_38 : decode cX5_price 38 = .ok (.iconst 0, 1) := by decide +kernel
theorem dX5_price_39 : decode cX5_price 39 = .ok (.iload_n 1, 1) := by decide +kernel
theorem dX5_price_40 : decode cX5_price 40 = .ok (.i2l, 1) := by decide +kernel
theorem dX5_price_41 : decode cX5_price 41 = .ok (.lastore, 1) := by decide +kernel
theorem dX5_price_42 : decode cX5_price 42 = .ok (.aload_n 0, 1) := by decide +kernel
theorem dX5_price_43 : decode cX5_price 43 = .ok (.getfield 37, 3) := by decide +kernel
theorem dX5_price_46 : decode cX5_price 46 = .ok (.getfield 123, 3) := by decide +kernel
theorem dX5_price_49 : decode cX5_price 49 = .ok (.iconst 1, 1) := by decide +kernel
theorem dX5_price_50 : decode cX5_price 50 = .ok (.iload_n 2, 1) := by decide +kernel
theorem dX5_price_51 : decode cX5_price 51 = .ok (.i2l, 1) := by decide +kernel
theorem dX5_price_52 : decode cX5_price 52 = .ok (.lastore, 1) := by decide +kernel
theorem dX5_price_53 : decode cX5_price 53 = .ok (.aload_n 0, 1) := by decide +kernel
theorem dX5_price_54 : decode cX5_price 54 = .ok (.getfield 37, 3) := by decide +kernel
theorem dX5_price_57 : decode cX5_price 57 = .ok (.getfield 123, 3) := by decide +kernel
theorem dX5_price_60 : decode cX5_price 60 = .ok (.iconst 2, 1) := by decide +kernel
theorem dX5_price_61 : decode cX5_price 61 = .ok (.iload_n 3, 1) := by decide +kernel
theorem dX5_price_62 : decode cX5_price 62 = .ok (.i2l, 1) := by decide +kernel
theorem dX5_price_63 : decode cX5_price 63 = .ok (.lastore, 1) := by decide +kernel
theorem dX5_price_64 : decode cX5_price 64 = .ok (.aload_n 0, 1) := by decide +kernel
theorem dX5_price_65 : decode cX5_price 65 = .ok (.getfield 37, 3) := by decide +kernel
theorem dX5_price_68 : decode cX5_price 68 = .ok (.getfield 123, 3) := by decide +kernel
theorem dX5_price_71 : decode cX5_price 71 = .ok (.iconst 3, 1) := by decide +kernel
theorem dX5_price_72 : decode cX5_price 72 = .ok (.iload 4, 2) := by decide +kernel
theorem dX5_price_74 : decode cX5_price 74 = .ok (.i2l, 1) := by decide +kernel
theorem dX5_price_75 : decode cX5_price 75 = .ok (.lastore, 1) := by decide +kernel
theorem dX5_price_76 : decode cX5_price 76 = .ok (.aload_n 0, 1) := by decide +kernel
theorem dX5_price_77 : decode cX5_price 77 = .ok (.getfield 37, 3) := by decide +kernel
theorem dX5_price_80 : decode cX5_price 80 = .ok (.invokevirtual 127, 3) := by decide +kernel
theorem dX5_price_83 : decode cX5_price 83 = .ok (.l2i, 1) := by decide +kernel
theorem dX5_price_84 : decode cX5_price 84 = .ok (.ireturn, 1) := by decide +kernel
theorem dX5_isDemand_0 : decode cX5_isDemand 0 = .ok (.iload_n 0, 1) := by decide +kernel
theorem dX5_isDemand_1 : decode cX5_isDemand 1 = .ok (.ifCond .lt 13, 3) := by decide +kernel
theorem dX5_isDemand_4 : decode cX5_isDemand 4 = .ok (.iload_n 0, 1) := by decide +kernel
theorem dX5_isDemand_5 : decode cX5_isDemand 5 = .ok (.bipush 6, 2) := by decide +kernel
theorem dX5_isDemand_7 : decode cX5_isDemand 7 = .ok (.if_icmp .gt 7, 3) := by decide +kernel
theorem dX5_isDemand_10 : decode cX5_isDemand 10 = .ok (.iconst 1, 1) := by decide +kernel
theorem dX5_isDemand_11 : decode cX5_isDemand 11 = .ok (.goto 4, 3) := by decide +kernel
theorem dX5_isDemand_14 : decode cX5_isDemand 14 = .ok (.iconst 0, 1) := by decide +kernel
theorem dX5_isDemand_15 : decode cX5_isDemand 15 = .ok (.ireturn, 1) := by decide +kernel
theorem dX5_isPrice_0 : decode cX5_isPrice 0 = .ok (.iload_n 0, 1) := by decide +kernel
theorem dX5_isPrice_1 : decode cX5_isPrice 1 = .ok (.ifCond .lt 13, 3) := by decide +kernel
theorem dX5_isPrice_4 : decode cX5_isPrice 4 = .ok (.iload_n 0, 1) := by decide +kernel
theorem dX5_isPrice_5 : decode cX5_isPrice 5 = .ok (.ldc 131, 2) := by decide +kernel
theorem dX5_isPrice_7 : decode cX5_isPrice 7 = .ok (.if_icmp .gt 7, 3) := by decide +kernel
theorem dX5_isPrice_10 : decode cX5_isPrice 10 = .ok (.iconst 1, 1) := by decide +kernel
theorem dX5_isPrice_11 : decode cX5_isPrice 11 = .ok (.goto 4, 3) := by decide +kernel
theorem dX5_isPrice_14 : decode cX5_isPrice 14 = .ok (.iconst 0, 1) := by decide +kernel
theorem dX5_isPrice_15 : decode cX5_isPrice 15 = .ok (.ireturn, 1) := by decide +kernel
theorem dX5_codeOf_0 : decode cX5_codeOf 0 = .ok (.iconst 0, 1) := by decide +kernel
theorem dX5_codeOf_1 : decode cX5_codeOf 1 = .ok (.istore_n 1, 1) := by decide +kernel
theorem dX5_codeOf_2 : decode cX5_codeOf 2 = .ok (.iconst 0, 1) := by decide +kernel
theorem dX5_codeOf_3 : decode cX5_codeOf 3 = .ok (.istore_n 2, 1) := by decide +kernel
theorem dX5_codeOf_4 : decode cX5_codeOf 4 = .ok (.iload_n 2, 1) := by decide +kernel
theorem dX5_codeOf_5 : decode cX5_codeOf 5 = .ok (.iconst 4, 1) := by decide +kernel
theorem dX5_codeOf_6 : decode cX5_codeOf 6 = .ok (.if_icmp .ge 21, 3) := by decide +kernel
theorem dX5_codeOf_9 : decode cX5_codeOf 9 = .ok (.iload_n 1, 1) := by decide +kernel
theorem dX5_codeOf_10 : decode cX5_codeOf 10 = .ok (.aload_n 0, 1) := by decide +kernel
theorem dX5_codeOf_11 : decode cX5_codeOf 11 = .ok (.iload_n 2, 1) := by decide +kernel
theorem dX5_codeOf_12 : decode cX5_codeOf 12 = .ok (.iaload, 1) := by decide +kernel
theorem dX5_codeOf_13 : decode cX5_codeOf 13 = .ok (.getstatic 107, 3) := by decide +kernel
theorem dX5_codeOf_16 : decode cX5_codeOf 16 = .ok (.iload_n 2, 1) := by decide +kernel
theorem dX5_codeOf_17 : decode cX5_codeOf 17 = .ok (.iaload, 1) := by decide +kernel
theorem dX5_codeOf_18 : decode cX5_codeOf 18 = .ok (.imul, 1) := by decide +kernel
theorem dX5_codeOf_19 : decode cX5_codeOf 19 = .ok (.iadd, 1) := by decide +kernel
theorem dX5_codeOf_20 : decode cX5_codeOf 20 = .ok (.istore_n 1, 1) := by decide +kernel
theorem dX5_codeOf_21 : decode cX5_codeOf 21 = .ok (.iinc 2 1, 3) := by decide +kernel
theorem dX5_codeOf_24 : decode cX5_codeOf 24 = .ok (.goto (-20), 3) := by decide +kernel
theorem dX5_codeOf_27 : decode cX5_codeOf 27 = .ok (.iload_n 1, 1) := by decide +kernel
theorem dX5_codeOf_28 : decode cX5_codeOf 28 = .ok (.ireturn, 1) := by decide +kernel
theorem dX6_init_0 : decode cX6_init 0 = .ok (.aload_n 0, 1) := by decide +kernel
theorem dX6_init_1 : decode cX6_init 1 = .ok (.invokespecial 1, 3) := by decide +kernel
theorem dX6_init_4 : decode cX6_init 4 = .ok (.aload_n 0, 1) := by decide +kernel
