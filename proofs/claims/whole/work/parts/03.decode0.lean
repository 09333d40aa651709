theorem dX0_init_0 : decode cX0_init 0 = .ok (.aload_n 0, 1) := by decide +kernel
theorem dX0_init_1 : decode cX0_init 1 = .ok (.invokespecial 3, 3) := by decide +kernel
theorem dX0_init_4 : decode cX0_init 4 = .ok (.aload_n 0, 1) := by decide +kernel
theorem dX0_init_5 : decode cX0_init 5 = .ok (.lconst 0, 1) := by decide +kernel
theorem dX0_init_6 : decode cX0_init 6 = .ok (.putfield 9, 3) := by decide +kernel
theorem dX0_init_9 : decode cX0_init 9 = .ok (.aload_n 0, 1) := by decide +kernel
theorem dX0_init_10 : decode cX0_init 10 = .ok (.lconst 1, 1) := by decide +kernel
theorem dX0_init_11 : decode cX0_init 11 = .ok (.putfield 15, 3) := by decide +kernel
theorem dX0_init_14 : decode cX0_init 14 = .ok (.aload_n 0, 1) := by decide +kernel
theorem dX0_init_15 : decode cX0_init 15 = .ok (.iconst 4, 1) := by decide +kernel
theorem dX0_init_16 : decode cX0_init 16 = .ok (.iconst 5, 1) := by decide +kernel
theorem dX0_init_17 : decode cX0_init 17 = .ok (.multianewarray 18 2, 4) := by decide +kernel
theorem dX0_init_21 : decode cX0_init 21 = .ok (.putfield 20, 3) := by decide +kernel
theorem dX0_init_24 : decode cX0_init 24 = .ok (.aload_n 0, 1) := by decide +kernel
theorem dX0_init_25 : decode cX0_init 25 = .ok (.lconst 1, 1) := by decide +kernel
theorem dX0_init_26 : decode cX0_init 26 = .ok (.putfield 23, 3) := by decide +kernel
theorem dX0_init_29 : decode cX0_init 29 = .ok (.aload_n 0, 1) := by decide +kernel
theorem dX0_init_30 : decode cX0_init 30 = .ok (.iconst 4, 1) := by decide +kernel
theorem dX0_init_31 : decode cX0_init 31 = .ok (.newarray .int, 2) := by decide +kernel
theorem dX0_init_33 : decode cX0_init 33 = .ok (.putfield 26, 3) := by decide +kernel
theorem dX0_init_36 : decode cX0_init 36 = .ok (.aload_n 0, 1) := by decide +kernel
theorem dX0_init_37 : decode cX0_init 37 = .ok (.iconst 4, 1) := by decide +kernel
theorem dX0_init_38 : decode cX0_init 38 = .ok (.newarray .long, 2) := by decide +kernel
theorem dX0_init_40 : decode cX0_init 40 = .ok (.putfield 30, 3) := by decide +kernel
theorem dX0_init_43 : decode cX0_init 43 = .ok (.aload_n 0, 1) := by decide +kernel
theorem dX0_init_44 : decode cX0_init 44 = .ok (.aload_n 1, 1) := by decide +kernel
theorem dX0_init_45 : decode cX0_init 45 = .ok (.putfield 34, 3) := by decide +kernel
theorem dX0_init_48 : decode cX0_init 48 = .ok (.aload_n 0, 1) := by decide +kernel
theorem dX0_init_49 : decode cX0_init 49 = .ok (.aload_n 2, 1) := by decide +kernel
theorem dX0_init_50 : decode cX0_init 50 = .ok (.putfield 38, 3) := by decide +kernel
theorem dX0_init_53 : decode cX0_init 53 = .ok (.return_, 1) := by decide +kernel
theorem dX0_find_0 : decode cX0_find 0 = .ok (.aload_n 0, 1) := by decide +kernel
theorem dX0_find_1 : decode cX0_find 1 = .ok (.invokevirtual 42, 3) := by decide +kernel
theorem dX0_find_4 : decode cX0_find 4 = .ok (.iconst 0, 1) := by decide +kernel
theorem dX0_find_5 : decode cX0_find 5 = .ok (.istore_n 1, 1) := by decide +kernel
theorem dX0_find_6 : decode cX0_find 6 = .ok (.iload_n 1, 1) := by decide +kernel
theorem dX0_find_7 : decode cX0_find 7 = .ok (.ldc 45, 2) := by decide +kernel
theorem dX0_find_9 : decode cX0_find 9 = .ok (.if_icmp .ge 34, 3) := by decide +kernel
theorem dX0_find_12 : decode cX0_find 12 = .ok (.aload_n 0, 1) := by decide +kernel
theorem dX0_find_13 : decode cX0_find 13 = .ok (.invokevirtual 46, 3) := by decide +kernel
theorem dX0_find_16 : decode cX0_find 16 = .ok (.ifCond .eq 27, 3) := by decide +kernel
theorem dX0_find_19 : decode cX0_find 19 = .ok (.aload_n 0, 1) := by decide +kernel
theorem dX0_find_20 : decode cX0_find 20 = .ok (.invokevirtual 50, 3) := by decide +kernel
theorem dX0_find_23 : decode cX0_find 23 = .ok (.istore_n 2, 1) := by decide +kernel
theorem dX0_find_24 : decode cX0_find 24 = .ok (.iload_n 2, 1) := by decide +kernel
theorem dX0_find_25 : decode cX0_find 25 = .ok (.iconst (-1), 1) := by decide +kernel
theorem dX0_find_26 : decode cX0_find 26 = .ok (.if_icmp .ne 6, 3) := by decide +kernel
theorem dX0_find_29 : decode cX0_find 29 = .ok (.goto 14, 3) := by decide +kernel
theorem dX0_find_32 : decode cX0_find 32 = .ok (.aload_n 0, 1) := by decide +kernel
theorem dX0_find_33 : decode cX0_find 33 = .ok (.iload_n 2, 1) := by decide +kernel
theorem dX0_find_34 : decode cX0_find 34 = .ok (.invokevirtual 54, 3) := by decide +kernel
theorem dX0_find_37 : decode cX0_find 37 = .ok (.iinc 1 1, 3) := by decide +kernel
theorem dX0_find_40 : decode cX0_find 40 = .ok (.goto (-34), 3) := by decide +kernel
theorem dX0_find_43 : decode cX0_find 43 = .ok (.aload_n 0, 1) := by decide +kernel
theorem dX0_find_44 : decode cX0_find 44 = .ok (.invokevirtual 58, 3) := by decide +kernel
theorem dX0_find_47 : decode cX0_find 47 = .ok (.return_, 1) := by decide +kernel
theorem dX0_start_0 : decode cX0_start 0 = .ok (.aload_n 0, 1) := by decide +kernel
theorem dX0_start_1 : decode cX0_start 1 = .ok (.lconst 1, 1) := by decide +kernel
theorem dX0_start_2 : decode cX0_start 2 = .ok (.putfield 23, 3) := by decide +kernel
theorem dX0_start_5 : decode cX0_start 5 = .ok (.iconst 0, 1) := by decide +kernel
theorem dX0_start_6 : decode cX0_start 6 = .ok (.istore_n 1, 1) := by decide +kernel
theorem dX0_start_7 : decode cX0_start 7 = .ok (.iload_n 1, 1) := by decide +kernel
theorem dX0_start_8 : decode cX0_start 8 = .ok (.aload_n 0, 1) := by decide +kernel
theorem dX0_start_9 : decode cX0_start 9 = .ok (.getfield 34, 3) := by decide +kernel
theorem dX0_start_12 : decode cX0_start 12 = .ok (.getfield 61, 3) := by decide +kernel
theorem dX0_start_15 : decode cX0_start 15 = .ok (.if_icmp .ge 36, 3) := by decide +kernel
theorem dX0_start_18 : decode cX0_start 18 = .ok (.aload_n 0, 1) := by decide +kernel
theorem dX0_start_19 : decode cX0_start 19 = .ok (.dup, 1) := by decide +kernel
theorem dX0_start_20 : decode cX0_start 20 = .ok (.getfield 23, 3) := by decide +kernel
theorem dX0_start_23 : decode cX0_start 23 = .ok (.aload_n 0, 1) := by decide +kernel
theorem dX0_start_24 : decode cX0_start 24 = .ok (.getfield 34, 3) := by decide +kernel
theorem dX0_start_27 : decode cX0_start 27 = .ok (.getfield 67, 3) := by decide +kernel
theorem dX0_start_30 : decode cX0_start 30 = .ok (.aload_n 0, 1) := by decide +kernel
theorem dX0_start_31 : decode cX0_start 31 = .ok (.getfield 34, 3) := by decide +kernel
theorem dX0_start_34 : decode cX0_start 34 = .ok (.getfield 70, 3) := by decide +kernel
theorem dX0_start_37 : decode cX0_start 37 = .ok (.iload_n 1, 1) := by decide +kernel
theorem dX0_start_38 : decode cX0_start 38 = .ok (.iaload, 1) := by decide +kernel
theorem dX0_start_39 : decode cX0_start 39 = .ok (.idiv, 1) := by decide +kernel
theorem dX0_start_40 : decode cX0_start 40 = .ok (.i2l, 1) := by decide +kernel
theorem dX0_start_41 : decode cX0_start 41 = .ok (.lmul, 1) := by decide +kernel
theorem dX0_start_42 : decode cX0_start 42 = .ok (.putfield 23, 3) := by decide +kernel
theorem dX0_start_45 : decode cX0_start 45 = .ok (.iinc 1 1, 3) := by decide +kernel
theorem dX0_start_48 : decode cX0_start 48 = .ok (.goto (-41), 3) := by decide +kernel
theorem dX0_start_51 : decode cX0_start 51 = .ok (.iconst 0, 1) := by decide +kernel
theorem dX0_start_52 : decode cX0_start 52 = .ok (.istore_n 1, 1) := by decide +kernel
theorem dX0_start_53 : decode cX0_start 53 = .ok (.iload_n 1, 1) := by decide +kernel
theorem dX0_start_54 : decode cX0_start 54 = .ok (.aload_n 0, 1) := by decide +kernel
theorem dX0_start_55 : decode cX0_start 55 = .ok (.getfield 34, 3) := by decide +kernel
theorem dX0_start_58 : decode cX0_start 58 = .ok (.getfield 61, 3) := by decide +kernel
theorem dX0_start_61 : decode cX0_start 61 = .ok (.if_icmp .ge 81, 3) := by decide +kernel
theorem dX0_start_64 : decode cX0_start 64 = .ok (.aload_n 0, 1) := by decide +kernel
theorem dX0_start_65 : decode cX0_start 65 = .ok (.getfield 20, 3) := by decide +kernel
theorem dX0_start_68 : decode cX0_start 68 = .ok (.iload_n 1, 1) := by decide +kernel
theorem dX0_start_69 : decode cX0_start 69 = .ok (.aaload, 1) := by decide +kernel
theorem dX0_start_70 : decode cX0_start 70 = .ok (.lconst 0, 1) := by decide +kernel
theorem dX0_start_71 : decode cX0_start 71 = .ok (.invokestatic 73, 3) := by decide +kernel
theorem dX0_start_74 : decode cX0_start 74 = .ok (.aload_n 0, 1) := by decide +kernel
theorem dX0_start_75 : decode cX0_start 75 = .ok (.getfield 20, 3) := by decide +kernel
theorem dX0_start_78 : decode cX0_start 78 = .ok (.iload_n 1, 1) := by decide +kernel
theorem dX0_start_79 : decode cX0_start 79 = .ok (.aaload, 1) := by decide +kernel
theorem dX0_start_80 : decode cX0_start 80 = .ok (.iload_n 1, 1) := by decide +kernel
theorem dX0_start_81 : decode cX0_start 81 = .ok (.iconst 1, 1) := by decide +kernel
theorem dX0_start_82 : decode cX0_start 82 = .ok (.iadd, 1) := by decide +kernel
theorem dX0_start_83 : decode cX0_start 83 = .ok (.aload_n 0, 1) := by decide +kernel
theorem dX0_start_84 : decode cX0_start 84 = .ok (.getfield 23, 3) := by decide +kernel
theorem dX0_start_87 : decode cX0_start 87 = .ok (.aload_n 0, 1) := by decide +kernel
theorem dX0_start_88 : decode cX0_start 88 = .ok (.getfield 34, 3) := by decide +kernel
theorem dX0_start_91 : decode cX0_start 91 = .ok (.getfield 67, 3) := by decide +kernel
theorem dX0_start_94 : decode cX0_start 94 = .ok (.aload_n 0, 1) := by decide +kernel
theorem dX0_start_95 : decode cX0_start 95 = .ok (.getfield 34, 3) := by decide +kernel
theorem dX0_start_98 : decode cX0_start 98 = .ok (.getfield 70, 3) := by decide +kernel
theorem dX0_start_101 : decode cX0_start 101 = .ok (.iload_n 1, 1) := by decide +kernel
theorem dX0_start_102 : decode cX0_start 102 = .ok (.iaload, 1) := by decide +kernel
theorem dX0_start_103 : decode cX0_start 103 = .ok (.idiv, 1) := by decide +kernel
theorem dX0_start_104 : decode cX0_start 104 = .ok (.i2l, 1) := by decide +kernel
theorem dX0_start_105 : decode cX0_start 105 = .ok (.ldiv, 1) := by decide +kernel
theorem dX0_start_106 : decode cX0_start 106 = .ok (.lastore, 1) := by decide +kernel
theorem dX0_start_107 : decode cX0_start 107 = .ok (.aload_n 0, 1) := by decide +kernel
theorem dX0_start_108 : decode cX0_start 108 = .ok (.getfield 20, 3) := by decide +kernel
theorem dX0_start_111 : decode cX0_start 111 = .ok (.iload_n 1, 1) := by decide +kernel
theorem dX0_start_112 : decode cX0_start 112 = .ok (.aaload, 1) := by decide +kernel
theorem dX0_start_113 : decode cX0_start 113 = .ok (.iconst 0, 1) := by decide +kernel
theorem dX0_start_114 : decode cX0_start 114 = .ok (.aload_n 0, 1) := by decide +kernel
theorem dX0_start_115 : decode cX0_start 115 = .ok (.getfield 34, 3) := by decide +kernel
theorem dX0_start_118 : decode cX0_start 118 = .ok (.getfield 79, 3) := by decide +kernel
theorem dX0_start_121 : decode cX0_start 121 = .ok (.iload_n 1, 1) := by decide +kernel
theorem dX0_start_122 : decode cX0_start 122 = .ok (.iaload, 1) := by decide +kernel
theorem dX0_start_123 : decode cX0_start 123 = .ok (.i2l, 1) := by decide +kernel
theorem dX0_start_124 : decode cX0_start 124 = .ok (.aload_n 0, 1) := by decide +kernel
theorem dX0_start_125 : decode cX0_start 125 = .ok (.getfield 20, 3) := by decide +kernel
theorem dX0_start_128 : decode cX0_start 128 = .ok (.iload_n 1, 1) := by decide +kernel
theorem dX0_start_129 : decode cX0_start 129 = .ok (.aaload, 1) := by decide +kernel
theorem dX0_start_130 : decode cX0_start 130 = .ok (.iload_n 1, 1) := by decide +kernel
theorem dX0_start_131 : decode cX0_start 131 = .ok (.iconst 1, 1) := by decide +kernel
theorem dX0_start_132 : decode cX0_start 132 = .ok (.iadd, 1) := by decide +kernel
theorem dX0_start_133 : decode cX0_start 133 = .ok (.laload, 1) := by decide +kernel
theorem dX0_start_134 : decode cX0_start 134 = .ok (.lmul, 1) := by decide +kernel
theorem dX0_start_135 : decode cX0_start 135 = .ok (.lastore, 1) := by decide +kernel
theorem dX0_start_136 : decode cX0_start 136 = .ok (.iinc 1 1, 3) := by decide +kernel
theorem dX0_start_139 : decode cX0_start 139 = .ok (.goto (-86), 3) := by decide +kernel
theorem dX0_start_142 : decode cX0_start 142 = .ok (.return_, 1) := by decide +kernel
theorem dX0_findCheaper_0 : decode cX0_findCheaper 0 = .ok (.iconst 0, 1) := by decide +kernel
theorem dX0_findCheaper_1 : decode cX0_findCheaper 1 = .ok (.istore_n 1, 1) := by decide +kernel
theorem dX0_findCheaper_2 : decode cX0_findCheaper 2 = .ok (.iload_n 1, 1) := by decide +kernel
theorem dX0_findCheaper_3 : decode cX0_findCheaper 3 = .ok (.aload_n 0, 1) := by decide +kernel
theorem dX0_findCheaper_4 : decode cX0_findCheaper 4 = .ok (.getfield 34, 3) := by decide +kernel
theorem dX0_findCheaper_7 : decode cX0_findCheaper 7 = .ok (.getfield 61, 3) := by decide +kernel
theorem dX0_findCheaper_10 : decode cX0_findCheaper 10 = .ok (.if_icmp .ge 25, 3) := by decide +kernel
theorem dX0_findCheaper_13 : decode cX0_findCheaper 13 = .ok (.aload_n 0, 1) := by decide +kernel
theorem dX0_findCheaper_14 : decode cX0_findCheaper 14 = .ok (.getfield 38, 3) := by decide +kernel
theorem dX0_findCheaper_17 : decode cX0_findCheaper 17 = .ok (.getfield 82, 3) := by decide +kernel
theorem dX0_findCheaper_20 : decode cX0_findCheaper 20 = .ok (.iload_n 1, 1) := by decide +kernel
theorem dX0_findCheaper_21 : decode cX0_findCheaper 21 = .ok (.aload_n 0, 1) := by decide +kernel
theorem dX0_findCheaper_22 : decode cX0_findCheaper 22 = .ok (.iload_n 1, 1) := by decide +kernel
theorem dX0_findCheaper_23 : decode cX0_findCheaper 23 = .ok (.iconst 1, 1) := by decide +kernel
theorem dX0_findCheaper_24 : decode cX0_findCheaper 24 = .ok (.iadd, 1) := by decide +kernel
theorem dX0_findCheaper_25 : decode cX0_findCheaper 25 = .ok (.invokevirtual 87, 3) := by decide +kernel
theorem dX0_findCheaper_28 : decode cX0_findCheaper 28 = .ok (.lastore, 1) := by decide +kernel
theorem dX0_findCheaper_29 : decode cX0_findCheaper 29 = .ok (.iinc 1 1, 3) := by decide +kernel
theorem dX0_findCheaper_32 : decode cX0_findCheaper 32 = .ok (.goto (-30), 3) := by decide +kernel
theorem dX0_findCheaper_35 : decode cX0_findCheaper 35 = .ok (.aload_n 0, 1) := by decide +kernel
theorem dX0_findCheaper_36 : decode cX0_findCheaper 36 = .ok (.getfield 38, 3) := by decide +kernel
theorem dX0_findCheaper_39 : decode cX0_findCheaper 39 = .ok (.invokevirtual 91, 3) := by decide +kernel
theorem dX0_findCheaper_42 : decode cX0_findCheaper 42 = .ok (.aload_n 0, 1) := by decide +kernel
theorem dX0_findCheaper_43 : decode cX0_findCheaper 43 = .ok (.getfield 23, 3) := by decide +kernel
theorem dX0_findCheaper_46 : decode cX0_findCheaper 46 = .ok (.lcmp, 1) := by decide +kernel
theorem dX0_findCheaper_47 : decode cX0_findCheaper 47 = .ok (.ifCond .gt 5, 3) := by decide +kernel
theorem dX0_findCheaper_50 : decode cX0_findCheaper 50 = .ok (.iconst 0, 1) := by decide +kernel
theorem dX0_findCheaper_51 : decode cX0_findCheaper 51 = .ok (.ireturn, 1) := by decide +kernel
theorem dX0_findCheaper_52 : decode cX0_findCheaper 52 = .ok (.aload_n 0, 1) := by decide +kernel
theorem dX0_findCheaper_53 : decode cX0_findCheaper 53 = .ok (.getfield 38, 3) := by decide +kernel
theorem dX0_findCheaper_56 : decode cX0_findCheaper 56 = .ok (.aload_n 0, 1) := by decide +kernel
theorem dX0_findCheaper_57 : decode cX0_findCheaper 57 = .ok (.getfield 26, 3) := by decide +kernel
theorem dX0_findCheaper_60 : decode cX0_findCheaper 60 = .ok (.invokevirtual 95, 3) := by decide +kernel
theorem dX0_findCheaper_63 : decode cX0_findCheaper 63 = .ok (.iconst 0, 1) := by decide +kernel
theorem dX0_findCheaper_64 : decode cX0_findCheaper 64 = .ok (.istore_n 1, 1) := by decide +kernel
theorem dX0_findCheaper_65 : decode cX0_findCheaper 65 = .ok (.iload_n 1, 1) := by decide +kernel
theorem dX0_findCheaper_66 : decode cX0_findCheaper 66 = .ok (.aload_n 0, 1) := by decide +kernel
theorem dX0_findCheaper_67 : decode cX0_findCheaper 67 = .ok (.getfield 34, 3) := by decide +kernel
theorem dX0_findCheaper_70 : decode cX0_findCheaper 70 = .ok (.getfield 61, 3) := by decide +kernel
theorem dX0_findCheaper_73 : decode cX0_findCheaper 73 = .ok (.if_icmp .ge 62, 3) := by decide +kernel
theorem dX0_findCheaper_76 : decode cX0_findCheaper 76 = .ok (.aload_n 0, 1) := by decide +kernel
theorem dX0_findCheaper_77 : decode cX0_findCheaper 77 = .ok (.getfield 30, 3) := by decide +kernel
theorem dX0_findCheaper_80 : decode cX0_findCheaper 80 = .ok (.iload_n 1, 1) := by decide +kernel
theorem dX0_findCheaper_81 : decode cX0_findCheaper 81 = .ok (.lconst 0, 1) := by decide +kernel
theorem dX0_findCheaper_82 : decode cX0_findCheaper 82 = .ok (.lastore, 1) := by decide +kernel
theorem dX0_findCheaper_83 : decode cX0_findCheaper 83 = .ok (.iconst 0, 1) := by decide +kernel
theorem dX0_findCheaper_84 : decode cX0_findCheaper 84 = .ok (.istore_n 2, 1) := by decide +kernel
theorem dX0_findCheaper_85 : decode cX0_findCheaper 85 = .ok (.iload_n 2, 1) := by decide +kernel
theorem dX0_findCheaper_86 : decode cX0_findCheaper 86 = .ok (.aload_n 0, 1) := by decide +kernel
theorem dX0_findCheaper_87 : decode cX0_findCheaper 87 = .ok (.getfield 34, 3) := by decide +kernel
theorem dX0_findCheaper_90 : decode cX0_findCheaper 90 = .ok (.getfield 61, 3) := by decide +kernel
theorem dX0_findCheaper_93 : decode cX0_findCheaper 93 = .ok (.if_icmp .ge 36, 3) := by decide +kernel
theorem dX0_findCheaper_96 : decode cX0_findCheaper 96 = .ok (.aload_n 0, 1) := by decide +kernel
theorem dX0_findCheaper_97 : decode cX0_findCheaper 97 = .ok (.getfield 30, 3) := by decide +kernel
theorem dX0_findCheaper_100 : decode cX0_findCheaper 100 = .ok (.iload_n 1, 1) := by decide +kernel
theorem dX0_findCheaper_101 : decode cX0_findCheaper 101 = .ok (.dup2, 1) := by decide +kernel
theorem dX0_findCheaper_102 : decode cX0_findCheaper 102 = .ok (.laload, 1) := by decide +kernel
theorem dX0_findCheaper_103 : decode cX0_findCheaper 103 = .ok (.aload_n 0, 1) := by decide +kernel
theorem dX0_findCheaper_104 : decode cX0_findCheaper 104 = .ok (.getfield 20, 3) := by decide +kernel
theorem dX0_findCheaper_107 : decode cX0_findCheaper 107 = .ok (.iload_n 1, 1) := by decide +kernel
theorem dX0_findCheaper_108 : decode cX0_findCheaper 108 = .ok (.aaload, 1) := by decide +kernel
theorem dX0_findCheaper_109 : decode cX0_findCheaper 109 = .ok (.iload_n 2, 1) := by decide +kernel
theorem dX0_findCheaper_110 : decode cX0_findCheaper 110 = .ok (.iconst 1, 1) := by decide +kernel
theorem dX0_findCheaper_111 : decode cX0_findCheaper 111 = .ok (.iadd, 1) := by decide +kernel
theorem dX0_findCheaper_112 : decode cX0_findCheaper 112 = .ok (.laload, 1) := by decide +kernel
theorem dX0_findCheaper_113 : decode cX0_findCheaper 113 = .ok (.aload_n 0, 1) := by decide +kernel
theorem dX0_findCheaper_114 : decode cX0_findCheaper 114 = .ok (.getfield 26, 3) := by decide +kernel
theorem dX0_findCheaper_117 : decode cX0_findCheaper 117 = .ok (.iload_n 2, 1) := by decide +kernel
theorem dX0_findCheaper_118 : decode cX0_findCheaper 118 = .ok (.iaload, 1) := by decide +kernel
theorem dX0_findCheaper_119 : decode cX0_findCheaper 119 = .ok (.i2l, 1) := by decide +kernel
theorem dX0_findCheaper_120 : decode cX0_findCheaper 120 = .ok (.lmul, 1) := by decide +kernel
theorem dX0_findCheaper_121 : decode cX0_findCheaper 121 = .ok (.ladd, 1) := by decide +kernel
theorem dX0_findCheaper_122 : decode cX0_findCheaper 122 = .ok (.lastore, 1) := by decide +kernel
theorem dX0_findCheaper_123 : decode cX0_findCheaper 123 = .ok (.iinc 2 1, 3) := by decide +kernel
theorem dX0_findCheaper_126 : decode cX0_findCheaper 126 = .ok (.goto (-41), 3) := by decide +kernel
theorem dX0_findCheaper_129 : decode cX0_findCheaper 129 = .ok (.iinc 1 1, 3) := by decide +kernel
theorem dX0_findCheaper_132 : decode cX0_findCheaper 132 = .ok (.goto (-67), 3) := by decide +kernel
theorem dX0_findCheaper_135 : decode cX0_findCheaper 135 = .ok (.iconst 1, 1) := by decide +kernel
theorem dX0_findCheaper_136 : decode cX0_findCheaper 136 = .ok (.ireturn, 1) := by decide +kernel
theorem dX0_columnSum_0 : decode cX0_columnSum 0 = .ok (.lconst 0, 1) := by decide +kernel
theorem dX0_columnSum_1 : decode cX0_columnSum 1 = .ok (.lstore_n 2, 1) := by decide +kernel
theorem dX0_columnSum_2 : decode cX0_columnSum 2 = .ok (.iconst 0, 1) := by decide +kernel
theorem dX0_columnSum_3 : decode cX0_columnSum 3 = .ok (.istore 4, 2) := by decide +kernel
theorem dX0_columnSum_5 : decode cX0_columnSum 5 = .ok (.iload 4, 2) := by decide +kernel
theorem dX0_columnSum_7 : decode cX0_columnSum 7 = .ok (.aload_n 0, 1) := by decide +kernel
theorem dX0_columnSum_8 : decode cX0_columnSum 8 = .ok (.getfield 34, 3) := by decide +kernel
theorem dX0_columnSum_11 : decode cX0_columnSum 11 = .ok (.getfield 61, 3) := by decide +kernel
theorem dX0_columnSum_14 : decode cX0_columnSum 14 = .ok (.if_icmp .ge 21, 3) := by decide +kernel
theorem dX0_columnSum_17 : decode cX0_columnSum 17 = .ok (.lload_n 2, 1) := by decide +kernel
theorem dX0_columnSum_18 : decode cX0_columnSum 18 = .ok (.aload_n 0, 1) := by decide +kernel
theorem dX0_columnSum_19 : decode cX0_columnSum 19 = .ok (.getfield 20, 3) := by decide +kernel
theorem dX0_columnSum_22 : decode cX0_columnSum 22 = .ok (.iload 4, 2) := by decide +kernel
theorem dX0_columnSum_24 : decode cX0_columnSum 24 = .ok (.aaload, 1) := by decide +kernel
theorem dX0_columnSum_25 : decode cX0_columnSum 25 = .ok (.iload_n 1, 1) := by decide +kernel
theorem dX0_columnSum_26 : decode cX0_columnSum 26 = .ok (.laload, 1) := by decide +kernel
theorem dX0_columnSum_27 : decode cX0_columnSum 27 = .ok (.ladd, 1) := by decide +kernel
theorem dX0_columnSum_28 : decode cX0_columnSum 28 = .ok (.lstore_n 2, 1) := by decide +kernel
theorem dX0_columnSum_29 : decode cX0_columnSum 29 = .ok (.iinc 4 1, 3) := by decide +kernel
theorem dX0_columnSum_32 : decode cX0_columnSum 32 = .ok (.goto (-27), 3) := by decide +kernel
theorem dX0_columnSum_35 : decode cX0_columnSum 35 = .ok (.lload_n 2, 1) := by decide +kernel
theorem dX0_columnSum_36 : decode cX0_columnSum 36 = .ok (.lreturn, 1) := by decide +kernel
theorem dX0_rowToLeave_0 : decode cX0_rowToLeave 0 = .ok (.iconst (-1), 1) := by decide +kernel
theorem dX0_rowToLeave_1 : decode cX0_rowToLeave 1 = .ok (.istore_n 1, 1) := by decide +kernel
theorem dX0_rowToLeave_2 : decode cX0_rowToLeave 2 = .ok (.iconst 0, 1) := by decide +kernel
theorem dX0_rowToLeave_3 : decode cX0_rowToLeave 3 = .ok (.istore_n 2, 1) := by decide +kernel
theorem dX0_rowToLeave_4 : decode cX0_rowToLeave 4 = .ok (.iload_n 2, 1) := by decide +kernel
theorem dX0_rowToLeave_5 : decode cX0_rowToLeave 5 = .ok (.aload_n 0, 1) := by decide +kernel
theorem dX0_rowToLeave_6 : decode cX0_rowToLeave 6 = .ok (.getfield 34, 3) := by decide +kernel
theorem dX0_rowToLeave_9 : decode cX0_rowToLeave 9 = .ok (.getfield 61, 3) := by decide +kernel
theorem dX0_rowToLeave_12 : decode cX0_rowToLeave 12 = .ok (.if_icmp .ge 36, 3) := by decide +kernel
theorem dX0_rowToLeave_15 : decode cX0_rowToLeave 15 = .ok (.aload_n 0, 1) := by decide +kernel
theorem dX0_rowToLeave_16 : decode cX0_rowToLeave 16 = .ok (.getfield 30, 3) := by decide +kernel
theorem dX0_rowToLeave_19 : decode cX0_rowToLeave 19 = .ok (.iload_n 2, 1) := by decide +kernel
theorem dX0_rowToLeave_20 : decode cX0_rowToLeave 20 = .ok (.laload, 1) := by decide +kernel
theorem dX0_rowToLeave_21 : decode cX0_rowToLeave 21 = .ok (.lconst 0, 1) := by decide +kernel
theorem dX0_rowToLeave_22 : decode cX0_rowToLeave 22 = .ok (.lcmp, 1) := by decide +kernel
theorem dX0_rowToLeave_23 : decode cX0_rowToLeave 23 = .ok (.ifCond .le 19, 3) := by decide +kernel
theorem dX0_rowToLeave_26 : decode cX0_rowToLeave 26 = .ok (.iload_n 1, 1) := by decide +kernel
theorem dX0_rowToLeave_27 : decode cX0_rowToLeave 27 = .ok (.iconst (-1), 1) := by decide +kernel
theorem dX0_rowToLeave_28 : decode cX0_rowToLeave 28 = .ok (.if_icmp .eq 12, 3) := by decide +kernel
theorem dX0_rowToLeave_31 : decode cX0_rowToLeave 31 = .ok (.aload_n 0, 1) := by decide +kernel
theorem dX0_rowToLeave_32 : decode cX0_rowToLeave 32 = .ok (.iload_n 2, 1) := by decide +kernel
theorem dX0_rowToLeave_33 : decode cX0_rowToLeave 33 = .ok (.iload_n 1, 1) := by decide +kernel
theorem dX0_rowToLeave_34 : decode cX0_rowToLeave 34 = .ok (.invokevirtual 99, 3) := by decide +kernel
theorem dX0_rowToLeave_37 : decode cX0_rowToLeave 37 = .ok (.ifCond .eq 5, 3) := by decide +kernel
theorem dX0_rowToLeave_40 : decode cX0_rowToLeave 40 = .ok (.iload_n 2, 1) := by decide +kernel
theorem dX0_rowToLeave_41 : decode cX0_rowToLeave 41 = .ok (.istore_n 1, 1) := by decide +kernel
theorem dX0_rowToLeave_42 : decode cX0_rowToLeave 42 = .ok (.iinc 2 1, 3) := by decide +kernel
theorem dX0_rowToLeave_45 : decode cX0_rowToLeave 45 = .ok (.goto (-41), 3) := by decide +kernel
theorem dX0_rowToLeave_48 : decode cX0_rowToLeave 48 = .ok (.iload_n 1, 1) := by decide +kernel
theorem dX0_rowToLeave_49 : decode cX0_rowToLeave 49 = .ok (.ireturn, 1) := by decide +kernel
theorem dX0_usedUpBefore_0 : decode cX0_usedUpBefore 0 = .ok (.iconst 0, 1) := by decide +kernel
theorem dX0_usedUpBefore_1 : decode cX0_usedUpBefore 1 = .ok (.istore_n 3, 1) := by decide +kernel
theorem dX0_usedUpBefore_2 : decode cX0_usedUpBefore 2 = .ok (.iload_n 3, 1) := by decide +kernel
theorem dX0_usedUpBefore_3 : decode cX0_usedUpBefore 3 = .ok (.aload_n 0, 1) := by decide +kernel
theorem dX0_usedUpBefore_4 : decode cX0_usedUpBefore 4 = .ok (.getfield 34, 3) := by decide +kernel
theorem dX0_usedUpBefore_7 : decode cX0_usedUpBefore 7 = .ok (.getfield 61, 3) := by decide +kernel
theorem dX0_usedUpBefore_10 : decode cX0_usedUpBefore 10 = .ok (.if_icmp .gt 65, 3) := by decide +kernel
theorem dX0_usedUpBefore_13 : decode cX0_usedUpBefore 13 = .ok (.aload_n 0, 1) := by decide +kernel
theorem dX0_usedUpBefore_14 : decode cX0_usedUpBefore 14 = .ok (.getfield 20, 3) := by decide +kernel
theorem dX0_usedUpBefore_17 : decode cX0_usedUpBefore 17 = .ok (.iload_n 1, 1) := by decide +kernel
theorem dX0_usedUpBefore_18 : decode cX0_usedUpBefore 18 = .ok (.aaload, 1) := by decide +kernel
theorem dX0_usedUpBefore_19 : decode cX0_usedUpBefore 19 = .ok (.iload_n 3, 1) := by decide +kernel
theorem dX0_usedUpBefore_20 : decode cX0_usedUpBefore 20 = .ok (.laload, 1) := by decide +kernel
theorem dX0_usedUpBefore_21 : decode cX0_usedUpBefore 21 = .ok (.aload_n 0, 1) := by decide +kernel
theorem dX0_usedUpBefore_22 : decode cX0_usedUpBefore 22 = .ok (.getfield 30, 3) := by decide +kernel
theorem dX0_usedUpBefore_25 : decode cX0_usedUpBefore 25 = .ok (.iload_n 2, 1) := by decide +kernel
theorem dX0_usedUpBefore_26 : decode cX0_usedUpBefore 26 = .ok (.laload, 1) := by decide +kernel
theorem dX0_usedUpBefore_27 : decode cX0_usedUpBefore 27 = .ok (.lmul, 1) := by decide +kernel
theorem dX0_usedUpBefore_28 : decode cX0_usedUpBefore 28 = .ok (.lstore 4, 2) := by decide +kernel
theorem dX0_usedUpBefore_30 : decode cX0_usedUpBefore 30 = .ok (.aload_n 0, 1) := by decide +kernel
theorem dX0_usedUpBefore_31 : decode cX0_usedUpBefore 31 = .ok (.getfield 20, 3) := by decide +kernel
theorem dX0_usedUpBefore_34 : decode cX0_usedUpBefore 34 = .ok (.iload_n 2, 1) := by decide +kernel
theorem dX0_usedUpBefore_35 : decode cX0_usedUpBefore 35 = .ok (.aaload, 1) := by decide +kernel
theorem dX0_usedUpBefore_36 : decode cX0_usedUpBefore 36 = .ok (.iload_n 3, 1) := by decide +kernel
theorem dX0_usedUpBefore_37 : decode cX0_usedUpBefore 37 = .ok (.laload, 1) := by decide +kernel
theorem dX0_usedUpBefore_38 : decode cX0_usedUpBefore 38 = .ok (.aload_n 0, 1) := by decide +kernel
theorem dX0_usedUpBefore_39 : decode cX0_usedUpBefore 39 = .ok (.getfield 30, 3) := by decide +kernel
theorem dX0_usedUpBefore_42 : decode cX0_usedUpBefore 42 = .ok (.iload_n 1, 1) := by decide +kernel
theorem dX0_usedUpBefore_43 : decode cX0_usedUpBefore 43 = .ok (.laload, 1) := by decide +kernel
theorem dX0_usedUpBefore_44 : decode cX0_usedUpBefore 44 = .ok (.lmul, 1) := by decide +kernel
theorem dX0_usedUpBefore_45 : decode cX0_usedUpBefore 45 = .ok (.lstore 6, 2) := by decide +kernel
theorem dX0_usedUpBefore_47 : decode cX0_usedUpBefore 47 = .ok (.lload 4, 2) := by decide +kernel
theorem dX0_usedUpBefore_49 : decode cX0_usedUpBefore 49 = .ok (.lload 6, 2) := by decide +kernel
theorem dX0_usedUpBefore_51 : decode cX0_usedUpBefore 51 = .ok (.lcmp, 1) := by decide +kernel
theorem dX0_usedUpBefore_52 : decode cX0_usedUpBefore 52 = .ok (.ifCond .eq 17, 3) := by decide +kernel
theorem dX0_usedUpBefore_55 : decode cX0_usedUpBefore 55 = .ok (.lload 4, 2) := by decide +kernel
theorem dX0_usedUpBefore_57 : decode cX0_usedUpBefore 57 = .ok (.lload 6, 2) := by decide +kernel
theorem dX0_usedUpBefore_59 : decode cX0_usedUpBefore 59 = .ok (.lcmp, 1) := by decide +kernel
theorem dX0_usedUpBefore_60 : decode cX0_usedUpBefore 60 = .ok (.ifCond .ge 7, 3) := by decide +kernel
theorem dX0_usedUpBefore_63 : decode cX0_usedUpBefore 63 = .ok (.iconst 1, 1) := by decide +kernel
theorem dX0_usedUpBefore_64 : decode cX0_usedUpBefore 64 = .ok (.goto 4, 3) := by decide +kernel
theorem dX0_usedUpBefore_67 : decode cX0_usedUpBefore 67 = .ok (.iconst 0, 1) := by decide +kernel
theorem dX0_usedUpBefore_68 : decode cX0_usedUpBefore 68 = .ok (.ireturn, 1) := by decide +kernel
theorem dX0_usedUpBefore_69 : decode cX0_usedUpBefore 69 = .ok (.iinc 3 1, 3) := by decide +kernel
theorem dX0_usedUpBefore_72 : decode cX0_usedUpBefore 72 = .ok (.goto (-70), 3) := by decide +kernel
theorem dX0_usedUpBefore_75 : decode cX0_usedUpBefore 75 = .ok (.iconst 0, 1) := by decide +kernel
theorem dX0_usedUpBefore_76 : decode cX0_usedUpBefore 76 = .ok (.ireturn, 1) := by decide +kernel
theorem dX0_exchange_0 : decode cX0_exchange 0 = .ok (.aload_n 0, 1) := by decide +kernel
theorem dX0_exchange_1 : decode cX0_exchange 1 = .ok (.getfield 30, 3) := by decide +kernel
theorem dX0_exchange_4 : decode cX0_exchange 4 = .ok (.iload_n 1, 1) := by decide +kernel
theorem dX0_exchange_5 : decode cX0_exchange 5 = .ok (.laload, 1) := by decide +kernel
theorem dX0_exchange_6 : decode cX0_exchange 6 = .ok (.lstore_n 2, 1) := by decide +kernel
theorem dX0_exchange_7 : decode cX0_exchange 7 = .ok (.iconst 0, 1) := by decide +kernel
theorem dX0_exchange_8 : decode cX0_exchange 8 = .ok (.istore 4, 2) := by decide +kernel
theorem dX0_exchange_10 : decode cX0_exchange 10 = .ok (.iload 4, 2) := by decide +kernel
theorem dX0_exchange_12 : decode cX0_exchange 12 = .ok (.aload_n 0, 1) := by decide +kernel
theorem dX0_exchange_13 : decode cX0_exchange 13 = .ok (.getfield 34, 3) := by decide +kernel
theorem dX0_exchange_16 : decode cX0_exchange 16 = .ok (.getfield 61, 3) := by decide +kernel
theorem dX0_exchange_19 : decode cX0_exchange 19 = .ok (.if_icmp .ge 85, 3) := by decide +kernel
theorem dX0_exchange_22 : decode cX0_exchange 22 = .ok (.iload 4, 2) := by decide +kernel
theorem dX0_exchange_24 : decode cX0_exchange 24 = .ok (.iload_n 1, 1) := by decide +kernel
theorem dX0_exchange_25 : decode cX0_exchange 25 = .ok (.if_icmp .eq 73, 3) := by decide +kernel
theorem dX0_exchange_28 : decode cX0_exchange 28 = .ok (.iconst 0, 1) := by decide +kernel
theorem dX0_exchange_29 : decode cX0_exchange 29 = .ok (.istore 5, 2) := by decide +kernel
theorem dX0_exchange_31 : decode cX0_exchange 31 = .ok (.iload 5, 2) := by decide +kernel
theorem dX0_exchange_33 : decode cX0_exchange 33 = .ok (.aload_n 0, 1) := by decide +kernel
theorem dX0_exchange_34 : decode cX0_exchange 34 = .ok (.getfield 34, 3) := by decide +kernel
theorem dX0_exchange_37 : decode cX0_exchange 37 = .ok (.getfield 61, 3) := by decide +kernel
theorem dX0_exchange_40 : decode cX0_exchange 40 = .ok (.if_icmp .gt 58, 3) := by decide +kernel
theorem dX0_exchange_43 : decode cX0_exchange 43 = .ok (.lload_n 2, 1) := by decide +kernel
theorem dX0_exchange_44 : decode cX0_exchange 44 = .ok (.aload_n 0, 1) := by decide +kernel
theorem dX0_exchange_45 : decode cX0_exchange 45 = .ok (.getfield 20, 3) := by decide +kernel
theorem dX0_exchange_48 : decode cX0_exchange 48 = .ok (.iload 4, 2) := by decide +kernel
theorem dX0_exchange_50 : decode cX0_exchange 50 = .ok (.aaload, 1) := by decide +kernel
theorem dX0_exchange_51 : decode cX0_exchange 51 = .ok (.iload 5, 2) := by decide +kernel
theorem dX0_exchange_53 : decode cX0_exchange 53 = .ok (.laload, 1) := by decide +kernel
theorem dX0_exchange_54 : decode cX0_exchange 54 = .ok (.lmul, 1) := by decide +kernel
theorem dX0_exchange_55 : decode cX0_exchange 55 = .ok (.aload_n 0, 1) := by decide +kernel
theorem dX0_exchange_56 : decode cX0_exchange 56 = .ok (.getfield 30, 3) := by decide +kernel
theorem dX0_exchange_59 : decode cX0_exchange 59 = .ok (.iload 4, 2) := by decide +kernel
theorem dX0_exchange_61 : decode cX0_exchange 61 = .ok (.laload, 1) := by decide +kernel
theorem dX0_exchange_62 : decode cX0_exchange 62 = .ok (.aload_n 0, 1) := by decide +kernel
theorem dX0_exchange_63 : decode cX0_exchange 63 = .ok (.getfield 20, 3) := by decide +kernel
theorem dX0_exchange_66 : decode cX0_exchange 66 = .ok (.iload_n 1, 1) := by decide +kernel
theorem dX0_exchange_67 : decode cX0_exchange 67 = .ok (.aaload, 1) := by decide +kernel
theorem dX0_exchange_68 : decode cX0_exchange 68 = .ok (.iload 5, 2) := by decide +kernel
theorem dX0_exchange_70 : decode cX0_exchange 70 = .ok (.laload, 1) := by decide +kernel
theorem dX0_exchange_71 : decode cX0_exchange 71 = .ok (.lmul, 1) := by decide +kernel
theorem dX0_exchange_72 : decode cX0_exchange 72 = .ok (.lsub, 1) := by decide +kernel
theorem dX0_exchange_73 : decode cX0_exchange 73 = .ok (.lstore 6, 2) := by decide +kernel
theorem dX0_exchange_75 : decode cX0_exchange 75 = .ok (.aload_n 0, 1) := by decide +kernel
theorem dX0_exchange_76 : decode cX0_exchange 76 = .ok (.getfield 20, 3) := by decide +kernel
theorem dX0_exchange_79 : decode cX0_exchange 79 = .ok (.iload 4, 2) := by decide +kernel
theorem dX0_exchange_81 : decode cX0_exchange 81 = .ok (.aaload, 1) := by decide +kernel
theorem dX0_exchange_82 : decode cX0_exchange 82 = .ok (.iload 5, 2) := by decide +kernel
theorem dX0_exchange_84 : decode cX0_exchange 84 = .ok (.lload 6, 2) := by decide +kernel
theorem dX0_exchange_86 : decode cX0_exchange 86 = .ok (.aload_n 0, 1) := by decide +kernel
theorem dX0_exchange_87 : decode cX0_exchange 87 = .ok (.getfield 23, 3) := by decide +kernel
theorem dX0_exchange_90 : decode cX0_exchange 90 = .ok (.ldiv, 1) := by decide +kernel
theorem dX0_exchange_91 : decode cX0_exchange 91 = .ok (.lastore, 1) := by decide +kernel
theorem dX0_exchange_92 : decode cX0_exchange 92 = .ok (.iinc 5 1, 3) := by decide +kernel
theorem dX0_exchange_95 : decode cX0_exchange 95 = .ok (.goto (-64), 3) := by decide +kernel
theorem dX0_exchange_98 : decode cX0_exchange 98 = .ok (.iinc 4 1, 3) := by decide +kernel
theorem dX0_exchange_101 : decode cX0_exchange 101 = .ok (.goto (-91), 3) := by decide +kernel
theorem dX0_exchange_104 : decode cX0_exchange 104 = .ok (.aload_n 0, 1) := by decide +kernel
theorem dX0_exchange_105 : decode cX0_exchange 105 = .ok (.lload_n 2, 1) := by decide +kernel
theorem dX0_exchange_106 : decode cX0_exchange 106 = .ok (.putfield 23, 3) := by decide +kernel
theorem dX0_exchange_109 : decode cX0_exchange 109 = .ok (.return_, 1) := by decide +kernel
theorem dX0_reduce_0 : decode cX0_reduce 0 = .ok (.aload_n 0, 1) := by decide +kernel
theorem dX0_reduce_1 : decode cX0_reduce 1 = .ok (.iconst 0, 1) := by decide +kernel
theorem dX0_reduce_2 : decode cX0_reduce 2 = .ok (.invokevirtual 87, 3) := by decide +kernel
theorem dX0_reduce_5 : decode cX0_reduce 5 = .ok (.lstore_n 1, 1) := by decide +kernel
theorem dX0_reduce_6 : decode cX0_reduce 6 = .ok (.lload_n 1, 1) := by decide +kernel
theorem dX0_reduce_7 : decode cX0_reduce 7 = .ok (.aload_n 0, 1) := by decide +kernel
theorem dX0_reduce_8 : decode cX0_reduce 8 = .ok (.getfield 23, 3) := by decide +kernel
theorem dX0_reduce_11 : decode cX0_reduce 11 = .ok (.invokestatic 103, 3) := by decide +kernel
theorem dX0_reduce_14 : decode cX0_reduce 14 = .ok (.lstore_n 3, 1) := by decide +kernel
theorem dX0_reduce_15 : decode cX0_reduce 15 = .ok (.aload_n 0, 1) := by decide +kernel
theorem dX0_reduce_16 : decode cX0_reduce 16 = .ok (.lload_n 1, 1) := by decide +kernel
theorem dX0_reduce_17 : decode cX0_reduce 17 = .ok (.lload_n 3, 1) := by decide +kernel
theorem dX0_reduce_18 : decode cX0_reduce 18 = .ok (.ldiv, 1) := by decide +kernel
theorem dX0_reduce_19 : decode cX0_reduce 19 = .ok (.putfield 9, 3) := by decide +kernel
theorem dX0_reduce_22 : decode cX0_reduce 22 = .ok (.aload_n 0, 1) := by decide +kernel
theorem dX0_reduce_23 : decode cX0_reduce 23 = .ok (.aload_n 0, 1) := by decide +kernel
theorem dX0_reduce_24 : decode cX0_reduce 24 = .ok (.getfield 23, 3) := by decide +kernel
theorem dX0_reduce_27 : decode cX0_reduce 27 = .ok (.lload_n 3, 1) := by decide +kernel
theorem dX0_reduce_28 : decode cX0_reduce 28 = .ok (.ldiv, 1) := by decide +kernel
theorem dX0_reduce_29 : decode cX0_reduce 29 = .ok (.putfield 15, 3) := by decide +kernel
theorem dX0_reduce_32 : decode cX0_reduce 32 = .ok (.return_, 1) := by decide +kernel
theorem dX0_greatestCommonDivisor_0 : decode cX0_greatestCommonDivisor 0 = .ok (.lload_n 0, 1) := by decide +kernel
theorem dX0_greatestCommonDivisor_1 : decode cX0_greatestCommonDivisor 1 = .ok (.lstore 4, 2) := by decide +kernel
theorem dX0_greatestCommonDivisor_3 : decode cX0_greatestCommonDivisor 3 = .ok (.lload_n 2, 1) := by decide +kernel
theorem dX0_greatestCommonDivisor_4 : decode cX0_greatestCommonDivisor 4 = .ok (.lstore 6, 2) := by decide +kernel
theorem dX0_greatestCommonDivisor_6 : decode cX0_greatestCommonDivisor 6 = .ok (.iconst 0, 1) := by decide +kernel
theorem dX0_greatestCommonDivisor_7 : decode cX0_greatestCommonDivisor 7 = .ok (.istore 8, 2) := by decide +kernel
theorem dX0_greatestCommonDivisor_9 : decode cX0_greatestCommonDivisor 9 = .ok (.iload 8, 2) := by decide +kernel
theorem dX0_greatestCommonDivisor_11 : decode cX0_greatestCommonDivisor 11 = .ok (.bipush 100, 2) := by decide +kernel
theorem dX0_greatestCommonDivisor_13 : decode cX0_greatestCommonDivisor 13 = .ok (.if_icmp .ge 31, 3) := by decide +kernel
theorem dX0_greatestCommonDivisor_16 : decode cX0_greatestCommonDivisor 16 = .ok (.lload 4, 2) := by decide +kernel
theorem dX0_greatestCommonDivisor_18 : decode cX0_greatestCommonDivisor 18 = .ok (.lconst 0, 1) := by decide +kernel
theorem dX0_greatestCommonDivisor_19 : decode cX0_greatestCommonDivisor 19 = .ok (.lcmp, 1) := by decide +kernel
theorem dX0_greatestCommonDivisor_20 : decode cX0_greatestCommonDivisor 20 = .ok (.ifCond .eq 24, 3) := by decide +kernel
theorem dX0_greatestCommonDivisor_23 : decode cX0_greatestCommonDivisor 23 = .ok (.lload 6, 2) := by decide +kernel
theorem dX0_greatestCommonDivisor_25 : decode cX0_greatestCommonDivisor 25 = .ok (.lload 4, 2) := by decide +kernel
theorem dX0_greatestCommonDivisor_27 : decode cX0_greatestCommonDivisor 27 = .ok (.lrem, 1) := by decide +kernel
theorem dX0_greatestCommonDivisor_28 : decode cX0_greatestCommonDivisor 28 = .ok (.lstore 9, 2) := by decide +kernel
theorem dX0_greatestCommonDivisor_30 : decode cX0_greatestCommonDivisor 30 = .ok (.lload 4, 2) := by decide +kernel
theorem dX0_greatestCommonDivisor_32 : decode cX0_greatestCommonDivisor 32 = .ok (.lstore 6, 2) := by decide +kernel
theorem dX0_greatestCommonDivisor_34 : decode cX0_greatestCommonDivisor 34 = .ok (.lload 9, 2) := by decide +kernel
theorem dX0_greatestCommonDivisor_36 : decode cX0_greatestCommonDivisor 36 = .ok (.lstore 4, 2) := by decide +kernel
theorem dX0_greatestCommonDivisor_38 : decode cX0_greatestCommonDivisor 38 = .ok (.iinc 8 1, 3) := by decide +kernel
theorem dX0_greatestCommonDivisor_41 : decode cX0_greatestCommonDivisor 41 = .ok (.goto (-32), 3) := by decide +kernel
theorem dX0_greatestCommonDivisor_44 : decode cX0_greatestCommonDivisor 44 = .ok (.lload 6, 2) := by decide +kernel
theorem dX0_greatestCommonDivisor_46 : decode cX0_greatestCommonDivisor 46 = .ok (.lreturn, 1) := by decide +kernel
theorem dX1_init_0 : decode cX1_init 0 = .ok (.aload_n 0, 1) := by decide +kernel
theorem dX1_init_1 : decode cX1_init 1 = .ok (.invokespecial 3, 3) := by decide +kernel
theorem dX1_init_4 : decode cX1_init 4 = .ok (.aload_n 0, 1) := by decide +kernel
theorem dX1_init_5 : decode cX1_init 5 = .ok (.iconst 1, 1) := by decide +kernel
theorem dX1_init_6 : decode cX1_init 6 = .ok (.putfield 9, 3) := by decide +kernel
theorem dX1_init_9 : decode cX1_init 9 = .ok (.aload_n 0, 1) := by decide +kernel
theorem dX1_init_10 : decode cX1_init 10 = .ok (.iconst 0, 1) := by decide +kernel
theorem dX1_init_11 : decode cX1_init 11 = .ok (.putfield 15, 3) := by decide +kernel
theorem dX1_init_14 : decode cX1_init 14 = .ok (.aload_n 0, 1) := by decide +kernel
theorem dX1_init_15 : decode cX1_init 15 = .ok (.iconst 4, 1) := by decide +kernel
theorem dX1_init_16 : decode cX1_init 16 = .ok (.newarray .int, 2) := by decide +kernel
theorem dX1_init_18 : decode cX1_init 18 = .ok (.putfield 18, 3) := by decide +kernel
theorem dX1_init_21 : decode cX1_init 21 = .ok (.aload_n 0, 1) := by decide +kernel
theorem dX1_init_22 : decode cX1_init 22 = .ok (.iconst 4, 1) := by decide +kernel
theorem dX1_init_23 : decode cX1_init 23 = .ok (.newarray .int, 2) := by decide +kernel
theorem dX1_init_25 : decode cX1_init 25 = .ok (.putfield 22, 3) := by decide +kernel
theorem dX1_init_28 : decode cX1_init 28 = .ok (.return_, 1) := by decide +kernel
theorem dX1_has_0 : decode cX1_has 0 = .ok (.iload_n 1, 1) := by decide +kernel
theorem dX1_has_1 : decode cX1_has 1 = .ok (.ifCond .lt 15, 3) := by decide +kernel
theorem dX1_has_4 : decode cX1_has 4 = .ok (.iload_n 1, 1) := by decide +kernel
theorem dX1_has_5 : decode cX1_has 5 = .ok (.aload_n 0, 1) := by decide +kernel
theorem dX1_has_6 : decode cX1_has 6 = .ok (.getfield 15, 3) := by decide +kernel
theorem dX1_has_9 : decode cX1_has 9 = .ok (.if_icmp .ge 7, 3) := by decide +kernel
theorem dX1_has_12 : decode cX1_has 12 = .ok (.iconst 1, 1) := by decide +kernel
theorem dX1_has_13 : decode cX1_has 13 = .ok (.goto 4, 3) := by decide +kernel
theorem dX1_has_16 : decode cX1_has 16 = .ok (.iconst 0, 1) := by decide +kernel
theorem dX1_has_17 : decode cX1_has 17 = .ok (.ireturn, 1) := by decide +kernel
theorem dX1_asksFor_0 : decode cX1_asksFor 0 = .ok (.iload_n 2, 1) := by decide +kernel
theorem dX1_asksFor_1 : decode cX1_asksFor 1 = .ok (.ifCond .lt 17, 3) := by decide +kernel
theorem dX1_asksFor_4 : decode cX1_asksFor 4 = .ok (.iload_n 2, 1) := by decide +kernel
theorem dX1_asksFor_5 : decode cX1_asksFor 5 = .ok (.aload_n 0, 1) := by decide +kernel
theorem dX1_asksFor_6 : decode cX1_asksFor 6 = .ok (.getfield 22, 3) := by decide +kernel
theorem dX1_asksFor_9 : decode cX1_asksFor 9 = .ok (.iload_n 1, 1) := by decide +kernel
theorem dX1_asksFor_10 : decode cX1_asksFor 10 = .ok (.iaload, 1) := by decide +kernel
theorem dX1_asksFor_11 : decode cX1_asksFor 11 = .ok (.if_icmp .gt 7, 3) := by decide +kernel
theorem dX1_asksFor_14 : decode cX1_asksFor 14 = .ok (.iconst 1, 1) := by decide +kernel
theorem dX1_asksFor_15 : decode cX1_asksFor 15 = .ok (.goto 4, 3) := by decide +kernel
theorem dX1_asksFor_18 : decode cX1_asksFor 18 = .ok (.iconst 0, 1) := by decide +kernel
theorem dX1_asksFor_19 : decode cX1_asksFor 19 = .ok (.ireturn, 1) := by decide +kernel
theorem dX1_clear_0 : decode cX1_clear 0 = .ok (.aload_n 0, 1) := by decide +kernel
theorem dX1_clear_1 : decode cX1_clear 1 = .ok (.iload_n 1, 1) := by decide +kernel
theorem dX1_clear_2 : decode cX1_clear 2 = .ok (.putfield 9, 3) := by decide +kernel
theorem dX1_clear_5 : decode cX1_clear 5 = .ok (.aload_n 0, 1) := by decide +kernel
theorem dX1_clear_6 : decode cX1_clear 6 = .ok (.iconst 0, 1) := by decide +kernel
theorem dX1_clear_7 : decode cX1_clear 7 = .ok (.putfield 15, 3) := by decide +kernel
theorem dX1_clear_10 : decode cX1_clear 10 = .ok (.aload_n 0, 1) := by decide +kernel
theorem dX1_clear_11 : decode cX1_clear 11 = .ok (.getfield 22, 3) := by decide +kernel
theorem dX1_clear_14 : decode cX1_clear 14 = .ok (.iconst 0, 1) := by decide +kernel
theorem dX1_clear_15 : decode cX1_clear 15 = .ok (.invokestatic 25, 3) := by decide +kernel
theorem dX1_clear_18 : decode cX1_clear 18 = .ok (.return_, 1) := by decide +kernel
theorem dX1_add_0 : decode cX1_add 0 = .ok (.aload_n 0, 1) := by decide +kernel
theorem dX1_add_1 : decode cX1_add 1 = .ok (.getfield 18, 3) := by decide +kernel
theorem dX1_add_4 : decode cX1_add 4 = .ok (.aload_n 0, 1) := by decide +kernel
theorem dX1_add_5 : decode cX1_add 5 = .ok (.getfield 15, 3) := by decide +kernel
theorem dX1_add_8 : decode cX1_add 8 = .ok (.iload_n 1, 1) := by decide +kernel
theorem dX1_add_9 : decode cX1_add 9 = .ok (.iastore, 1) := by decide +kernel
theorem dX1_add_10 : decode cX1_add 10 = .ok (.aload_n 0, 1) := by decide +kernel
theorem dX1_add_11 : decode cX1_add 11 = .ok (.getfield 22, 3) := by decide +kernel
theorem dX1_add_14 : decode cX1_add 14 = .ok (.aload_n 0, 1) := by decide +kernel
theorem dX1_add_15 : decode cX1_add 15 = .ok (.getfield 15, 3) := by decide +kernel
theorem dX1_add_18 : decode cX1_add 18 = .ok (.iload_n 2, 1) := by decide +kernel
theorem dX1_add_19 : decode cX1_add 19 = .ok (.iastore, 1) := by decide +kernel
theorem dX1_add_20 : decode cX1_add 20 = .ok (.aload_n 0, 1) := by decide +kernel
theorem dX1_add_21 : decode cX1_add 21 = .ok (.dup, 1) := by decide +kernel
theorem dX1_add_22 : decode cX1_add 22 = .ok (.getfield 15, 3) := by decide +kernel
theorem dX1_add_25 : decode cX1_add 25 = .ok (.iconst 1, 1) := by decide +kernel
theorem dX1_add_26 : decode cX1_add 26 = .ok (.iadd, 1) := by decide +kernel
theorem dX1_add_27 : decode cX1_add 27 = .ok (.putfield 15, 3) := by decide +kernel
theorem dX1_add_30 : decode cX1_add 30 = .ok (.aload_n 0, 1) := by decide +kernel
theorem dX1_add_31 : decode cX1_add 31 = .ok (.getfield 15, 3) := by decide +kernel
theorem dX1_add_34 : decode cX1_add 34 = .ok (.iconst 1, 1) := by decide +kernel
theorem dX1_add_35 : decode cX1_add 35 = .ok (.isub, 1) := by decide +kernel
theorem dX1_add_36 : decode cX1_add 36 = .ok (.ireturn, 1) := by decide +kernel
theorem dX1_removeLast_0 : decode cX1_removeLast 0 = .ok (.aload_n 0, 1) := by decide +kernel
theorem dX1_removeLast_1 : decode cX1_removeLast 1 = .ok (.dup, 1) := by decide +kernel
theorem dX1_removeLast_2 : decode cX1_removeLast 2 = .ok (.getfield 15, 3) := by decide +kernel
theorem dX1_removeLast_5 : decode cX1_removeLast 5 = .ok (.iconst 1, 1) := by decide +kernel
theorem dX1_removeLast_6 : decode cX1_removeLast 6 = .ok (.isub, 1) := by decide +kernel
theorem dX1_removeLast_7 : decode cX1_removeLast 7 = .ok (.putfield 15, 3) := by decide +kernel
theorem dX1_removeLast_10 : decode cX1_removeLast 10 = .ok (.aload_n 0, 1) := by decide +kernel
theorem dX1_removeLast_11 : decode cX1_removeLast 11 = .ok (.getfield 22, 3) := by decide +kernel
theorem dX1_removeLast_14 : decode cX1_removeLast 14 = .ok (.aload_n 0, 1) := by decide +kernel
theorem dX1_removeLast_15 : decode cX1_removeLast 15 = .ok (.getfield 15, 3) := by decide +kernel
theorem dX1_removeLast_18 : decode cX1_removeLast 18 = .ok (.iconst 0, 1) := by decide +kernel
theorem dX1_removeLast_19 : decode cX1_removeLast 19 = .ok (.iastore, 1) := by decide +kernel
theorem dX1_removeLast_20 : decode cX1_removeLast 20 = .ok (.return_, 1) := by decide +kernel
theorem dX2_init_0 : decode cX2_init 0 = .ok (.aload_n 0, 1) := by decide +kernel
theorem dX2_init_1 : decode cX2_init 1 = .ok (.invokespecial 3, 3) := by decide +kernel
theorem dX2_init_4 : decode cX2_init 4 = .ok (.aload_n 0, 1) := by decide +kernel
theorem dX2_init_5 : decode cX2_init 5 = .ok (.iconst 4, 1) := by decide +kernel
theorem dX2_init_6 : decode cX2_init 6 = .ok (.newarray .long, 2) := by decide +kernel
theorem dX2_init_8 : decode cX2_init 8 = .ok (.putfield 9, 3) := by decide +kernel
theorem dX2_init_11 : decode cX2_init 11 = .ok (.aload_n 0, 1) := by decide +kernel
theorem dX2_init_12 : decode cX2_init 12 = .ok (.bipush 61, 2) := by decide +kernel
theorem dX2_init_14 : decode cX2_init 14 = .ok (.newarray .long, 2) := by decide +kernel
theorem dX2_init_16 : decode cX2_init 16 = .ok (.putfield 15, 3) := by decide +kernel
theorem dX2_init_19 : decode cX2_init 19 = .ok (.aload_n 0, 1) := by decide +kernel
theorem dX2_init_20 : decode cX2_init 20 = .ok (.bipush 61, 2) := by decide +kernel
theorem dX2_init_22 : decode cX2_init 22 = .ok (.newarray .int, 2) := by decide +kernel
theorem dX2_init_24 : decode cX2_init 24 = .ok (.putfield 18, 3) := by decide +kernel
theorem dX2_init_27 : decode cX2_init 27 = .ok (.aload_n 0, 1) := by decide +kernel
theorem dX2_init_28 : decode cX2_init 28 = .ok (.aload_n 1, 1) := by decide +kernel
theorem dX2_init_29 : decode cX2_init 29 = .ok (.putfield 22, 3) := by decide +kernel
theorem dX2_init_32 : decode cX2_init 32 = .ok (.return_, 1) := by decide +kernel
theorem dX2_greatest_0 : decode cX2_greatest 0 = .ok (.iconst 1, 1) := by decide +kernel
theorem dX2_greatest_1 : decode cX2_greatest 1 = .ok (.istore_n 1, 1) := by decide +kernel
theorem dX2_greatest_2 : decode cX2_greatest 2 = .ok (.iload_n 1, 1) := by decide +kernel
theorem dX2_greatest_3 : decode cX2_greatest 3 = .ok (.aload_n 0, 1) := by decide +kernel
theorem dX2_greatest_4 : decode cX2_greatest 4 = .ok (.getfield 22, 3) := by decide +kernel
theorem dX2_greatest_7 : decode cX2_greatest 7 = .ok (.getfield 26, 3) := by decide +kernel
theorem dX2_greatest_10 : decode cX2_greatest 10 = .ok (.if_icmp .gt 14, 3) := by decide +kernel
theorem dX2_greatest_13 : decode cX2_greatest 13 = .ok (.aload_n 0, 1) := by decide +kernel
theorem dX2_greatest_14 : decode cX2_greatest 14 = .ok (.iload_n 1, 1) := by decide +kernel
theorem dX2_greatest_15 : decode cX2_greatest 15 = .ok (.invokevirtual 32, 3) := by decide +kernel
theorem dX2_greatest_18 : decode cX2_greatest 18 = .ok (.iinc 1 1, 3) := by decide +kernel
theorem dX2_greatest_21 : decode cX2_greatest 21 = .ok (.goto (-19), 3) := by decide +kernel
theorem dX2_greatest_24 : decode cX2_greatest 24 = .ok (.aload_n 0, 1) := by decide +kernel
theorem dX2_greatest_25 : decode cX2_greatest 25 = .ok (.getfield 15, 3) := by decide +kernel
theorem dX2_greatest_28 : decode cX2_greatest 28 = .ok (.aload_n 0, 1) := by decide +kernel
theorem dX2_greatest_29 : decode cX2_greatest 29 = .ok (.getfield 22, 3) := by decide +kernel
theorem dX2_greatest_32 : decode cX2_greatest 32 = .ok (.getfield 26, 3) := by decide +kernel
theorem dX2_greatest_35 : decode cX2_greatest 35 = .ok (.laload, 1) := by decide +kernel
theorem dX2_greatest_36 : decode cX2_greatest 36 = .ok (.lreturn, 1) := by decide +kernel
theorem dX2_fill_0 : decode cX2_fill 0 = .ok (.aload_n 0, 1) := by decide +kernel
theorem dX2_fill_1 : decode cX2_fill 1 = .ok (.getfield 15, 3) := by decide +kernel
theorem dX2_fill_4 : decode cX2_fill 4 = .ok (.iload_n 1, 1) := by decide +kernel
theorem dX2_fill_5 : decode cX2_fill 5 = .ok (.aload_n 0, 1) := by decide +kernel
theorem dX2_fill_6 : decode cX2_fill 6 = .ok (.getfield 15, 3) := by decide +kernel
theorem dX2_fill_9 : decode cX2_fill 9 = .ok (.iload_n 1, 1) := by decide +kernel
theorem dX2_fill_10 : decode cX2_fill 10 = .ok (.iconst 1, 1) := by decide +kernel
theorem dX2_fill_11 : decode cX2_fill 11 = .ok (.isub, 1) := by decide +kernel
theorem dX2_fill_12 : decode cX2_fill 12 = .ok (.laload, 1) := by decide +kernel
theorem dX2_fill_13 : decode cX2_fill 13 = .ok (.lastore, 1) := by decide +kernel
theorem dX2_fill_14 : decode cX2_fill 14 = .ok (.aload_n 0, 1) := by decide +kernel
theorem dX2_fill_15 : decode cX2_fill 15 = .ok (.getfield 18, 3) := by decide +kernel
theorem dX2_fill_18 : decode cX2_fill 18 = .ok (.iload_n 1, 1) := by decide +kernel
theorem dX2_fill_19 : decode cX2_fill 19 = .ok (.iconst (-1), 1) := by decide +kernel
theorem dX2_fill_20 : decode cX2_fill 20 = .ok (.iastore, 1) := by decide +kernel
theorem dX2_fill_21 : decode cX2_fill 21 = .ok (.iconst 0, 1) := by decide +kernel
theorem dX2_fill_22 : decode cX2_fill 22 = .ok (.istore_n 2, 1) := by decide +kernel
theorem dX2_fill_23 : decode cX2_fill 23 = .ok (.iload_n 2, 1) := by decide +kernel
theorem dX2_fill_24 : decode cX2_fill 24 = .ok (.aload_n 0, 1) := by decide +kernel
theorem dX2_fill_25 : decode cX2_fill 25 = .ok (.getfield 22, 3) := by decide +kernel
theorem dX2_fill_28 : decode cX2_fill 28 = .ok (.getfield 36, 3) := by decide +kernel
theorem dX2_fill_31 : decode cX2_fill 31 = .ok (.if_icmp .ge 74, 3) := by decide +kernel
theorem dX2_fill_34 : decode cX2_fill 34 = .ok (.iload_n 1, 1) := by decide +kernel
theorem dX2_fill_35 : decode cX2_fill 35 = .ok (.aload_n 0, 1) := by decide +kernel
theorem dX2_fill_36 : decode cX2_fill 36 = .ok (.getfield 22, 3) := by decide +kernel
theorem dX2_fill_39 : decode cX2_fill 39 = .ok (.getfield 39, 3) := by decide +kernel
theorem dX2_fill_42 : decode cX2_fill 42 = .ok (.iload_n 2, 1) := by decide +kernel
theorem dX2_fill_43 : decode cX2_fill 43 = .ok (.iaload, 1) := by decide +kernel
theorem dX2_fill_44 : decode cX2_fill 44 = .ok (.isub, 1) := by decide +kernel
theorem dX2_fill_45 : decode cX2_fill 45 = .ok (.istore_n 3, 1) := by decide +kernel
theorem dX2_fill_46 : decode cX2_fill 46 = .ok (.iload_n 3, 1) := by decide +kernel
theorem dX2_fill_47 : decode cX2_fill 47 = .ok (.ifCond .lt 52, 3) := by decide +kernel
theorem dX2_fill_50 : decode cX2_fill 50 = .ok (.aload_n 0, 1) := by decide +kernel
theorem dX2_fill_51 : decode cX2_fill 51 = .ok (.getfield 15, 3) := by decide +kernel
theorem dX2_fill_54 : decode cX2_fill 54 = .ok (.iload_n 3, 1) := by decide +kernel
theorem dX2_fill_55 : decode cX2_fill 55 = .ok (.laload, 1) := by decide +kernel
theorem dX2_fill_56 : decode cX2_fill 56 = .ok (.aload_n 0, 1) := by decide +kernel
theorem dX2_fill_57 : decode cX2_fill 57 = .ok (.getfield 9, 3) := by decide +kernel
theorem dX2_fill_60 : decode cX2_fill 60 = .ok (.iload_n 2, 1) := by decide +kernel
theorem dX2_fill_61 : decode cX2_fill 61 = .ok (.laload, 1) := by decide +kernel
theorem dX2_fill_62 : decode cX2_fill 62 = .ok (.ladd, 1) := by decide +kernel
theorem dX2_fill_63 : decode cX2_fill 63 = .ok (.aload_n 0, 1) := by decide +kernel
theorem dX2_fill_64 : decode cX2_fill 64 = .ok (.getfield 15, 3) := by decide +kernel
theorem dX2_fill_67 : decode cX2_fill 67 = .ok (.iload_n 1, 1) := by decide +kernel
theorem dX2_fill_68 : decode cX2_fill 68 = .ok (.laload, 1) := by decide +kernel
theorem dX2_fill_69 : decode cX2_fill 69 = .ok (.lcmp, 1) := by decide +kernel
theorem dX2_fill_70 : decode cX2_fill 70 = .ok (.ifCond .le 29, 3) := by decide +kernel
theorem dX2_fill_73 : decode cX2_fill 73 = .ok (.aload_n 0, 1) := by decide +kernel
theorem dX2_fill_74 : decode cX2_fill 74 = .ok (.getfield 15, 3) := by decide +kernel
theorem dX2_fill_77 : decode cX2_fill 77 = .ok (.iload_n 1, 1) := by decide +kernel
theorem dX2_fill_78 : decode cX2_fill 78 = .ok (.aload_n 0, 1) := by decide +kernel
theorem dX2_fill_79 : decode cX2_fill 79 = .ok (.getfield 15, 3) := by decide +kernel
theorem dX2_fill_82 : decode cX2_fill 82 = .ok (.iload_n 3, 1) := by decide +kernel
theorem dX2_fill_83 : decode cX2_fill 83 = .ok (.laload, 1) := by decide +kernel
theorem dX2_fill_84 : decode cX2_fill 84 = .ok (.aload_n 0, 1) := by decide +kernel
theorem dX2_fill_85 : decode cX2_fill 85 = .ok (.getfield 9, 3) := by decide +kernel
theorem dX2_fill_88 : decode cX2_fill 88 = .ok (.iload_n 2, 1) := by decide +kernel
theorem dX2_fill_89 : decode cX2_fill 89 = .ok (.laload, 1) := by decide +kernel
theorem dX2_fill_90 : decode cX2_fill 90 = .ok (.ladd, 1) := by decide +kernel
theorem dX2_fill_91 : decode cX2_fill 91 = .ok (.lastore, 1) := by decide +kernel
theorem dX2_fill_92 : decode cX2_fill 92 = .ok (.aload_n 0, 1) := by decide +kernel
theorem dX2_fill_93 : decode cX2_fill 93 = .ok (.getfield 18, 3) := by decide +kernel
theorem dX2_fill_96 : decode cX2_fill 96 = .ok (.iload_n 1, 1) := by decide +kernel
theorem dX2_fill_97 : decode cX2_fill 97 = .ok (.iload_n 2, 1) := by decide +kernel
theorem dX2_fill_98 : decode cX2_fill 98 = .ok (.iastore, 1) := by decide +kernel
theorem dX2_fill_99 : decode cX2_fill 99 = .ok (.iinc 2 1, 3) := by decide +kernel
theorem dX2_fill_102 : decode cX2_fill 102 = .ok (.goto (-79), 3) := by decide +kernel
theorem dX2_fill_105 : decode cX2_fill 105 = .ok (.return_, 1) := by decide +kernel
theorem dX2_copyPattern_0 : decode cX2_copyPattern 0 = .ok (.aload_n 1, 1) := by decide +kernel
theorem dX2_copyPattern_1 : decode cX2_copyPattern 1 = .ok (.iconst 0, 1) := by decide +kernel
theorem dX2_copyPattern_2 : decode cX2_copyPattern 2 = .ok (.invokestatic 42, 3) := by decide +kernel
theorem dX2_copyPattern_5 : decode cX2_copyPattern 5 = .ok (.aload_n 0, 1) := by decide +kernel
theorem dX2_copyPattern_6 : decode cX2_copyPattern 6 = .ok (.getfield 22, 3) := by decide +kernel
theorem dX2_copyPattern_9 : decode cX2_copyPattern 9 = .ok (.getfield 26, 3) := by decide +kernel
theorem dX2_copyPattern_12 : decode cX2_copyPattern 12 = .ok (.istore_n 2, 1) := by decide +kernel
theorem dX2_copyPattern_13 : decode cX2_copyPattern 13 = .ok (.iconst 0, 1) := by decide +kernel
theorem dX2_copyPattern_14 : decode cX2_copyPattern 14 = .ok (.istore_n 3, 1) := by decide +kernel
theorem dX2_copyPattern_15 : decode cX2_copyPattern 15 = .ok (.iload_n 3, 1) := by decide +kernel
theorem dX2_copyPattern_16 : decode cX2_copyPattern 16 = .ok (.bipush 60, 2) := by decide +kernel
theorem dX2_copyPattern_18 : decode cX2_copyPattern 18 = .ok (.if_icmp .ge 54, 3) := by decide +kernel
theorem dX2_copyPattern_21 : decode cX2_copyPattern 21 = .ok (.iload_n 2, 1) := by decide +kernel
theorem dX2_copyPattern_22 : decode cX2_copyPattern 22 = .ok (.ifCond .le 50, 3) := by decide +kernel
theorem dX2_copyPattern_25 : decode cX2_copyPattern 25 = .ok (.aload_n 0, 1) := by decide +kernel
theorem dX2_copyPattern_26 : decode cX2_copyPattern 26 = .ok (.getfield 18, 3) := by decide +kernel
theorem dX2_copyPattern_29 : decode cX2_copyPattern 29 = .ok (.iload_n 2, 1) := by decide +kernel
theorem dX2_copyPattern_30 : decode cX2_copyPattern 30 = .ok (.iaload, 1) := by decide +kernel
theorem dX2_copyPattern_31 : decode cX2_copyPattern 31 = .ok (.istore 4, 2) := by decide +kernel
theorem dX2_copyPattern_33 : decode cX2_copyPattern 33 = .ok (.iload 4, 2) := by decide +kernel
theorem dX2_copyPattern_35 : decode cX2_copyPattern 35 = .ok (.iconst (-1), 1) := by decide +kernel
theorem dX2_copyPattern_36 : decode cX2_copyPattern 36 = .ok (.if_icmp .ne 9, 3) := by decide +kernel
theorem dX2_copyPattern_39 : decode cX2_copyPattern 39 = .ok (.iinc 2 (-1), 3) := by decide +kernel
theorem dX2_copyPattern_42 : decode cX2_copyPattern 42 = .ok (.goto 24, 3) := by decide +kernel
theorem dX2_copyPattern_45 : decode cX2_copyPattern 45 = .ok (.aload_n 1, 1) := by decide +kernel
theorem dX2_copyPattern_46 : decode cX2_copyPattern 46 = .ok (.iload 4, 2) := by decide +kernel
theorem dX2_copyPattern_48 : decode cX2_copyPattern 48 = .ok (.dup2, 1) := by decide +kernel
theorem dX2_copyPattern_49 : decode cX2_copyPattern 49 = .ok (.iaload, 1) := by decide +kernel
theorem dX2_copyPattern_50 : decode cX2_copyPattern 50 = .ok (.iconst 1, 1) := by decide +kernel
theorem dX2_copyPattern_51 : decode cX2_copyPattern 51 = .ok (.iadd, 1) := by decide +kernel
theorem dX2_copyPattern_52 : decode cX2_copyPattern 52 = .ok (.iastore, 1) := by decide +kernel
theorem dX2_copyPattern_53 : decode cX2_copyPattern 53 = .ok (.iload_n 2, 1) := by decide +kernel
theorem dX2_copyPattern_54 : decode cX2_copyPattern 54 = .ok (.aload_n 0, 1) := by decide +kernel
theorem dX2_copyPattern_55 : decode cX2_copyPattern 55 = .ok (.getfield 22, 3) := by decide +kernel
theorem dX2_copyPattern_58 : decode cX2_copyPattern 58 = .ok (.getfield 39, 3) := by decide +kernel
theorem dX2_copyPattern_61 : decode cX2_copyPattern 61 = .ok (.iload 4, 2) := by decide +kernel
theorem dX2_copyPattern_63 : decode cX2_copyPattern 63 = .ok (.iaload, 1) := by decide +kernel
theorem dX2_copyPattern_64 : decode cX2_copyPattern 64 = .ok (.isub, 1) := by decide +kernel
theorem dX2_copyPattern_65 : decode cX2_copyPattern 65 = .ok (.istore_n 2, 1) := by decide +kernel
theorem dX2_copyPattern_66 : decode cX2_copyPattern 66 = .ok (.iinc 3 1, 3) := by decide +kernel
theorem dX2_copyPattern_69 : decode cX2_copyPattern 69 = .ok (.goto (-54), 3) := by decide +kernel
theorem dX2_copyPattern_72 : decode cX2_copyPattern 72 = .ok (.return_, 1) := by decide +kernel
theorem dX3_init_0 : decode cX3_init 0 = .ok (.aload_n 0, 1) := by decide +kernel
theorem dX3_init_1 : decode cX3_init 1 = .ok (.invokespecial 3, 3) := by decide +kernel
theorem dX3_init_4 : decode cX3_init 4 = .ok (.aload_n 0, 1) := by decide +kernel
theorem dX3_init_5 : decode cX3_init 5 = .ok (.bipush 96, 2) := by decide +kernel
theorem dX3_init_7 : decode cX3_init 7 = .ok (.newarray .int, 2) := by decide +kernel
theorem dX3_init_9 : decode cX3_init 9 = .ok (.putfield 9, 3) := by decide +kernel
theorem dX3_init_12 : decode cX3_init 12 = .ok (.aload_n 0, 1) := by decide +kernel
theorem dX3_init_13 : decode cX3_init 13 = .ok (.iconst 4, 1) := by decide +kernel
theorem dX3_init_14 : decode cX3_init 14 = .ok (.newarray .int, 2) := by decide +kernel
theorem dX3_init_16 : decode cX3_init 16 = .ok (.putfield 15, 3) := by decide +kernel
theorem dX3_init_19 : decode cX3_init 19 = .ok (.aload_n 0, 1) := by decide +kernel
theorem dX3_init_20 : decode cX3_init 20 = .ok (.iconst 4, 1) := by decide +kernel
theorem dX3_init_21 : decode cX3_init 21 = .ok (.newarray .int, 2) := by decide +kernel
theorem dX3_init_23 : decode cX3_init 23 = .ok (.putfield 18, 3) := by decide +kernel
theorem dX3_init_26 : decode cX3_init 26 = .ok (.aload_n 0, 1) := by decide +kernel
theorem dX3_init_27 : decode cX3_init 27 = .ok (.iconst 0, 1) := by decide +kernel
theorem dX3_init_28 : decode cX3_init 28 = .ok (.putfield 21, 3) := by decide +kernel
theorem dX3_init_31 : decode cX3_init 31 = .ok (.aload_n 0, 1) := by decide +kernel
theorem dX3_init_32 : decode cX3_init 32 = .ok (.aload_n 1, 1) := by decide +kernel
theorem dX3_init_33 : decode cX3_init 33 = .ok (.putfield 25, 3) := by decide +kernel
theorem dX3_init_36 : decode cX3_init 36 = .ok (.aload_n 0, 1) := by decide +kernel
theorem dX3_init_37 : decode cX3_init 37 = .ok (.aload_n 2, 1) := by decide +kernel
theorem dX3_init_38 : decode cX3_init 38 = .ok (.putfield 29, 3) := by decide +kernel
theorem dX3_init_41 : decode cX3_init 41 = .ok (.return_, 1) := by decide +kernel
theorem dX3_forget_0 : decode cX3_forget 0 = .ok (.aload_n 0, 1) := by decide +kernel
theorem dX3_forget_1 : decode cX3_forget 1 = .ok (.iconst 0, 1) := by decide +kernel
theorem dX3_forget_2 : decode cX3_forget 2 = .ok (.putfield 21, 3) := by decide +kernel
theorem dX3_forget_5 : decode cX3_forget 5 = .ok (.return_, 1) := by decide +kernel
theorem dX3_pieces_0 : decode cX3_pieces 0 = .ok (.aload_n 0, 1) := by decide +kernel
theorem dX3_pieces_1 : decode cX3_pieces 1 = .ok (.getfield 21, 3) := by decide +kernel
theorem dX3_pieces_4 : decode cX3_pieces 4 = .ok (.ifCond .ne 7, 3) := by decide +kernel
theorem dX3_pieces_7 : decode cX3_pieces 7 = .ok (.aload_n 0, 1) := by decide +kernel
theorem dX3_pieces_8 : decode cX3_pieces 8 = .ok (.invokevirtual 33, 3) := by decide +kernel
theorem dX3_pieces_11 : decode cX3_pieces 11 = .ok (.aload_n 0, 1) := by decide +kernel
theorem dX3_pieces_12 : decode cX3_pieces 12 = .ok (.getfield 9, 3) := by decide +kernel
theorem dX3_pieces_15 : decode cX3_pieces 15 = .ok (.iload_n 1, 1) := by decide +kernel
theorem dX3_pieces_16 : decode cX3_pieces 16 = .ok (.iconst 4, 1) := by decide +kernel
theorem dX3_pieces_17 : decode cX3_pieces 17 = .ok (.imul, 1) := by decide +kernel
theorem dX3_pieces_18 : decode cX3_pieces 18 = .ok (.iload_n 2, 1) := by decide +kernel
theorem dX3_pieces_19 : decode cX3_pieces 19 = .ok (.iadd, 1) := by decide +kernel
theorem dX3_pieces_20 : decode cX3_pieces 20 = .ok (.iaload, 1) := by decide +kernel
