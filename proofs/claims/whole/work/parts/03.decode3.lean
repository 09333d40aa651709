theorem dX6_dear_166 : decode cX6_dear 166 = .ok (.iinc 15 (-1), 3) := by decide +kernel
theorem dX6_dear_169 : decode cX6_dear 169 = .ok (.goto (-97), 3) := by decide +kernel
theorem dX6_dear_172 : decode cX6_dear 172 = .ok (.iinc 13 (-1), 3) := by decide +kernel
theorem dX6_dear_175 : decode cX6_dear 175 = .ok (.goto (-130), 3) := by decide +kernel
theorem dX6_dear_178 : decode cX6_dear 178 = .ok (.iinc 11 (-1), 3) := by decide +kernel
theorem dX6_dear_181 : decode cX6_dear 181 = .ok (.goto (-165), 3) := by decide +kernel
theorem dX6_dear_184 : decode cX6_dear 184 = .ok (.lload 9, 2) := by decide +kernel
theorem dX6_dear_186 : decode cX6_dear 186 = .ok (.lreturn, 1) := by decide +kernel
theorem dX6_price_0 : decode cX6_price 0 = .ok (.iload_n 1, 1) := by decide +kernel
theorem dX6_price_1 : decode cX6_price 1 = .ok (.ifCond .lt 41, 3) := by decide +kernel
theorem dX6_price_4 : decode cX6_price 4 = .ok (.iload_n 2, 1) := by decide +kernel
theorem dX6_price_5 : decode cX6_price 5 = .ok (.ifCond .lt 37, 3) := by decide +kernel
theorem dX6_price_8 : decode cX6_price 8 = .ok (.iload_n 3, 1) := by decide +kernel
theorem dX6_price_9 : decode cX6_price 9 = .ok (.ifCond .lt 33, 3) := by decide +kernel
theorem dX6_price_12 : decode cX6_price 12 = .ok (.iload 4, 2) := by decide +kernel
theorem dX6_price_14 : decode cX6_price 14 = .ok (.ifCond .lt 28, 3) := by decide +kernel
theorem dX6_price_17 : decode cX6_price 17 = .ok (.iload_n 1, 1) := by decide +kernel
theorem dX6_price_18 : decode cX6_price 18 = .ok (.ldc 95, 2) := by decide +kernel
theorem dX6_price_20 : decode cX6_price 20 = .ok (.if_icmp .gt 22, 3) := by decide +kernel
theorem dX6_price_23 : decode cX6_price 23 = .ok (.iload_n 2, 1) := by decide +kernel
theorem dX6_price_24 : decode cX6_price 24 = .ok (.ldc 95, 2) := by decide +kernel
theorem dX6_price_26 : decode cX6_price 26 = .ok (.if_icmp .gt 16, 3) := by decide +kernel
theorem dX6_price_29 : decode cX6_price 29 = .ok (.iload_n 3, 1) := by decide +kernel
theorem dX6_price_30 : decode cX6_price 30 = .ok (.ldc 95, 2) := by decide +kernel
theorem dX6_price_32 : decode cX6_price 32 = .ok (.if_icmp .gt 10, 3) := by decide +kernel
theorem dX6_price_35 : decode cX6_price 35 = .ok (.iload 4, 2) := by decide +kernel
theorem dX6_price_37 : decode cX6_price 37 = .ok (.ldc 95, 2) := by decide +kernel
theorem dX6_price_39 : decode cX6_price 39 = .ok (.if_icmp .le 5, 3) := by decide +kernel
theorem dX6_price_42 : decode cX6_price 42 = .ok (.iconst (-1), 1) := by decide +kernel
theorem dX6_price_43 : decode cX6_price 43 = .ok (.ireturn, 1) := by decide +kernel
theorem dX6_price_44 : decode cX6_price 44 = .ok (.aload_n 0, 1) := by decide +kernel
theorem dX6_price_45 : decode cX6_price 45 = .ok (.iload_n 1, 1) := by decide +kernel
theorem dX6_price_46 : decode cX6_price 46 = .ok (.i2l, 1) := by decide +kernel
theorem dX6_price_47 : decode cX6_price 47 = .ok (.iload_n 2, 1) := by decide +kernel
theorem dX6_price_48 : decode cX6_price 48 = .ok (.i2l, 1) := by decide +kernel
theorem dX6_price_49 : decode cX6_price 49 = .ok (.iload_n 3, 1) := by decide +kernel
theorem dX6_price_50 : decode cX6_price 50 = .ok (.i2l, 1) := by decide +kernel
theorem dX6_price_51 : decode cX6_price 51 = .ok (.iload 4, 2) := by decide +kernel
theorem dX6_price_53 : decode cX6_price 53 = .ok (.i2l, 1) := by decide +kernel
theorem dX6_price_54 : decode cX6_price 54 = .ok (.invokevirtual 96, 3) := by decide +kernel
theorem dX6_price_57 : decode cX6_price 57 = .ok (.l2i, 1) := by decide +kernel
theorem dX6_price_58 : decode cX6_price 58 = .ok (.ireturn, 1) := by decide +kernel
theorem dX6_row_0 : decode cX6_row 0 = .ok (.iconst 5, 1) := by decide +kernel
theorem dX6_row_1 : decode cX6_row 1 = .ok (.aload_n 0, 1) := by decide +kernel
theorem dX6_row_2 : decode cX6_row 2 = .ok (.getfield 100, 3) := by decide +kernel
theorem dX6_row_5 : decode cX6_row 5 = .ok (.imul, 1) := by decide +kernel
theorem dX6_row_6 : decode cX6_row 6 = .ok (.istore 6, 2) := by decide +kernel
theorem dX6_row_8 : decode cX6_row 8 = .ok (.aload_n 0, 1) := by decide +kernel
theorem dX6_row_9 : decode cX6_row 9 = .ok (.getfield 29, 3) := by decide +kernel
theorem dX6_row_12 : decode cX6_row 12 = .ok (.iload 6, 2) := by decide +kernel
theorem dX6_row_14 : decode cX6_row 14 = .ok (.iload_n 1, 1) := by decide +kernel
theorem dX6_row_15 : decode cX6_row 15 = .ok (.iastore, 1) := by decide +kernel
theorem dX6_row_16 : decode cX6_row 16 = .ok (.aload_n 0, 1) := by decide +kernel
theorem dX6_row_17 : decode cX6_row 17 = .ok (.getfield 29, 3) := by decide +kernel
theorem dX6_row_20 : decode cX6_row 20 = .ok (.iload 6, 2) := by decide +kernel
theorem dX6_row_22 : decode cX6_row 22 = .ok (.iconst 1, 1) := by decide +kernel
theorem dX6_row_23 : decode cX6_row 23 = .ok (.iadd, 1) := by decide +kernel
theorem dX6_row_24 : decode cX6_row 24 = .ok (.iload_n 2, 1) := by decide +kernel
theorem dX6_row_25 : decode cX6_row 25 = .ok (.iastore, 1) := by decide +kernel
theorem dX6_row_26 : decode cX6_row 26 = .ok (.aload_n 0, 1) := by decide +kernel
theorem dX6_row_27 : decode cX6_row 27 = .ok (.getfield 29, 3) := by decide +kernel
theorem dX6_row_30 : decode cX6_row 30 = .ok (.iload 6, 2) := by decide +kernel
theorem dX6_row_32 : decode cX6_row 32 = .ok (.iconst 2, 1) := by decide +kernel
theorem dX6_row_33 : decode cX6_row 33 = .ok (.iadd, 1) := by decide +kernel
theorem dX6_row_34 : decode cX6_row 34 = .ok (.iload_n 3, 1) := by decide +kernel
theorem dX6_row_35 : decode cX6_row 35 = .ok (.iastore, 1) := by decide +kernel
theorem dX6_row_36 : decode cX6_row 36 = .ok (.aload_n 0, 1) := by decide +kernel
theorem dX6_row_37 : decode cX6_row 37 = .ok (.getfield 29, 3) := by decide +kernel
theorem dX6_row_40 : decode cX6_row 40 = .ok (.iload 6, 2) := by decide +kernel
theorem dX6_row_42 : decode cX6_row 42 = .ok (.iconst 3, 1) := by decide +kernel
theorem dX6_row_43 : decode cX6_row 43 = .ok (.iadd, 1) := by decide +kernel
theorem dX6_row_44 : decode cX6_row 44 = .ok (.iload 4, 2) := by decide +kernel
theorem dX6_row_46 : decode cX6_row 46 = .ok (.iastore, 1) := by decide +kernel
theorem dX6_row_47 : decode cX6_row 47 = .ok (.aload_n 0, 1) := by decide +kernel
theorem dX6_row_48 : decode cX6_row 48 = .ok (.getfield 29, 3) := by decide +kernel
theorem dX6_row_51 : decode cX6_row 51 = .ok (.iload 6, 2) := by decide +kernel
theorem dX6_row_53 : decode cX6_row 53 = .ok (.iconst 4, 1) := by decide +kernel
theorem dX6_row_54 : decode cX6_row 54 = .ok (.iadd, 1) := by decide +kernel
theorem dX6_row_55 : decode cX6_row 55 = .ok (.iload 5, 2) := by decide +kernel
theorem dX6_row_57 : decode cX6_row 57 = .ok (.iastore, 1) := by decide +kernel
theorem dX6_row_58 : decode cX6_row 58 = .ok (.aload_n 0, 1) := by decide +kernel
theorem dX6_row_59 : decode cX6_row 59 = .ok (.dup, 1) := by decide +kernel
theorem dX6_row_60 : decode cX6_row 60 = .ok (.getfield 100, 3) := by decide +kernel
theorem dX6_row_63 : decode cX6_row 63 = .ok (.iconst 1, 1) := by decide +kernel
theorem dX6_row_64 : decode cX6_row 64 = .ok (.iadd, 1) := by decide +kernel
theorem dX6_row_65 : decode cX6_row 65 = .ok (.putfield 100, 3) := by decide +kernel
theorem dX6_row_68 : decode cX6_row 68 = .ok (.return_, 1) := by decide +kernel
theorem dX6_determinant_0 : decode cX6_determinant 0 = .ok (.iconst 0, 1) := by decide +kernel
theorem dX6_determinant_1 : decode cX6_determinant 1 = .ok (.istore_n 2, 1) := by decide +kernel
theorem dX6_determinant_2 : decode cX6_determinant 2 = .ok (.iload_n 2, 1) := by decide +kernel
theorem dX6_determinant_3 : decode cX6_determinant 3 = .ok (.iconst 4, 1) := by decide +kernel
theorem dX6_determinant_4 : decode cX6_determinant 4 = .ok (.if_icmp .ge 57, 3) := by decide +kernel
theorem dX6_determinant_7 : decode cX6_determinant 7 = .ok (.iconst 0, 1) := by decide +kernel
theorem dX6_determinant_8 : decode cX6_determinant 8 = .ok (.istore_n 3, 1) := by decide +kernel
theorem dX6_determinant_9 : decode cX6_determinant 9 = .ok (.iload_n 3, 1) := by decide +kernel
theorem dX6_determinant_10 : decode cX6_determinant 10 = .ok (.iconst 4, 1) := by decide +kernel
theorem dX6_determinant_11 : decode cX6_determinant 11 = .ok (.if_icmp .ge 44, 3) := by decide +kernel
theorem dX6_determinant_14 : decode cX6_determinant 14 = .ok (.aload_n 0, 1) := by decide +kernel
theorem dX6_determinant_15 : decode cX6_determinant 15 = .ok (.getfield 42, 3) := by decide +kernel
theorem dX6_determinant_18 : decode cX6_determinant 18 = .ok (.iconst 4, 1) := by decide +kernel
theorem dX6_determinant_19 : decode cX6_determinant 19 = .ok (.iload_n 2, 1) := by decide +kernel
theorem dX6_determinant_20 : decode cX6_determinant 20 = .ok (.imul, 1) := by decide +kernel
theorem dX6_determinant_21 : decode cX6_determinant 21 = .ok (.iload_n 3, 1) := by decide +kernel
theorem dX6_determinant_22 : decode cX6_determinant 22 = .ok (.iadd, 1) := by decide +kernel
theorem dX6_determinant_23 : decode cX6_determinant 23 = .ok (.aload_n 0, 1) := by decide +kernel
theorem dX6_determinant_24 : decode cX6_determinant 24 = .ok (.getfield 29, 3) := by decide +kernel
theorem dX6_determinant_27 : decode cX6_determinant 27 = .ok (.iconst 5, 1) := by decide +kernel
theorem dX6_determinant_28 : decode cX6_determinant 28 = .ok (.aload_n 0, 1) := by decide +kernel
theorem dX6_determinant_29 : decode cX6_determinant 29 = .ok (.getfield 32, 3) := by decide +kernel
theorem dX6_determinant_32 : decode cX6_determinant 32 = .ok (.iload_n 2, 1) := by decide +kernel
theorem dX6_determinant_33 : decode cX6_determinant 33 = .ok (.iaload, 1) := by decide +kernel
theorem dX6_determinant_34 : decode cX6_determinant 34 = .ok (.imul, 1) := by decide +kernel
theorem dX6_determinant_35 : decode cX6_determinant 35 = .ok (.iload_n 3, 1) := by decide +kernel
theorem dX6_determinant_36 : decode cX6_determinant 36 = .ok (.iload_n 1, 1) := by decide +kernel
theorem dX6_determinant_37 : decode cX6_determinant 37 = .ok (.if_icmp .ne 7, 3) := by decide +kernel
theorem dX6_determinant_40 : decode cX6_determinant 40 = .ok (.iconst 4, 1) := by decide +kernel
theorem dX6_determinant_41 : decode cX6_determinant 41 = .ok (.goto 4, 3) := by decide +kernel
theorem dX6_determinant_44 : decode cX6_determinant 44 = .ok (.iload_n 3, 1) := by decide +kernel
theorem dX6_determinant_45 : decode cX6_determinant 45 = .ok (.iadd, 1) := by decide +kernel
theorem dX6_determinant_46 : decode cX6_determinant 46 = .ok (.iaload, 1) := by decide +kernel
theorem dX6_determinant_47 : decode cX6_determinant 47 = .ok (.i2l, 1) := by decide +kernel
theorem dX6_determinant_48 : decode cX6_determinant 48 = .ok (.lastore, 1) := by decide +kernel
theorem dX6_determinant_49 : decode cX6_determinant 49 = .ok (.iinc 3 1, 3) := by decide +kernel
theorem dX6_determinant_52 : decode cX6_determinant 52 = .ok (.goto (-43), 3) := by decide +kernel
theorem dX6_determinant_55 : decode cX6_determinant 55 = .ok (.iinc 2 1, 3) := by decide +kernel
theorem dX6_determinant_58 : decode cX6_determinant 58 = .ok (.goto (-56), 3) := by decide +kernel
theorem dX6_determinant_61 : decode cX6_determinant 61 = .ok (.lconst 0, 1) := by decide +kernel
theorem dX6_determinant_62 : decode cX6_determinant 62 = .ok (.lstore_n 2, 1) := by decide +kernel
theorem dX6_determinant_63 : decode cX6_determinant 63 = .ok (.iconst 0, 1) := by decide +kernel
theorem dX6_determinant_64 : decode cX6_determinant 64 = .ok (.istore 4, 2) := by decide +kernel
theorem dX6_determinant_66 : decode cX6_determinant 66 = .ok (.iload 4, 2) := by decide +kernel
theorem dX6_determinant_68 : decode cX6_determinant 68 = .ok (.iconst 4, 1) := by decide +kernel
theorem dX6_determinant_69 : decode cX6_determinant 69 = .ok (.if_icmp .ge 172, 3) := by decide +kernel
theorem dX6_determinant_72 : decode cX6_determinant 72 = .ok (.iload 4, 2) := by decide +kernel
theorem dX6_determinant_74 : decode cX6_determinant 74 = .ok (.iconst 1, 1) := by decide +kernel
theorem dX6_determinant_75 : decode cX6_determinant 75 = .ok (.iadd, 1) := by decide +kernel
theorem dX6_determinant_76 : decode cX6_determinant 76 = .ok (.istore 5, 2) := by decide +kernel
theorem dX6_determinant_78 : decode cX6_determinant 78 = .ok (.iload 5, 2) := by decide +kernel
theorem dX6_determinant_80 : decode cX6_determinant 80 = .ok (.iconst 4, 1) := by decide +kernel
theorem dX6_determinant_81 : decode cX6_determinant 81 = .ok (.if_icmp .ge 154, 3) := by decide +kernel
theorem dX6_determinant_84 : decode cX6_determinant 84 = .ok (.iload 4, 2) := by decide +kernel
theorem dX6_determinant_86 : decode cX6_determinant 86 = .ok (.ifCond .le 7, 3) := by decide +kernel
theorem dX6_determinant_89 : decode cX6_determinant 89 = .ok (.iconst 0, 1) := by decide +kernel
theorem dX6_determinant_90 : decode cX6_determinant 90 = .ok (.goto 14, 3) := by decide +kernel
theorem dX6_determinant_93 : decode cX6_determinant 93 = .ok (.iload 5, 2) := by decide +kernel
theorem dX6_determinant_95 : decode cX6_determinant 95 = .ok (.iconst 1, 1) := by decide +kernel
theorem dX6_determinant_96 : decode cX6_determinant 96 = .ok (.if_icmp .le 7, 3) := by decide +kernel
theorem dX6_determinant_99 : decode cX6_determinant 99 = .ok (.iconst 1, 1) := by decide +kernel
theorem dX6_determinant_100 : decode cX6_determinant 100 = .ok (.goto 4, 3) := by decide +kernel
theorem dX6_determinant_103 : decode cX6_determinant 103 = .ok (.iconst 2, 1) := by decide +kernel
theorem dX6_determinant_104 : decode cX6_determinant 104 = .ok (.istore 6, 2) := by decide +kernel
theorem dX6_determinant_106 : decode cX6_determinant 106 = .ok (.bipush 6, 2) := by decide +kernel
theorem dX6_determinant_108 : decode cX6_determinant 108 = .ok (.iload 4, 2) := by decide +kernel
theorem dX6_determinant_110 : decode cX6_determinant 110 = .ok (.isub, 1) := by decide +kernel
theorem dX6_determinant_111 : decode cX6_determinant 111 = .ok (.iload 5, 2) := by decide +kernel
theorem dX6_determinant_113 : decode cX6_determinant 113 = .ok (.isub, 1) := by decide +kernel
theorem dX6_determinant_114 : decode cX6_determinant 114 = .ok (.iload 6, 2) := by decide +kernel
theorem dX6_determinant_116 : decode cX6_determinant 116 = .ok (.isub, 1) := by decide +kernel
theorem dX6_determinant_117 : decode cX6_determinant 117 = .ok (.istore 7, 2) := by decide +kernel
theorem dX6_determinant_119 : decode cX6_determinant 119 = .ok (.aload_n 0, 1) := by decide +kernel
theorem dX6_determinant_120 : decode cX6_determinant 120 = .ok (.getfield 42, 3) := by decide +kernel
theorem dX6_determinant_123 : decode cX6_determinant 123 = .ok (.iload 4, 2) := by decide +kernel
theorem dX6_determinant_125 : decode cX6_determinant 125 = .ok (.laload, 1) := by decide +kernel
theorem dX6_determinant_126 : decode cX6_determinant 126 = .ok (.aload_n 0, 1) := by decide +kernel
theorem dX6_determinant_127 : decode cX6_determinant 127 = .ok (.getfield 42, 3) := by decide +kernel
theorem dX6_determinant_130 : decode cX6_determinant 130 = .ok (.iconst 4, 1) := by decide +kernel
theorem dX6_determinant_131 : decode cX6_determinant 131 = .ok (.iload 5, 2) := by decide +kernel
theorem dX6_determinant_133 : decode cX6_determinant 133 = .ok (.iadd, 1) := by decide +kernel
theorem dX6_determinant_134 : decode cX6_determinant 134 = .ok (.laload, 1) := by decide +kernel
theorem dX6_determinant_135 : decode cX6_determinant 135 = .ok (.lmul, 1) := by decide +kernel
theorem dX6_determinant_136 : decode cX6_determinant 136 = .ok (.aload_n 0, 1) := by decide +kernel
theorem dX6_determinant_137 : decode cX6_determinant 137 = .ok (.getfield 42, 3) := by decide +kernel
theorem dX6_determinant_140 : decode cX6_determinant 140 = .ok (.iload 5, 2) := by decide +kernel
theorem dX6_determinant_142 : decode cX6_determinant 142 = .ok (.laload, 1) := by decide +kernel
theorem dX6_determinant_143 : decode cX6_determinant 143 = .ok (.aload_n 0, 1) := by decide +kernel
theorem dX6_determinant_144 : decode cX6_determinant 144 = .ok (.getfield 42, 3) := by decide +kernel
theorem dX6_determinant_147 : decode cX6_determinant 147 = .ok (.iconst 4, 1) := by decide +kernel
theorem dX6_determinant_148 : decode cX6_determinant 148 = .ok (.iload 4, 2) := by decide +kernel
theorem dX6_determinant_150 : decode cX6_determinant 150 = .ok (.iadd, 1) := by decide +kernel
theorem dX6_determinant_151 : decode cX6_determinant 151 = .ok (.laload, 1) := by decide +kernel
theorem dX6_determinant_152 : decode cX6_determinant 152 = .ok (.lmul, 1) := by decide +kernel
theorem dX6_determinant_153 : decode cX6_determinant 153 = .ok (.lsub, 1) := by decide +kernel
theorem dX6_determinant_154 : decode cX6_determinant 154 = .ok (.lstore 8, 2) := by decide +kernel
theorem dX6_determinant_156 : decode cX6_determinant 156 = .ok (.aload_n 0, 1) := by decide +kernel
theorem dX6_determinant_157 : decode cX6_determinant 157 = .ok (.getfield 42, 3) := by decide +kernel
theorem dX6_determinant_160 : decode cX6_determinant 160 = .ok (.bipush 8, 2) := by decide +kernel
theorem dX6_determinant_162 : decode cX6_determinant 162 = .ok (.iload 6, 2) := by decide +kernel
theorem dX6_determinant_164 : decode cX6_determinant 164 = .ok (.iadd, 1) := by decide +kernel
theorem dX6_determinant_165 : decode cX6_determinant 165 = .ok (.laload, 1) := by decide +kernel
theorem dX6_determinant_166 : decode cX6_determinant 166 = .ok (.aload_n 0, 1) := by decide +kernel
theorem dX6_determinant_167 : decode cX6_determinant 167 = .ok (.getfield 42, 3) := by decide +kernel
theorem dX6_determinant_170 : decode cX6_determinant 170 = .ok (.bipush 12, 2) := by decide +kernel
theorem dX6_determinant_172 : decode cX6_determinant 172 = .ok (.iload 7, 2) := by decide +kernel
theorem dX6_determinant_174 : decode cX6_determinant 174 = .ok (.iadd, 1) := by decide +kernel
theorem dX6_determinant_175 : decode cX6_determinant 175 = .ok (.laload, 1) := by decide +kernel
theorem dX6_determinant_176 : decode cX6_determinant 176 = .ok (.lmul, 1) := by decide +kernel
theorem dX6_determinant_177 : decode cX6_determinant 177 = .ok (.aload_n 0, 1) := by decide +kernel
theorem dX6_determinant_178 : decode cX6_determinant 178 = .ok (.getfield 42, 3) := by decide +kernel
theorem dX6_determinant_181 : decode cX6_determinant 181 = .ok (.bipush 8, 2) := by decide +kernel
theorem dX6_determinant_183 : decode cX6_determinant 183 = .ok (.iload 7, 2) := by decide +kernel
theorem dX6_determinant_185 : decode cX6_determinant 185 = .ok (.iadd, 1) := by decide +kernel
theorem dX6_determinant_186 : decode cX6_determinant 186 = .ok (.laload, 1) := by decide +kernel
theorem dX6_determinant_187 : decode cX6_determinant 187 = .ok (.aload_n 0, 1) := by decide +kernel
theorem dX6_determinant_188 : decode cX6_determinant 188 = .ok (.getfield 42, 3) := by decide +kernel
theorem dX6_determinant_191 : decode cX6_determinant 191 = .ok (.bipush 12, 2) := by decide +kernel
theorem dX6_determinant_193 : decode cX6_determinant 193 = .ok (.iload 6, 2) := by decide +kernel
theorem dX6_determinant_195 : decode cX6_determinant 195 = .ok (.iadd, 1) := by decide +kernel
theorem dX6_determinant_196 : decode cX6_determinant 196 = .ok (.laload, 1) := by decide +kernel
theorem dX6_determinant_197 : decode cX6_determinant 197 = .ok (.lmul, 1) := by decide +kernel
theorem dX6_determinant_198 : decode cX6_determinant 198 = .ok (.lsub, 1) := by decide +kernel
theorem dX6_determinant_199 : decode cX6_determinant 199 = .ok (.lstore 10, 2) := by decide +kernel
theorem dX6_determinant_201 : decode cX6_determinant 201 = .ok (.lload_n 2, 1) := by decide +kernel
theorem dX6_determinant_202 : decode cX6_determinant 202 = .ok (.iload 4, 2) := by decide +kernel
theorem dX6_determinant_204 : decode cX6_determinant 204 = .ok (.iload 5, 2) := by decide +kernel
theorem dX6_determinant_206 : decode cX6_determinant 206 = .ok (.iadd, 1) := by decide +kernel
theorem dX6_determinant_207 : decode cX6_determinant 207 = .ok (.iconst 2, 1) := by decide +kernel
theorem dX6_determinant_208 : decode cX6_determinant 208 = .ok (.irem, 1) := by decide +kernel
theorem dX6_determinant_209 : decode cX6_determinant 209 = .ok (.iconst 1, 1) := by decide +kernel
theorem dX6_determinant_210 : decode cX6_determinant 210 = .ok (.if_icmp .ne 11, 3) := by decide +kernel
theorem dX6_determinant_213 : decode cX6_determinant 213 = .ok (.lload 8, 2) := by decide +kernel
theorem dX6_determinant_215 : decode cX6_determinant 215 = .ok (.lload 10, 2) := by decide +kernel
theorem dX6_determinant_217 : decode cX6_determinant 217 = .ok (.lmul, 1) := by decide +kernel
theorem dX6_determinant_218 : decode cX6_determinant 218 = .ok (.goto 9, 3) := by decide +kernel
theorem dX6_determinant_221 : decode cX6_determinant 221 = .ok (.lload 8, 2) := by decide +kernel
theorem dX6_determinant_223 : decode cX6_determinant 223 = .ok (.lneg, 1) := by decide +kernel
theorem dX6_determinant_224 : decode cX6_determinant 224 = .ok (.lload 10, 2) := by decide +kernel
theorem dX6_determinant_226 : decode cX6_determinant 226 = .ok (.lmul, 1) := by decide +kernel
theorem dX6_determinant_227 : decode cX6_determinant 227 = .ok (.ladd, 1) := by decide +kernel
theorem dX6_determinant_228 : decode cX6_determinant 228 = .ok (.lstore_n 2, 1) := by decide +kernel
theorem dX6_determinant_229 : decode cX6_determinant 229 = .ok (.iinc 5 1, 3) := by decide +kernel
theorem dX6_determinant_232 : decode cX6_determinant 232 = .ok (.goto (-154), 3) := by decide +kernel
theorem dX6_determinant_235 : decode cX6_determinant 235 = .ok (.iinc 4 1, 3) := by decide +kernel
theorem dX6_determinant_238 : decode cX6_determinant 238 = .ok (.goto (-172), 3) := by decide +kernel
theorem dX6_determinant_241 : decode cX6_determinant 241 = .ok (.lload_n 2, 1) := by decide +kernel
theorem dX6_determinant_242 : decode cX6_determinant 242 = .ok (.lreturn, 1) := by decide +kernel
theorem dX6_meets_0 : decode cX6_meets 0 = .ok (.aload_n 0, 1) := by decide +kernel
theorem dX6_meets_1 : decode cX6_meets 1 = .ok (.aload_n 0, 1) := by decide +kernel
theorem dX6_meets_2 : decode cX6_meets 2 = .ok (.iconst (-1), 1) := by decide +kernel
theorem dX6_meets_3 : decode cX6_meets 3 = .ok (.invokevirtual 103, 3) := by decide +kernel
theorem dX6_meets_6 : decode cX6_meets 6 = .ok (.putfield 107, 3) := by decide +kernel
theorem dX6_meets_9 : decode cX6_meets 9 = .ok (.aload_n 0, 1) := by decide +kernel
theorem dX6_meets_10 : decode cX6_meets 10 = .ok (.getfield 107, 3) := by decide +kernel
theorem dX6_meets_13 : decode cX6_meets 13 = .ok (.lconst 0, 1) := by decide +kernel
theorem dX6_meets_14 : decode cX6_meets 14 = .ok (.lcmp, 1) := by decide +kernel
theorem dX6_meets_15 : decode cX6_meets 15 = .ok (.ifCond .ne 5, 3) := by decide +kernel
theorem dX6_meets_18 : decode cX6_meets 18 = .ok (.iconst 0, 1) := by decide +kernel
theorem dX6_meets_19 : decode cX6_meets 19 = .ok (.ireturn, 1) := by decide +kernel
theorem dX6_meets_20 : decode cX6_meets 20 = .ok (.iconst 0, 1) := by decide +kernel
theorem dX6_meets_21 : decode cX6_meets 21 = .ok (.istore_n 1, 1) := by decide +kernel
theorem dX6_meets_22 : decode cX6_meets 22 = .ok (.iload_n 1, 1) := by decide +kernel
theorem dX6_meets_23 : decode cX6_meets 23 = .ok (.iconst 4, 1) := by decide +kernel
theorem dX6_meets_24 : decode cX6_meets 24 = .ok (.if_icmp .ge 20, 3) := by decide +kernel
theorem dX6_meets_27 : decode cX6_meets 27 = .ok (.aload_n 0, 1) := by decide +kernel
theorem dX6_meets_28 : decode cX6_meets 28 = .ok (.getfield 35, 3) := by decide +kernel
theorem dX6_meets_31 : decode cX6_meets 31 = .ok (.iload_n 1, 1) := by decide +kernel
theorem dX6_meets_32 : decode cX6_meets 32 = .ok (.aload_n 0, 1) := by decide +kernel
theorem dX6_meets_33 : decode cX6_meets 33 = .ok (.iload_n 1, 1) := by decide +kernel
theorem dX6_meets_34 : decode cX6_meets 34 = .ok (.invokevirtual 103, 3) := by decide +kernel
theorem dX6_meets_37 : decode cX6_meets 37 = .ok (.lastore, 1) := by decide +kernel
theorem dX6_meets_38 : decode cX6_meets 38 = .ok (.iinc 1 1, 3) := by decide +kernel
theorem dX6_meets_41 : decode cX6_meets 41 = .ok (.goto (-19), 3) := by decide +kernel
theorem dX6_meets_44 : decode cX6_meets 44 = .ok (.aload_n 0, 1) := by decide +kernel
theorem dX6_meets_45 : decode cX6_meets 45 = .ok (.getfield 107, 3) := by decide +kernel
theorem dX6_meets_48 : decode cX6_meets 48 = .ok (.lconst 0, 1) := by decide +kernel
theorem dX6_meets_49 : decode cX6_meets 49 = .ok (.lcmp, 1) := by decide +kernel
theorem dX6_meets_50 : decode cX6_meets 50 = .ok (.ifCond .ge 38, 3) := by decide +kernel
theorem dX6_meets_53 : decode cX6_meets 53 = .ok (.aload_n 0, 1) := by decide +kernel
theorem dX6_meets_54 : decode cX6_meets 54 = .ok (.aload_n 0, 1) := by decide +kernel
theorem dX6_meets_55 : decode cX6_meets 55 = .ok (.getfield 107, 3) := by decide +kernel
theorem dX6_meets_58 : decode cX6_meets 58 = .ok (.lneg, 1) := by decide +kernel
theorem dX6_meets_59 : decode cX6_meets 59 = .ok (.putfield 107, 3) := by decide +kernel
theorem dX6_meets_62 : decode cX6_meets 62 = .ok (.iconst 0, 1) := by decide +kernel
theorem dX6_meets_63 : decode cX6_meets 63 = .ok (.istore_n 1, 1) := by decide +kernel
theorem dX6_meets_64 : decode cX6_meets 64 = .ok (.iload_n 1, 1) := by decide +kernel
theorem dX6_meets_65 : decode cX6_meets 65 = .ok (.iconst 4, 1) := by decide +kernel
theorem dX6_meets_66 : decode cX6_meets 66 = .ok (.if_icmp .ge 22, 3) := by decide +kernel
theorem dX6_meets_69 : decode cX6_meets 69 = .ok (.aload_n 0, 1) := by decide +kernel
theorem dX6_meets_70 : decode cX6_meets 70 = .ok (.getfield 35, 3) := by decide +kernel
theorem dX6_meets_73 : decode cX6_meets 73 = .ok (.iload_n 1, 1) := by decide +kernel
theorem dX6_meets_74 : decode cX6_meets 74 = .ok (.aload_n 0, 1) := by decide +kernel
theorem dX6_meets_75 : decode cX6_meets 75 = .ok (.getfield 35, 3) := by decide +kernel
theorem dX6_meets_78 : decode cX6_meets 78 = .ok (.iload_n 1, 1) := by decide +kernel
theorem dX6_meets_79 : decode cX6_meets 79 = .ok (.laload, 1) := by decide +kernel
theorem dX6_meets_80 : decode cX6_meets 80 = .ok (.lneg, 1) := by decide +kernel
theorem dX6_meets_81 : decode cX6_meets 81 = .ok (.lastore, 1) := by decide +kernel
theorem dX6_meets_82 : decode cX6_meets 82 = .ok (.iinc 1 1, 3) := by decide +kernel
theorem dX6_meets_85 : decode cX6_meets 85 = .ok (.goto (-21), 3) := by decide +kernel
theorem dX6_meets_88 : decode cX6_meets 88 = .ok (.iconst 1, 1) := by decide +kernel
theorem dX6_meets_89 : decode cX6_meets 89 = .ok (.istore_n 1, 1) := by decide +kernel
theorem dX6_meets_90 : decode cX6_meets 90 = .ok (.iconst 0, 1) := by decide +kernel
theorem dX6_meets_91 : decode cX6_meets 91 = .ok (.istore_n 2, 1) := by decide +kernel
theorem dX6_meets_92 : decode cX6_meets 92 = .ok (.iload_n 2, 1) := by decide +kernel
theorem dX6_meets_93 : decode cX6_meets 93 = .ok (.aload_n 0, 1) := by decide +kernel
theorem dX6_meets_94 : decode cX6_meets 94 = .ok (.getfield 100, 3) := by decide +kernel
theorem dX6_meets_97 : decode cX6_meets 97 = .ok (.if_icmp .ge 80, 3) := by decide +kernel
theorem dX6_meets_100 : decode cX6_meets 100 = .ok (.iload_n 1, 1) := by decide +kernel
theorem dX6_meets_101 : decode cX6_meets 101 = .ok (.ifCond .eq 76, 3) := by decide +kernel
theorem dX6_meets_104 : decode cX6_meets 104 = .ok (.lconst 0, 1) := by decide +kernel
theorem dX6_meets_105 : decode cX6_meets 105 = .ok (.lstore_n 3, 1) := by decide +kernel
theorem dX6_meets_106 : decode cX6_meets 106 = .ok (.iconst 0, 1) := by decide +kernel
theorem dX6_meets_107 : decode cX6_meets 107 = .ok (.istore 5, 2) := by decide +kernel
theorem dX6_meets_109 : decode cX6_meets 109 = .ok (.iload 5, 2) := by decide +kernel
theorem dX6_meets_111 : decode cX6_meets 111 = .ok (.iconst 4, 1) := by decide +kernel
theorem dX6_meets_112 : decode cX6_meets 112 = .ok (.if_icmp .ge 32, 3) := by decide +kernel
theorem dX6_meets_115 : decode cX6_meets 115 = .ok (.lload_n 3, 1) := by decide +kernel
theorem dX6_meets_116 : decode cX6_meets 116 = .ok (.aload_n 0, 1) := by decide +kernel
theorem dX6_meets_117 : decode cX6_meets 117 = .ok (.getfield 29, 3) := by decide +kernel
theorem dX6_meets_120 : decode cX6_meets 120 = .ok (.iconst 5, 1) := by decide +kernel
theorem dX6_meets_121 : decode cX6_meets 121 = .ok (.iload_n 2, 1) := by decide +kernel
theorem dX6_meets_122 : decode cX6_meets 122 = .ok (.imul, 1) := by decide +kernel
theorem dX6_meets_123 : decode cX6_meets 123 = .ok (.iload 5, 2) := by decide +kernel
theorem dX6_meets_125 : decode cX6_meets 125 = .ok (.iadd, 1) := by decide +kernel
theorem dX6_meets_126 : decode cX6_meets 126 = .ok (.iaload, 1) := by decide +kernel
theorem dX6_meets_127 : decode cX6_meets 127 = .ok (.i2l, 1) := by decide +kernel
theorem dX6_meets_128 : decode cX6_meets 128 = .ok (.aload_n 0, 1) := by decide +kernel
theorem dX6_meets_129 : decode cX6_meets 129 = .ok (.getfield 35, 3) := by decide +kernel
theorem dX6_meets_132 : decode cX6_meets 132 = .ok (.iload 5, 2) := by decide +kernel
theorem dX6_meets_134 : decode cX6_meets 134 = .ok (.laload, 1) := by decide +kernel
theorem dX6_meets_135 : decode cX6_meets 135 = .ok (.lmul, 1) := by decide +kernel
theorem dX6_meets_136 : decode cX6_meets 136 = .ok (.ladd, 1) := by decide +kernel
theorem dX6_meets_137 : decode cX6_meets 137 = .ok (.lstore_n 3, 1) := by decide +kernel
theorem dX6_meets_138 : decode cX6_meets 138 = .ok (.iinc 5 1, 3) := by decide +kernel
theorem dX6_meets_141 : decode cX6_meets 141 = .ok (.goto (-32), 3) := by decide +kernel
theorem dX6_meets_144 : decode cX6_meets 144 = .ok (.lload_n 3, 1) := by decide +kernel
theorem dX6_meets_145 : decode cX6_meets 145 = .ok (.aload_n 0, 1) := by decide +kernel
theorem dX6_meets_146 : decode cX6_meets 146 = .ok (.getfield 29, 3) := by decide +kernel
theorem dX6_meets_149 : decode cX6_meets 149 = .ok (.iconst 5, 1) := by decide +kernel
theorem dX6_meets_150 : decode cX6_meets 150 = .ok (.iload_n 2, 1) := by decide +kernel
theorem dX6_meets_151 : decode cX6_meets 151 = .ok (.imul, 1) := by decide +kernel
theorem dX6_meets_152 : decode cX6_meets 152 = .ok (.iconst 4, 1) := by decide +kernel
theorem dX6_meets_153 : decode cX6_meets 153 = .ok (.iadd, 1) := by decide +kernel
theorem dX6_meets_154 : decode cX6_meets 154 = .ok (.iaload, 1) := by decide +kernel
theorem dX6_meets_155 : decode cX6_meets 155 = .ok (.i2l, 1) := by decide +kernel
theorem dX6_meets_156 : decode cX6_meets 156 = .ok (.aload_n 0, 1) := by decide +kernel
theorem dX6_meets_157 : decode cX6_meets 157 = .ok (.getfield 107, 3) := by decide +kernel
theorem dX6_meets_160 : decode cX6_meets 160 = .ok (.lmul, 1) := by decide +kernel
theorem dX6_meets_161 : decode cX6_meets 161 = .ok (.lcmp, 1) := by decide +kernel
theorem dX6_meets_162 : decode cX6_meets 162 = .ok (.ifCond .gt 7, 3) := by decide +kernel
theorem dX6_meets_165 : decode cX6_meets 165 = .ok (.iconst 1, 1) := by decide +kernel
theorem dX6_meets_166 : decode cX6_meets 166 = .ok (.goto 4, 3) := by decide +kernel
theorem dX6_meets_169 : decode cX6_meets 169 = .ok (.iconst 0, 1) := by decide +kernel
theorem dX6_meets_170 : decode cX6_meets 170 = .ok (.istore_n 1, 1) := by decide +kernel
theorem dX6_meets_171 : decode cX6_meets 171 = .ok (.iinc 2 1, 3) := by decide +kernel
theorem dX6_meets_174 : decode cX6_meets 174 = .ok (.goto (-82), 3) := by decide +kernel
theorem dX6_meets_177 : decode cX6_meets 177 = .ok (.iload_n 1, 1) := by decide +kernel
theorem dX6_meets_178 : decode cX6_meets 178 = .ok (.ireturn, 1) := by decide +kernel
theorem dX6_search_0 : decode cX6_search 0 = .ok (.aload_n 0, 1) := by decide +kernel
theorem dX6_search_1 : decode cX6_search 1 = .ok (.lconst 0, 1) := by decide +kernel
theorem dX6_search_2 : decode cX6_search 2 = .ok (.putfield 111, 3) := by decide +kernel
theorem dX6_search_5 : decode cX6_search 5 = .ok (.iconst 0, 1) := by decide +kernel
theorem dX6_search_6 : decode cX6_search 6 = .ok (.istore_n 1, 1) := by decide +kernel
theorem dX6_search_7 : decode cX6_search 7 = .ok (.iload_n 1, 1) := by decide +kernel
theorem dX6_search_8 : decode cX6_search 8 = .ok (.aload_n 0, 1) := by decide +kernel
theorem dX6_search_9 : decode cX6_search 9 = .ok (.getfield 100, 3) := by decide +kernel
theorem dX6_search_12 : decode cX6_search 12 = .ok (.if_icmp .ge 105, 3) := by decide +kernel
theorem dX6_search_15 : decode cX6_search 15 = .ok (.iload_n 1, 1) := by decide +kernel
theorem dX6_search_16 : decode cX6_search 16 = .ok (.iconst 1, 1) := by decide +kernel
theorem dX6_search_17 : decode cX6_search 17 = .ok (.iadd, 1) := by decide +kernel
theorem dX6_search_18 : decode cX6_search 18 = .ok (.istore_n 2, 1) := by decide +kernel
theorem dX6_search_19 : decode cX6_search 19 = .ok (.iload_n 2, 1) := by decide +kernel
theorem dX6_search_20 : decode cX6_search 20 = .ok (.aload_n 0, 1) := by decide +kernel
theorem dX6_search_21 : decode cX6_search 21 = .ok (.getfield 100, 3) := by decide +kernel
theorem dX6_search_24 : decode cX6_search 24 = .ok (.if_icmp .ge 87, 3) := by decide +kernel
theorem dX6_search_27 : decode cX6_search 27 = .ok (.iload_n 2, 1) := by decide +kernel
theorem dX6_search_28 : decode cX6_search 28 = .ok (.iconst 1, 1) := by decide +kernel
theorem dX6_search_29 : decode cX6_search 29 = .ok (.iadd, 1) := by decide +kernel
theorem dX6_search_30 : decode cX6_search 30 = .ok (.istore_n 3, 1) := by decide +kernel
theorem dX6_search_31 : decode cX6_search 31 = .ok (.iload_n 3, 1) := by decide +kernel
theorem dX6_search_32 : decode cX6_search 32 = .ok (.aload_n 0, 1) := by decide +kernel
theorem dX6_search_33 : decode cX6_search 33 = .ok (.getfield 100, 3) := by decide +kernel
theorem dX6_search_36 : decode cX6_search 36 = .ok (.if_icmp .ge 69, 3) := by decide +kernel
theorem dX6_search_39 : decode cX6_search 39 = .ok (.iload_n 3, 1) := by decide +kernel
theorem dX6_search_40 : decode cX6_search 40 = .ok (.iconst 1, 1) := by decide +kernel
theorem dX6_search_41 : decode cX6_search 41 = .ok (.iadd, 1) := by decide +kernel
theorem dX6_search_42 : decode cX6_search 42 = .ok (.istore 4, 2) := by decide +kernel
theorem dX6_search_44 : decode cX6_search 44 = .ok (.iload 4, 2) := by decide +kernel
theorem dX6_search_46 : decode cX6_search 46 = .ok (.aload_n 0, 1) := by decide +kernel
theorem dX6_search_47 : decode cX6_search 47 = .ok (.getfield 100, 3) := by decide +kernel
theorem dX6_search_50 : decode cX6_search 50 = .ok (.if_icmp .ge 49, 3) := by decide +kernel
theorem dX6_search_53 : decode cX6_search 53 = .ok (.aload_n 0, 1) := by decide +kernel
theorem dX6_search_54 : decode cX6_search 54 = .ok (.getfield 32, 3) := by decide +kernel
theorem dX6_search_57 : decode cX6_search 57 = .ok (.iconst 0, 1) := by decide +kernel
theorem dX6_search_58 : decode cX6_search 58 = .ok (.iload_n 1, 1) := by decide +kernel
theorem dX6_search_59 : decode cX6_search 59 = .ok (.iastore, 1) := by decide +kernel
theorem dX6_search_60 : decode cX6_search 60 = .ok (.aload_n 0, 1) := by decide +kernel
theorem dX6_search_61 : decode cX6_search 61 = .ok (.getfield 32, 3) := by decide +kernel
theorem dX6_search_64 : decode cX6_search 64 = .ok (.iconst 1, 1) := by decide +kernel
theorem dX6_search_65 : decode cX6_search 65 = .ok (.iload_n 2, 1) := by decide +kernel
theorem dX6_search_66 : decode cX6_search 66 = .ok (.iastore, 1) := by decide +kernel
theorem dX6_search_67 : decode cX6_search 67 = .ok (.aload_n 0, 1) := by decide +kernel
theorem dX6_search_68 : decode cX6_search 68 = .ok (.getfield 32, 3) := by decide +kernel
theorem dX6_search_71 : decode cX6_search 71 = .ok (.iconst 2, 1) := by decide +kernel
theorem dX6_search_72 : decode cX6_search 72 = .ok (.iload_n 3, 1) := by decide +kernel
theorem dX6_search_73 : decode cX6_search 73 = .ok (.iastore, 1) := by decide +kernel
theorem dX6_search_74 : decode cX6_search 74 = .ok (.aload_n 0, 1) := by decide +kernel
theorem dX6_search_75 : decode cX6_search 75 = .ok (.getfield 32, 3) := by decide +kernel
theorem dX6_search_78 : decode cX6_search 78 = .ok (.iconst 3, 1) := by decide +kernel
theorem dX6_search_79 : decode cX6_search 79 = .ok (.iload 4, 2) := by decide +kernel
theorem dX6_search_81 : decode cX6_search 81 = .ok (.iastore, 1) := by decide +kernel
theorem dX6_search_82 : decode cX6_search 82 = .ok (.aload_n 0, 1) := by decide +kernel
theorem dX6_search_83 : decode cX6_search 83 = .ok (.invokevirtual 114, 3) := by decide +kernel
theorem dX6_search_86 : decode cX6_search 86 = .ok (.ifCond .eq 7, 3) := by decide +kernel
theorem dX6_search_89 : decode cX6_search 89 = .ok (.aload_n 0, 1) := by decide +kernel
theorem dX6_search_90 : decode cX6_search 90 = .ok (.invokevirtual 118, 3) := by decide +kernel
theorem dX6_search_93 : decode cX6_search 93 = .ok (.iinc 4 1, 3) := by decide +kernel
theorem dX6_search_96 : decode cX6_search 96 = .ok (.goto (-52), 3) := by decide +kernel
theorem dX6_search_99 : decode cX6_search 99 = .ok (.iinc 3 1, 3) := by decide +kernel
theorem dX6_search_102 : decode cX6_search 102 = .ok (.goto (-71), 3) := by decide +kernel
theorem dX6_search_105 : decode cX6_search 105 = .ok (.iinc 2 1, 3) := by decide +kernel
theorem dX6_search_108 : decode cX6_search 108 = .ok (.goto (-89), 3) := by decide +kernel
theorem dX6_search_111 : decode cX6_search 111 = .ok (.iinc 1 1, 3) := by decide +kernel
theorem dX6_search_114 : decode cX6_search 114 = .ok (.goto (-107), 3) := by decide +kernel
theorem dX6_search_117 : decode cX6_search 117 = .ok (.return_, 1) := by decide +kernel
theorem dX6_offer_0 : decode cX6_offer 0 = .ok (.lconst 0, 1) := by decide +kernel
theorem dX6_offer_1 : decode cX6_offer 1 = .ok (.lstore_n 1, 1) := by decide +kernel
theorem dX6_offer_2 : decode cX6_offer 2 = .ok (.iconst 0, 1) := by decide +kernel
theorem dX6_offer_3 : decode cX6_offer 3 = .ok (.istore_n 3, 1) := by decide +kernel
theorem dX6_offer_4 : decode cX6_offer 4 = .ok (.iload_n 3, 1) := by decide +kernel
theorem dX6_offer_5 : decode cX6_offer 5 = .ok (.iconst 4, 1) := by decide +kernel
theorem dX6_offer_6 : decode cX6_offer 6 = .ok (.if_icmp .ge 25, 3) := by decide +kernel
theorem dX6_offer_9 : decode cX6_offer 9 = .ok (.lload_n 1, 1) := by decide +kernel
theorem dX6_offer_10 : decode cX6_offer 10 = .ok (.aload_n 0, 1) := by decide +kernel
theorem dX6_offer_11 : decode cX6_offer 11 = .ok (.iload_n 3, 1) := by decide +kernel
theorem dX6_offer_12 : decode cX6_offer 12 = .ok (.invokevirtual 66, 3) := by decide +kernel
theorem dX6_offer_15 : decode cX6_offer 15 = .ok (.i2l, 1) := by decide +kernel
theorem dX6_offer_16 : decode cX6_offer 16 = .ok (.aload_n 0, 1) := by decide +kernel
theorem dX6_offer_17 : decode cX6_offer 17 = .ok (.getfield 35, 3) := by decide +kernel
theorem dX6_offer_20 : decode cX6_offer 20 = .ok (.iload_n 3, 1) := by decide +kernel
theorem dX6_offer_21 : decode cX6_offer 21 = .ok (.laload, 1) := by decide +kernel
theorem dX6_offer_22 : decode cX6_offer 22 = .ok (.lmul, 1) := by decide +kernel
theorem dX6_offer_23 : decode cX6_offer 23 = .ok (.ladd, 1) := by decide +kernel
theorem dX6_offer_24 : decode cX6_offer 24 = .ok (.lstore_n 1, 1) := by decide +kernel
theorem dX6_offer_25 : decode cX6_offer 25 = .ok (.iinc 3 1, 3) := by decide +kernel
theorem dX6_offer_28 : decode cX6_offer 28 = .ok (.goto (-24), 3) := by decide +kernel
theorem dX6_offer_31 : decode cX6_offer 31 = .ok (.aload_n 0, 1) := by decide +kernel
theorem dX6_offer_32 : decode cX6_offer 32 = .ok (.getfield 111, 3) := by decide +kernel
theorem dX6_offer_35 : decode cX6_offer 35 = .ok (.lconst 0, 1) := by decide +kernel
theorem dX6_offer_36 : decode cX6_offer 36 = .ok (.lcmp, 1) := by decide +kernel
theorem dX6_offer_37 : decode cX6_offer 37 = .ok (.ifCond .eq 22, 3) := by decide +kernel
theorem dX6_offer_40 : decode cX6_offer 40 = .ok (.lload_n 1, 1) := by decide +kernel
theorem dX6_offer_41 : decode cX6_offer 41 = .ok (.aload_n 0, 1) := by decide +kernel
theorem dX6_offer_42 : decode cX6_offer 42 = .ok (.getfield 111, 3) := by decide +kernel
theorem dX6_offer_45 : decode cX6_offer 45 = .ok (.lmul, 1) := by decide +kernel
theorem dX6_offer_46 : decode cX6_offer 46 = .ok (.aload_n 0, 1) := by decide +kernel
theorem dX6_offer_47 : decode cX6_offer 47 = .ok (.getfield 121, 3) := by decide +kernel
theorem dX6_offer_50 : decode cX6_offer 50 = .ok (.aload_n 0, 1) := by decide +kernel
theorem dX6_offer_51 : decode cX6_offer 51 = .ok (.getfield 107, 3) := by decide +kernel
theorem dX6_offer_54 : decode cX6_offer 54 = .ok (.lmul, 1) := by decide +kernel
theorem dX6_offer_55 : decode cX6_offer 55 = .ok (.lcmp, 1) := by decide +kernel
theorem dX6_offer_56 : decode cX6_offer 56 = .ok (.ifCond .le 41, 3) := by decide +kernel
theorem dX6_offer_59 : decode cX6_offer 59 = .ok (.aload_n 0, 1) := by decide +kernel
theorem dX6_offer_60 : decode cX6_offer 60 = .ok (.lload_n 1, 1) := by decide +kernel
theorem dX6_offer_61 : decode cX6_offer 61 = .ok (.putfield 121, 3) := by decide +kernel
theorem dX6_offer_64 : decode cX6_offer 64 = .ok (.aload_n 0, 1) := by decide +kernel
theorem dX6_offer_65 : decode cX6_offer 65 = .ok (.aload_n 0, 1) := by decide +kernel
theorem dX6_offer_66 : decode cX6_offer 66 = .ok (.getfield 107, 3) := by decide +kernel
theorem dX6_offer_69 : decode cX6_offer 69 = .ok (.putfield 111, 3) := by decide +kernel
theorem dX6_offer_72 : decode cX6_offer 72 = .ok (.iconst 0, 1) := by decide +kernel
theorem dX6_offer_73 : decode cX6_offer 73 = .ok (.istore_n 3, 1) := by decide +kernel
theorem dX6_offer_74 : decode cX6_offer 74 = .ok (.iload_n 3, 1) := by decide +kernel
theorem dX6_offer_75 : decode cX6_offer 75 = .ok (.iconst 4, 1) := by decide +kernel
theorem dX6_offer_76 : decode cX6_offer 76 = .ok (.if_icmp .ge 21, 3) := by decide +kernel
theorem dX6_offer_79 : decode cX6_offer 79 = .ok (.aload_n 0, 1) := by decide +kernel
theorem dX6_offer_80 : decode cX6_offer 80 = .ok (.getfield 39, 3) := by decide +kernel
theorem dX6_offer_83 : decode cX6_offer 83 = .ok (.iload_n 3, 1) := by decide +kernel
theorem dX6_offer_84 : decode cX6_offer 84 = .ok (.aload_n 0, 1) := by decide +kernel
theorem dX6_offer_85 : decode cX6_offer 85 = .ok (.getfield 35, 3) := by decide +kernel
theorem dX6_offer_88 : decode cX6_offer 88 = .ok (.iload_n 3, 1) := by decide +kernel
theorem dX6_offer_89 : decode cX6_offer 89 = .ok (.laload, 1) := by decide +kernel
theorem dX6_offer_90 : decode cX6_offer 90 = .ok (.lastore, 1) := by decide +kernel
theorem dX6_offer_91 : decode cX6_offer 91 = .ok (.iinc 3 1, 3) := by decide +kernel
theorem dX6_offer_94 : decode cX6_offer 94 = .ok (.goto (-20), 3) := by decide +kernel
theorem dX6_offer_97 : decode cX6_offer 97 = .ok (.return_, 1) := by decide +kernel
theorem dX6_learnFloor_0 : decode cX6_learnFloor 0 = .ok (.aload_n 0, 1) := by decide +kernel
theorem dX6_learnFloor_1 : decode cX6_learnFloor 1 = .ok (.getfield 49, 3) := by decide +kernel
theorem dX6_learnFloor_4 : decode cX6_learnFloor 4 = .ok (.ifCond .eq 4, 3) := by decide +kernel
theorem dX6_learnFloor_7 : decode cX6_learnFloor 7 = .ok (.return_, 1) := by decide +kernel
theorem dX6_learnFloor_8 : decode cX6_learnFloor 8 = .ok (.aload_n 0, 1) := by decide +kernel
theorem dX6_learnFloor_9 : decode cX6_learnFloor 9 = .ok (.iconst 1, 1) := by decide +kernel
theorem dX6_learnFloor_10 : decode cX6_learnFloor 10 = .ok (.putfield 49, 3) := by decide +kernel
theorem dX6_learnFloor_13 : decode cX6_learnFloor 13 = .ok (.aload_n 0, 1) := by decide +kernel
theorem dX6_learnFloor_14 : decode cX6_learnFloor 14 = .ok (.iconst 0, 1) := by decide +kernel
theorem dX6_learnFloor_15 : decode cX6_learnFloor 15 = .ok (.putfield 100, 3) := by decide +kernel
theorem dX6_learnFloor_18 : decode cX6_learnFloor 18 = .ok (.iconst 0, 1) := by decide +kernel
theorem dX6_learnFloor_19 : decode cX6_learnFloor 19 = .ok (.istore_n 1, 1) := by decide +kernel
theorem dX6_learnFloor_20 : decode cX6_learnFloor 20 = .ok (.iload_n 1, 1) := by decide +kernel
theorem dX6_learnFloor_21 : decode cX6_learnFloor 21 = .ok (.iconst 4, 1) := by decide +kernel
theorem dX6_learnFloor_22 : decode cX6_learnFloor 22 = .ok (.if_icmp .ge 53, 3) := by decide +kernel
theorem dX6_learnFloor_25 : decode cX6_learnFloor 25 = .ok (.aload_n 0, 1) := by decide +kernel
theorem dX6_learnFloor_26 : decode cX6_learnFloor 26 = .ok (.iload_n 1, 1) := by decide +kernel
theorem dX6_learnFloor_27 : decode cX6_learnFloor 27 = .ok (.ifCond .ne 7, 3) := by decide +kernel
theorem dX6_learnFloor_30 : decode cX6_learnFloor 30 = .ok (.iconst (-1), 1) := by decide +kernel
theorem dX6_learnFloor_31 : decode cX6_learnFloor 31 = .ok (.goto 4, 3) := by decide +kernel
theorem dX6_learnFloor_34 : decode cX6_learnFloor 34 = .ok (.iconst 0, 1) := by decide +kernel
theorem dX6_learnFloor_35 : decode cX6_learnFloor 35 = .ok (.iload_n 1, 1) := by decide +kernel
theorem dX6_learnFloor_36 : decode cX6_learnFloor 36 = .ok (.iconst 1, 1) := by decide +kernel
theorem dX6_learnFloor_37 : decode cX6_learnFloor 37 = .ok (.if_icmp .ne 7, 3) := by decide +kernel
theorem dX6_learnFloor_40 : decode cX6_learnFloor 40 = .ok (.iconst (-1), 1) := by decide +kernel
theorem dX6_learnFloor_41 : decode cX6_learnFloor 41 = .ok (.goto 4, 3) := by decide +kernel
theorem dX6_learnFloor_44 : decode cX6_learnFloor 44 = .ok (.iconst 0, 1) := by decide +kernel
theorem dX6_learnFloor_45 : decode cX6_learnFloor 45 = .ok (.iload_n 1, 1) := by decide +kernel
theorem dX6_learnFloor_46 : decode cX6_learnFloor 46 = .ok (.iconst 2, 1) := by decide +kernel
theorem dX6_learnFloor_47 : decode cX6_learnFloor 47 = .ok (.if_icmp .ne 7, 3) := by decide +kernel
theorem dX6_learnFloor_50 : decode cX6_learnFloor 50 = .ok (.iconst (-1), 1) := by decide +kernel
theorem dX6_learnFloor_51 : decode cX6_learnFloor 51 = .ok (.goto 4, 3) := by decide +kernel
theorem dX6_learnFloor_54 : decode cX6_learnFloor 54 = .ok (.iconst 0, 1) := by decide +kernel
theorem dX6_learnFloor_55 : decode cX6_learnFloor 55 = .ok (.iload_n 1, 1) := by decide +kernel
theorem dX6_learnFloor_56 : decode cX6_learnFloor 56 = .ok (.iconst 3, 1) := by decide +kernel
theorem dX6_learnFloor_57 : decode cX6_learnFloor 57 = .ok (.if_icmp .ne 7, 3) := by decide +kernel
theorem dX6_learnFloor_60 : decode cX6_learnFloor 60 = .ok (.iconst (-1), 1) := by decide +kernel
theorem dX6_learnFloor_61 : decode cX6_learnFloor 61 = .ok (.goto 4, 3) := by decide +kernel
theorem dX6_learnFloor_64 : decode cX6_learnFloor 64 = .ok (.iconst 0, 1) := by decide +kernel
theorem dX6_learnFloor_65 : decode cX6_learnFloor 65 = .ok (.iconst 0, 1) := by decide +kernel
theorem dX6_learnFloor_66 : decode cX6_learnFloor 66 = .ok (.invokevirtual 124, 3) := by decide +kernel
theorem dX6_learnFloor_69 : decode cX6_learnFloor 69 = .ok (.iinc 1 1, 3) := by decide +kernel
theorem dX6_learnFloor_72 : decode cX6_learnFloor 72 = .ok (.goto (-52), 3) := by decide +kernel
theorem dX6_learnFloor_75 : decode cX6_learnFloor 75 = .ok (.iconst 0, 1) := by decide +kernel
theorem dX6_learnFloor_76 : decode cX6_learnFloor 76 = .ok (.istore_n 1, 1) := by decide +kernel
theorem dX6_learnFloor_77 : decode cX6_learnFloor 77 = .ok (.iload_n 1, 1) := by decide +kernel
theorem dX6_learnFloor_78 : decode cX6_learnFloor 78 = .ok (.iconst 4, 1) := by decide +kernel
theorem dX6_learnFloor_79 : decode cX6_learnFloor 79 = .ok (.if_icmp .ge 77, 3) := by decide +kernel
theorem dX6_learnFloor_82 : decode cX6_learnFloor 82 = .ok (.iload_n 1, 1) := by decide +kernel
theorem dX6_learnFloor_83 : decode cX6_learnFloor 83 = .ok (.aload_n 0, 1) := by decide +kernel
theorem dX6_learnFloor_84 : decode cX6_learnFloor 84 = .ok (.getfield 52, 3) := by decide +kernel
theorem dX6_learnFloor_87 : decode cX6_learnFloor 87 = .ok (.if_icmp .ge 17, 3) := by decide +kernel
theorem dX6_learnFloor_90 : decode cX6_learnFloor 90 = .ok (.aload_n 0, 1) := by decide +kernel
theorem dX6_learnFloor_91 : decode cX6_learnFloor 91 = .ok (.getfield 7, 3) := by decide +kernel
theorem dX6_learnFloor_94 : decode cX6_learnFloor 94 = .ok (.aload_n 0, 1) := by decide +kernel
theorem dX6_learnFloor_95 : decode cX6_learnFloor 95 = .ok (.getfield 13, 3) := by decide +kernel
theorem dX6_learnFloor_98 : decode cX6_learnFloor 98 = .ok (.iload_n 1, 1) := by decide +kernel
theorem dX6_learnFloor_99 : decode cX6_learnFloor 99 = .ok (.iaload, 1) := by decide +kernel
theorem dX6_learnFloor_100 : decode cX6_learnFloor 100 = .ok (.idiv, 1) := by decide +kernel
theorem dX6_learnFloor_101 : decode cX6_learnFloor 101 = .ok (.goto 4, 3) := by decide +kernel
theorem dX6_learnFloor_104 : decode cX6_learnFloor 104 = .ok (.iconst 1, 1) := by decide +kernel
theorem dX6_learnFloor_105 : decode cX6_learnFloor 105 = .ok (.istore_n 2, 1) := by decide +kernel
theorem dX6_learnFloor_106 : decode cX6_learnFloor 106 = .ok (.aload_n 0, 1) := by decide +kernel
theorem dX6_learnFloor_107 : decode cX6_learnFloor 107 = .ok (.iload_n 1, 1) := by decide +kernel
theorem dX6_learnFloor_108 : decode cX6_learnFloor 108 = .ok (.ifCond .ne 7, 3) := by decide +kernel
theorem dX6_learnFloor_111 : decode cX6_learnFloor 111 = .ok (.iload_n 2, 1) := by decide +kernel
theorem dX6_learnFloor_112 : decode cX6_learnFloor 112 = .ok (.goto 4, 3) := by decide +kernel
theorem dX6_learnFloor_115 : decode cX6_learnFloor 115 = .ok (.iconst 0, 1) := by decide +kernel
theorem dX6_learnFloor_116 : decode cX6_learnFloor 116 = .ok (.iload_n 1, 1) := by decide +kernel
theorem dX6_learnFloor_117 : decode cX6_learnFloor 117 = .ok (.iconst 1, 1) := by decide +kernel
theorem dX6_learnFloor_118 : decode cX6_learnFloor 118 = .ok (.if_icmp .ne 7, 3) := by decide +kernel
theorem dX6_learnFloor_121 : decode cX6_learnFloor 121 = .ok (.iload_n 2, 1) := by decide +kernel
theorem dX6_learnFloor_122 : decode cX6_learnFloor 122 = .ok (.goto 4, 3) := by decide +kernel
theorem dX6_learnFloor_125 : decode cX6_learnFloor 125 = .ok (.iconst 0, 1) := by decide +kernel
theorem dX6_learnFloor_126 : decode cX6_learnFloor 126 = .ok (.iload_n 1, 1) := by decide +kernel
theorem dX6_learnFloor_127 : decode cX6_learnFloor 127 = .ok (.iconst 2, 1) := by decide +kernel
theorem dX6_learnFloor_128 : decode cX6_learnFloor 128 = .ok (.if_icmp .ne 7, 3) := by decide +kernel
theorem dX6_learnFloor_131 : decode cX6_learnFloor 131 = .ok (.iload_n 2, 1) := by decide +kernel
theorem dX6_learnFloor_132 : decode cX6_learnFloor 132 = .ok (.goto 4, 3) := by decide +kernel
theorem dX6_learnFloor_135 : decode cX6_learnFloor 135 = .ok (.iconst 0, 1) := by decide +kernel
theorem dX6_learnFloor_136 : decode cX6_learnFloor 136 = .ok (.iload_n 1, 1) := by decide +kernel
theorem dX6_learnFloor_137 : decode cX6_learnFloor 137 = .ok (.iconst 3, 1) := by decide +kernel
theorem dX6_learnFloor_138 : decode cX6_learnFloor 138 = .ok (.if_icmp .ne 7, 3) := by decide +kernel
theorem dX6_learnFloor_141 : decode cX6_learnFloor 141 = .ok (.iload_n 2, 1) := by decide +kernel
theorem dX6_learnFloor_142 : decode cX6_learnFloor 142 = .ok (.goto 4, 3) := by decide +kernel
theorem dX6_learnFloor_145 : decode cX6_learnFloor 145 = .ok (.iconst 0, 1) := by decide +kernel
theorem dX6_learnFloor_146 : decode cX6_learnFloor 146 = .ok (.iconst 1, 1) := by decide +kernel
theorem dX6_learnFloor_147 : decode cX6_learnFloor 147 = .ok (.invokevirtual 124, 3) := by decide +kernel
theorem dX6_learnFloor_150 : decode cX6_learnFloor 150 = .ok (.iinc 1 1, 3) := by decide +kernel
theorem dX6_learnFloor_153 : decode cX6_learnFloor 153 = .ok (.goto (-76), 3) := by decide +kernel
theorem dX6_learnFloor_156 : decode cX6_learnFloor 156 = .ok (.aload_n 0, 1) := by decide +kernel
theorem dX6_learnFloor_157 : decode cX6_learnFloor 157 = .ok (.invokevirtual 128, 3) := by decide +kernel
theorem dX6_learnFloor_160 : decode cX6_learnFloor 160 = .ok (.aload_n 0, 1) := by decide +kernel
theorem dX6_learnFloor_161 : decode cX6_learnFloor 161 = .ok (.getfield 100, 3) := by decide +kernel
theorem dX6_learnFloor_164 : decode cX6_learnFloor 164 = .ok (.sipush 200, 3) := by decide +kernel
theorem dX6_learnFloor_167 : decode cX6_learnFloor 167 = .ok (.if_icmp .ge 75, 3) := by decide +kernel
theorem dX6_learnFloor_170 : decode cX6_learnFloor 170 = .ok (.aload_n 0, 1) := by decide +kernel
theorem dX6_learnFloor_171 : decode cX6_learnFloor 171 = .ok (.aload_n 0, 1) := by decide +kernel
theorem dX6_learnFloor_172 : decode cX6_learnFloor 172 = .ok (.getfield 39, 3) := by decide +kernel
theorem dX6_learnFloor_175 : decode cX6_learnFloor 175 = .ok (.iconst 0, 1) := by decide +kernel
theorem dX6_learnFloor_176 : decode cX6_learnFloor 176 = .ok (.laload, 1) := by decide +kernel
theorem dX6_learnFloor_177 : decode cX6_learnFloor 177 = .ok (.aload_n 0, 1) := by decide +kernel
theorem dX6_learnFloor_178 : decode cX6_learnFloor 178 = .ok (.getfield 39, 3) := by decide +kernel
theorem dX6_learnFloor_181 : decode cX6_learnFloor 181 = .ok (.iconst 1, 1) := by decide +kernel
theorem dX6_learnFloor_182 : decode cX6_learnFloor 182 = .ok (.laload, 1) := by decide +kernel
theorem dX6_learnFloor_183 : decode cX6_learnFloor 183 = .ok (.aload_n 0, 1) := by decide +kernel
theorem dX6_learnFloor_184 : decode cX6_learnFloor 184 = .ok (.getfield 39, 3) := by decide +kernel
theorem dX6_learnFloor_187 : decode cX6_learnFloor 187 = .ok (.iconst 2, 1) := by decide +kernel
theorem dX6_learnFloor_188 : decode cX6_learnFloor 188 = .ok (.laload, 1) := by decide +kernel
theorem dX6_learnFloor_189 : decode cX6_learnFloor 189 = .ok (.aload_n 0, 1) := by decide +kernel
theorem dX6_learnFloor_190 : decode cX6_learnFloor 190 = .ok (.getfield 39, 3) := by decide +kernel
theorem dX6_learnFloor_193 : decode cX6_learnFloor 193 = .ok (.iconst 3, 1) := by decide +kernel
theorem dX6_learnFloor_194 : decode cX6_learnFloor 194 = .ok (.laload, 1) := by decide +kernel
theorem dX6_learnFloor_195 : decode cX6_learnFloor 195 = .ok (.invokevirtual 96, 3) := by decide +kernel
theorem dX6_learnFloor_198 : decode cX6_learnFloor 198 = .ok (.aload_n 0, 1) := by decide +kernel
theorem dX6_learnFloor_199 : decode cX6_learnFloor 199 = .ok (.getfield 111, 3) := by decide +kernel
theorem dX6_learnFloor_202 : decode cX6_learnFloor 202 = .ok (.lcmp, 1) := by decide +kernel
theorem dX6_learnFloor_203 : decode cX6_learnFloor 203 = .ok (.ifCond .le 39, 3) := by decide +kernel
theorem dX6_learnFloor_206 : decode cX6_learnFloor 206 = .ok (.aload_n 0, 1) := by decide +kernel
theorem dX6_learnFloor_207 : decode cX6_learnFloor 207 = .ok (.aload_n 0, 1) := by decide +kernel
theorem dX6_learnFloor_208 : decode cX6_learnFloor 208 = .ok (.getfield 26, 3) := by decide +kernel
theorem dX6_learnFloor_211 : decode cX6_learnFloor 211 = .ok (.iconst 0, 1) := by decide +kernel
theorem dX6_learnFloor_212 : decode cX6_learnFloor 212 = .ok (.iaload, 1) := by decide +kernel
theorem dX6_learnFloor_213 : decode cX6_learnFloor 213 = .ok (.aload_n 0, 1) := by decide +kernel
theorem dX6_learnFloor_214 : decode cX6_learnFloor 214 = .ok (.getfield 26, 3) := by decide +kernel
theorem dX6_learnFloor_217 : decode cX6_learnFloor 217 = .ok (.iconst 1, 1) := by decide +kernel
theorem dX6_learnFloor_218 : decode cX6_learnFloor 218 = .ok (.iaload, 1) := by decide +kernel
theorem dX6_learnFloor_219 : decode cX6_learnFloor 219 = .ok (.aload_n 0, 1) := by decide +kernel
theorem dX6_learnFloor_220 : decode cX6_learnFloor 220 = .ok (.getfield 26, 3) := by decide +kernel
theorem dX6_learnFloor_223 : decode cX6_learnFloor 223 = .ok (.iconst 2, 1) := by decide +kernel
theorem dX6_learnFloor_224 : decode cX6_learnFloor 224 = .ok (.iaload, 1) := by decide +kernel
theorem dX6_learnFloor_225 : decode cX6_learnFloor 225 = .ok (.aload_n 0, 1) := by decide +kernel
theorem dX6_learnFloor_226 : decode cX6_learnFloor 226 = .ok (.getfield 26, 3) := by decide +kernel
theorem dX6_learnFloor_229 : decode cX6_learnFloor 229 = .ok (.iconst 3, 1) := by decide +kernel
theorem dX6_learnFloor_230 : decode cX6_learnFloor 230 = .ok (.iaload, 1) := by decide +kernel
theorem dX6_learnFloor_231 : decode cX6_learnFloor 231 = .ok (.iconst 1, 1) := by decide +kernel
theorem dX6_learnFloor_232 : decode cX6_learnFloor 232 = .ok (.invokevirtual 124, 3) := by decide +kernel
theorem dX6_learnFloor_235 : decode cX6_learnFloor 235 = .ok (.aload_n 0, 1) := by decide +kernel
theorem dX6_learnFloor_236 : decode cX6_learnFloor 236 = .ok (.invokevirtual 128, 3) := by decide +kernel
theorem dX6_learnFloor_239 : decode cX6_learnFloor 239 = .ok (.goto (-79), 3) := by decide +kernel
theorem dX6_learnFloor_242 : decode cX6_learnFloor 242 = .ok (.aload_n 0, 1) := by decide +kernel
theorem dX6_learnFloor_243 : decode cX6_learnFloor 243 = .ok (.getfield 121, 3) := by decide +kernel
theorem dX6_learnFloor_246 : decode cX6_learnFloor 246 = .ok (.lstore_n 1, 1) := by decide +kernel
theorem dX6_learnFloor_247 : decode cX6_learnFloor 247 = .ok (.aload_n 0, 1) := by decide +kernel
theorem dX6_learnFloor_248 : decode cX6_learnFloor 248 = .ok (.getfield 111, 3) := by decide +kernel
theorem dX6_learnFloor_251 : decode cX6_learnFloor 251 = .ok (.lstore_n 3, 1) := by decide +kernel
theorem dX6_learnFloor_252 : decode cX6_learnFloor 252 = .ok (.lload_n 1, 1) := by decide +kernel
theorem dX6_learnFloor_253 : decode cX6_learnFloor 253 = .ok (.lconst 0, 1) := by decide +kernel
theorem dX6_learnFloor_254 : decode cX6_learnFloor 254 = .ok (.lcmp, 1) := by decide +kernel
theorem dX6_learnFloor_255 : decode cX6_learnFloor 255 = .ok (.ifCond .le 16, 3) := by decide +kernel
theorem dX6_learnFloor_258 : decode cX6_learnFloor 258 = .ok (.lload_n 3, 1) := by decide +kernel
theorem dX6_learnFloor_259 : decode cX6_learnFloor 259 = .ok (.lload_n 1, 1) := by decide +kernel
theorem dX6_learnFloor_260 : decode cX6_learnFloor 260 = .ok (.lrem, 1) := by decide +kernel
theorem dX6_learnFloor_261 : decode cX6_learnFloor 261 = .ok (.lstore 5, 2) := by decide +kernel
theorem dX6_learnFloor_263 : decode cX6_learnFloor 263 = .ok (.lload_n 1, 1) := by decide +kernel
theorem dX6_learnFloor_264 : decode cX6_learnFloor 264 = .ok (.lstore_n 3, 1) := by decide +kernel
theorem dX6_learnFloor_265 : decode cX6_learnFloor 265 = .ok (.lload 5, 2) := by decide +kernel
theorem dX6_learnFloor_267 : decode cX6_learnFloor 267 = .ok (.lstore_n 1, 1) := by decide +kernel
theorem dX6_learnFloor_268 : decode cX6_learnFloor 268 = .ok (.goto (-16), 3) := by decide +kernel
theorem dX6_learnFloor_271 : decode cX6_learnFloor 271 = .ok (.aload_n 0, 1) := by decide +kernel
theorem dX6_learnFloor_272 : decode cX6_learnFloor 272 = .ok (.aload_n 0, 1) := by decide +kernel
theorem dX6_learnFloor_273 : decode cX6_learnFloor 273 = .ok (.getfield 121, 3) := by decide +kernel
theorem dX6_learnFloor_276 : decode cX6_learnFloor 276 = .ok (.lload_n 3, 1) := by decide +kernel
theorem dX6_learnFloor_277 : decode cX6_learnFloor 277 = .ok (.ldiv, 1) := by decide +kernel
theorem dX6_learnFloor_278 : decode cX6_learnFloor 278 = .ok (.putfield 131, 3) := by decide +kernel
theorem dX6_learnFloor_281 : decode cX6_learnFloor 281 = .ok (.aload_n 0, 1) := by decide +kernel
theorem dX6_learnFloor_282 : decode cX6_learnFloor 282 = .ok (.aload_n 0, 1) := by decide +kernel
theorem dX6_learnFloor_283 : decode cX6_learnFloor 283 = .ok (.getfield 111, 3) := by decide +kernel
theorem dX6_learnFloor_286 : decode cX6_learnFloor 286 = .ok (.lload_n 3, 1) := by decide +kernel
theorem dX6_learnFloor_287 : decode cX6_learnFloor 287 = .ok (.ldiv, 1) := by decide +kernel
theorem dX6_learnFloor_288 : decode cX6_learnFloor 288 = .ok (.putfield 134, 3) := by decide +kernel
theorem dX6_learnFloor_291 : decode cX6_learnFloor 291 = .ok (.return_, 1) := by decide +kernel
theorem dX6_floorTop_0 : decode cX6_floorTop 0 = .ok (.aload_n 0, 1) := by decide +kernel
theorem dX6_floorTop_1 : decode cX6_floorTop 1 = .ok (.invokevirtual 137, 3) := by decide +kernel
theorem dX6_floorTop_4 : decode cX6_floorTop 4 = .ok (.aload_n 0, 1) := by decide +kernel
theorem dX6_floorTop_5 : decode cX6_floorTop 5 = .ok (.getfield 131, 3) := by decide +kernel
theorem dX6_floorTop_8 : decode cX6_floorTop 8 = .ok (.lreturn, 1) := by decide +kernel
theorem dX6_floorBottom_0 : decode cX6_floorBottom 0 = .ok (.aload_n 0, 1) := by decide +kernel
theorem dX6_floorBottom_1 : decode cX6_floorBottom 1 = .ok (.invokevirtual 137, 3) := by decide +kernel
theorem dX6_floorBottom_4 : decode cX6_floorBottom 4 = .ok (.aload_n 0, 1) := by decide +kernel
theorem dX6_floorBottom_5 : decode cX6_floorBottom 5 = .ok (.getfield 134, 3) := by decide +kernel
theorem dX6_floorBottom_8 : decode cX6_floorBottom 8 = .ok (.lreturn, 1) := by decide +kernel
theorem dJ9_min_7cf53_0 : decode cJ9_min_7cf53 0 = .ok (.iload_n 0, 1) := by decide +kernel
theorem dJ9_min_7cf53_1 : decode cJ9_min_7cf53 1 = .ok (.iload_n 1, 1) := by decide +kernel
theorem dJ9_min_7cf53_2 : decode cJ9_min_7cf53 2 = .ok (.if_icmp .gt 7, 3) := by decide +kernel
theorem dJ9_min_7cf53_5 : decode cJ9_min_7cf53 5 = .ok (.iload_n 0, 1) := by decide +kernel
theorem dJ9_min_7cf53_6 : decode cJ9_min_7cf53 6 = .ok (.goto 4, 3) := by decide +kernel
theorem dJ9_min_7cf53_9 : decode cJ9_min_7cf53 9 = .ok (.iload_n 1, 1) := by decide +kernel
theorem dJ9_min_7cf53_10 : decode cJ9_min_7cf53 10 = .ok (.ireturn, 1) := by decide +kernel
theorem dJ7_fill_d0a16_0 : decode cJ7_fill_d0a16 0 = .ok (.iconst 0, 1) := by decide +kernel
theorem dJ7_fill_d0a16_1 : decode cJ7_fill_d0a16 1 = .ok (.istore_n 3, 1) := by decide +kernel
theorem dJ7_fill_d0a16_2 : decode cJ7_fill_d0a16 2 = .ok (.aload_n 0, 1) := by decide +kernel
theorem dJ7_fill_d0a16_3 : decode cJ7_fill_d0a16 3 = .ok (.arraylength, 1) := by decide +kernel
theorem dJ7_fill_d0a16_4 : decode cJ7_fill_d0a16 4 = .ok (.istore 4, 2) := by decide +kernel
theorem dJ7_fill_d0a16_6 : decode cJ7_fill_d0a16 6 = .ok (.iload_n 3, 1) := by decide +kernel
theorem dJ7_fill_d0a16_7 : decode cJ7_fill_d0a16 7 = .ok (.iload 4, 2) := by decide +kernel
theorem dJ7_fill_d0a16_9 : decode cJ7_fill_d0a16 9 = .ok (.if_icmp .ge 13, 3) := by decide +kernel
theorem dJ7_fill_d0a16_12 : decode cJ7_fill_d0a16 12 = .ok (.aload_n 0, 1) := by decide +kernel
theorem dJ7_fill_d0a16_13 : decode cJ7_fill_d0a16 13 = .ok (.iload_n 3, 1) := by decide +kernel
theorem dJ7_fill_d0a16_14 : decode cJ7_fill_d0a16 14 = .ok (.lload_n 1, 1) := by decide +kernel
theorem dJ7_fill_d0a16_15 : decode cJ7_fill_d0a16 15 = .ok (.lastore, 1) := by decide +kernel
theorem dJ7_fill_d0a16_16 : decode cJ7_fill_d0a16 16 = .ok (.iinc 3 1, 3) := by decide +kernel
theorem dJ7_fill_d0a16_19 : decode cJ7_fill_d0a16 19 = .ok (.goto (-13), 3) := by decide +kernel
theorem dJ7_fill_d0a16_22 : decode cJ7_fill_d0a16 22 = .ok (.return_, 1) := by decide +kernel
theorem dJ7_fill_53178_0 : decode cJ7_fill_53178 0 = .ok (.iconst 0, 1) := by decide +kernel
theorem dJ7_fill_53178_1 : decode cJ7_fill_53178 1 = .ok (.istore_n 2, 1) := by decide +kernel
theorem dJ7_fill_53178_2 : decode cJ7_fill_53178 2 = .ok (.aload_n 0, 1) := by decide +kernel
theorem dJ7_fill_53178_3 : decode cJ7_fill_53178 3 = .ok (.arraylength, 1) := by decide +kernel
theorem dJ7_fill_53178_4 : decode cJ7_fill_53178 4 = .ok (.istore_n 3, 1) := by decide +kernel
theorem dJ7_fill_53178_5 : decode cJ7_fill_53178 5 = .ok (.iload_n 2, 1) := by decide +kernel
theorem dJ7_fill_53178_6 : decode cJ7_fill_53178 6 = .ok (.iload_n 3, 1) := by decide +kernel
theorem dJ7_fill_53178_7 : decode cJ7_fill_53178 7 = .ok (.if_icmp .ge 13, 3) := by decide +kernel
theorem dJ7_fill_53178_10 : decode cJ7_fill_53178 10 = .ok (.aload_n 0, 1) := by decide +kernel
theorem dJ7_fill_53178_11 : decode cJ7_fill_53178 11 = .ok (.iload_n 2, 1) := by decide +kernel
theorem dJ7_fill_53178_12 : decode cJ7_fill_53178 12 = .ok (.iload_n 1, 1) := by decide +kernel
theorem dJ7_fill_53178_13 : decode cJ7_fill_53178 13 = .ok (.iastore, 1) := by decide +kernel
theorem dJ7_fill_53178_14 : decode cJ7_fill_53178 14 = .ok (.iinc 2 1, 3) := by decide +kernel
theorem dJ7_fill_53178_17 : decode cJ7_fill_53178 17 = .ok (.goto (-12), 3) := by decide +kernel
theorem dJ7_fill_53178_20 : decode cJ7_fill_53178 20 = .ok (.return_, 1) := by decide +kernel
theorem dL_law_0 : decode cL_law 0 = .ok (.new 7, 3) := by decide +kernel
theorem dL_law_3 : decode cL_law 3 = .ok (.dup, 1) := by decide +kernel
theorem dL_law_4 : decode cL_law 4 = .ok (.invokespecial 9, 3) := by decide +kernel
theorem dL_law_7 : decode cL_law 7 = .ok (.astore_n 1, 1) := by decide +kernel
theorem dL_law_8 : decode cL_law 8 = .ok (.new 10, 3) := by decide +kernel
theorem dL_law_11 : decode cL_law 11 = .ok (.dup, 1) := by decide +kernel
theorem dL_law_12 : decode cL_law 12 = .ok (.invokespecial 12, 3) := by decide +kernel
theorem dL_law_15 : decode cL_law 15 = .ok (.astore_n 2, 1) := by decide +kernel
