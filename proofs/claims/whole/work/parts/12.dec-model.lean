theorem dX9_init_0 : decode cX9_init 0 = .ok (.aload_n 0, 1) := by decide +kernel
theorem dX9_init_1 : decode cX9_init 1 = .ok (.invokespecial 1, 3) := by decide +kernel
theorem dX9_init_4 : decode cX9_init 4 = .ok (.aload_n 0, 1) := by decide +kernel
theorem dX9_init_5 : decode cX9_init 5 = .ok (.bipush 30, 2) := by decide +kernel
theorem dX9_init_7 : decode cX9_init 7 = .ok (.newarray .int, 2) := by decide +kernel
theorem dX9_init_9 : decode cX9_init 9 = .ok (.putfield 9, 3) := by decide +kernel
theorem dX9_init_12 : decode cX9_init 12 = .ok (.aload_n 0, 1) := by decide +kernel
theorem dX9_init_13 : decode cX9_init 13 = .ok (.bipush 30, 2) := by decide +kernel
theorem dX9_init_15 : decode cX9_init 15 = .ok (.newarray .int, 2) := by decide +kernel
theorem dX9_init_17 : decode cX9_init 17 = .ok (.putfield 13, 3) := by decide +kernel
theorem dX9_init_20 : decode cX9_init 20 = .ok (.aload_n 0, 1) := by decide +kernel
theorem dX9_init_21 : decode cX9_init 21 = .ok (.bipush 30, 2) := by decide +kernel
theorem dX9_init_23 : decode cX9_init 23 = .ok (.newarray .int, 2) := by decide +kernel
theorem dX9_init_25 : decode cX9_init 25 = .ok (.putfield 16, 3) := by decide +kernel
theorem dX9_init_28 : decode cX9_init 28 = .ok (.aload_n 0, 1) := by decide +kernel
theorem dX9_init_29 : decode cX9_init 29 = .ok (.bipush 30, 2) := by decide +kernel
theorem dX9_init_31 : decode cX9_init 31 = .ok (.newarray .boolean, 2) := by decide +kernel
theorem dX9_init_33 : decode cX9_init 33 = .ok (.putfield 19, 3) := by decide +kernel
theorem dX9_init_36 : decode cX9_init 36 = .ok (.aload_n 0, 1) := by decide +kernel
theorem dX9_init_37 : decode cX9_init 37 = .ok (.sipush 600, 3) := by decide +kernel
theorem dX9_init_40 : decode cX9_init 40 = .ok (.newarray .int, 2) := by decide +kernel
theorem dX9_init_42 : decode cX9_init 42 = .ok (.putfield 23, 3) := by decide +kernel
theorem dX9_init_45 : decode cX9_init 45 = .ok (.aload_n 0, 1) := by decide +kernel
theorem dX9_init_46 : decode cX9_init 46 = .ok (.sipush 6000, 3) := by decide +kernel
theorem dX9_init_49 : decode cX9_init 49 = .ok (.newarray .int, 2) := by decide +kernel
theorem dX9_init_51 : decode cX9_init 51 = .ok (.putfield 26, 3) := by decide +kernel
theorem dX9_init_54 : decode cX9_init 54 = .ok (.aload_n 0, 1) := by decide +kernel
theorem dX9_init_55 : decode cX9_init 55 = .ok (.sipush 6000, 3) := by decide +kernel
theorem dX9_init_58 : decode cX9_init 58 = .ok (.newarray .int, 2) := by decide +kernel
theorem dX9_init_60 : decode cX9_init 60 = .ok (.putfield 29, 3) := by decide +kernel
theorem dX9_init_63 : decode cX9_init 63 = .ok (.aload_n 0, 1) := by decide +kernel
theorem dX9_init_64 : decode cX9_init 64 = .ok (.sipush 3000, 3) := by decide +kernel
theorem dX9_init_67 : decode cX9_init 67 = .ok (.newarray .int, 2) := by decide +kernel
theorem dX9_init_69 : decode cX9_init 69 = .ok (.putfield 32, 3) := by decide +kernel
theorem dX9_init_72 : decode cX9_init 72 = .ok (.aload_n 0, 1) := by decide +kernel
theorem dX9_init_73 : decode cX9_init 73 = .ok (.bipush 100, 2) := by decide +kernel
theorem dX9_init_75 : decode cX9_init 75 = .ok (.newarray .int, 2) := by decide +kernel
theorem dX9_init_77 : decode cX9_init 77 = .ok (.putfield 35, 3) := by decide +kernel
theorem dX9_init_80 : decode cX9_init 80 = .ok (.aload_n 0, 1) := by decide +kernel
theorem dX9_init_81 : decode cX9_init 81 = .ok (.sipush 10400, 3) := by decide +kernel
theorem dX9_init_84 : decode cX9_init 84 = .ok (.newarray .int, 2) := by decide +kernel
theorem dX9_init_86 : decode cX9_init 86 = .ok (.putfield 38, 3) := by decide +kernel
theorem dX9_init_89 : decode cX9_init 89 = .ok (.aload_n 0, 1) := by decide +kernel
theorem dX9_init_90 : decode cX9_init 90 = .ok (.bipush 10, 2) := by decide +kernel
theorem dX9_init_92 : decode cX9_init 92 = .ok (.newarray .int, 2) := by decide +kernel
theorem dX9_init_94 : decode cX9_init 94 = .ok (.putfield 41, 3) := by decide +kernel
theorem dX9_init_97 : decode cX9_init 97 = .ok (.aload_n 0, 1) := by decide +kernel
theorem dX9_init_98 : decode cX9_init 98 = .ok (.bipush 10, 2) := by decide +kernel
theorem dX9_init_100 : decode cX9_init 100 = .ok (.newarray .int, 2) := by decide +kernel
theorem dX9_init_102 : decode cX9_init 102 = .ok (.putfield 44, 3) := by decide +kernel
theorem dX9_init_105 : decode cX9_init 105 = .ok (.aload_n 0, 1) := by decide +kernel
theorem dX9_init_106 : decode cX9_init 106 = .ok (.bipush 10, 2) := by decide +kernel
theorem dX9_init_108 : decode cX9_init 108 = .ok (.newarray .int, 2) := by decide +kernel
theorem dX9_init_110 : decode cX9_init 110 = .ok (.putfield 47, 3) := by decide +kernel
theorem dX9_init_113 : decode cX9_init 113 = .ok (.aload_n 0, 1) := by decide +kernel
theorem dX9_init_114 : decode cX9_init 114 = .ok (.bipush 10, 2) := by decide +kernel
theorem dX9_init_116 : decode cX9_init 116 = .ok (.newarray .int, 2) := by decide +kernel
theorem dX9_init_118 : decode cX9_init 118 = .ok (.putfield 50, 3) := by decide +kernel
theorem dX9_init_121 : decode cX9_init 121 = .ok (.aload_n 0, 1) := by decide +kernel
theorem dX9_init_122 : decode cX9_init 122 = .ok (.bipush 11, 2) := by decide +kernel
theorem dX9_init_124 : decode cX9_init 124 = .ok (.newarray .int, 2) := by decide +kernel
theorem dX9_init_126 : decode cX9_init 126 = .ok (.putfield 53, 3) := by decide +kernel
theorem dX9_init_129 : decode cX9_init 129 = .ok (.aload_n 0, 1) := by decide +kernel
theorem dX9_init_130 : decode cX9_init 130 = .ok (.sipush 500, 3) := by decide +kernel
theorem dX9_init_133 : decode cX9_init 133 = .ok (.newarray .int, 2) := by decide +kernel
theorem dX9_init_135 : decode cX9_init 135 = .ok (.putfield 56, 3) := by decide +kernel
theorem dX9_init_138 : decode cX9_init 138 = .ok (.aload_n 0, 1) := by decide +kernel
theorem dX9_init_139 : decode cX9_init 139 = .ok (.bipush 104, 2) := by decide +kernel
theorem dX9_init_141 : decode cX9_init 141 = .ok (.newarray .int, 2) := by decide +kernel
theorem dX9_init_143 : decode cX9_init 143 = .ok (.putfield 59, 3) := by decide +kernel
theorem dX9_init_146 : decode cX9_init 146 = .ok (.aload_n 0, 1) := by decide +kernel
theorem dX9_init_147 : decode cX9_init 147 = .ok (.bipush 104, 2) := by decide +kernel
theorem dX9_init_149 : decode cX9_init 149 = .ok (.newarray .int, 2) := by decide +kernel
theorem dX9_init_151 : decode cX9_init 151 = .ok (.putfield 62, 3) := by decide +kernel
theorem dX9_init_154 : decode cX9_init 154 = .ok (.aload_n 0, 1) := by decide +kernel
theorem dX9_init_155 : decode cX9_init 155 = .ok (.bipush 20, 2) := by decide +kernel
theorem dX9_init_157 : decode cX9_init 157 = .ok (.newarray .int, 2) := by decide +kernel
theorem dX9_init_159 : decode cX9_init 159 = .ok (.putfield 65, 3) := by decide +kernel
theorem dX9_init_162 : decode cX9_init 162 = .ok (.aload_n 0, 1) := by decide +kernel
theorem dX9_init_163 : decode cX9_init 163 = .ok (.sipush 2000, 3) := by decide +kernel
theorem dX9_init_166 : decode cX9_init 166 = .ok (.newarray .int, 2) := by decide +kernel
theorem dX9_init_168 : decode cX9_init 168 = .ok (.putfield 68, 3) := by decide +kernel
theorem dX9_init_171 : decode cX9_init 171 = .ok (.aload_n 0, 1) := by decide +kernel
theorem dX9_init_172 : decode cX9_init 172 = .ok (.bipush 20, 2) := by decide +kernel
theorem dX9_init_174 : decode cX9_init 174 = .ok (.newarray .int, 2) := by decide +kernel
theorem dX9_init_176 : decode cX9_init 176 = .ok (.putfield 71, 3) := by decide +kernel
theorem dX9_init_179 : decode cX9_init 179 = .ok (.aload_n 0, 1) := by decide +kernel
theorem dX9_init_180 : decode cX9_init 180 = .ok (.bipush 20, 2) := by decide +kernel
theorem dX9_init_182 : decode cX9_init 182 = .ok (.newarray .int, 2) := by decide +kernel
theorem dX9_init_184 : decode cX9_init 184 = .ok (.putfield 74, 3) := by decide +kernel
theorem dX9_init_187 : decode cX9_init 187 = .ok (.aload_n 0, 1) := by decide +kernel
theorem dX9_init_188 : decode cX9_init 188 = .ok (.bipush 20, 2) := by decide +kernel
theorem dX9_init_190 : decode cX9_init 190 = .ok (.newarray .int, 2) := by decide +kernel
theorem dX9_init_192 : decode cX9_init 192 = .ok (.putfield 77, 3) := by decide +kernel
theorem dX9_init_195 : decode cX9_init 195 = .ok (.aload_n 0, 1) := by decide +kernel
theorem dX9_init_196 : decode cX9_init 196 = .ok (.sipush 4000, 3) := by decide +kernel
theorem dX9_init_199 : decode cX9_init 199 = .ok (.newarray .int, 2) := by decide +kernel
theorem dX9_init_201 : decode cX9_init 201 = .ok (.putfield 80, 3) := by decide +kernel
theorem dX9_init_204 : decode cX9_init 204 = .ok (.aload_n 0, 1) := by decide +kernel
theorem dX9_init_205 : decode cX9_init 205 = .ok (.sipush 4000, 3) := by decide +kernel
theorem dX9_init_208 : decode cX9_init 208 = .ok (.newarray .int, 2) := by decide +kernel
theorem dX9_init_210 : decode cX9_init 210 = .ok (.putfield 83, 3) := by decide +kernel
theorem dX9_init_213 : decode cX9_init 213 = .ok (.aload_n 0, 1) := by decide +kernel
theorem dX9_init_214 : decode cX9_init 214 = .ok (.sipush 4000, 3) := by decide +kernel
theorem dX9_init_217 : decode cX9_init 217 = .ok (.newarray .int, 2) := by decide +kernel
theorem dX9_init_219 : decode cX9_init 219 = .ok (.putfield 86, 3) := by decide +kernel
theorem dX9_init_222 : decode cX9_init 222 = .ok (.aload_n 0, 1) := by decide +kernel
theorem dX9_init_223 : decode cX9_init 223 = .ok (.bipush 64, 2) := by decide +kernel
theorem dX9_init_225 : decode cX9_init 225 = .ok (.newarray .int, 2) := by decide +kernel
theorem dX9_init_227 : decode cX9_init 227 = .ok (.putfield 89, 3) := by decide +kernel
theorem dX9_init_230 : decode cX9_init 230 = .ok (.return_, 1) := by decide +kernel
theorem dX9_in_0 : decode cX9_in 0 = .ok (.iload_n 0, 1) := by decide +kernel
theorem dX9_in_1 : decode cX9_in 1 = .ok (.iload_n 1, 1) := by decide +kernel
theorem dX9_in_2 : decode cX9_in 2 = .ok (.if_icmp .lt 12, 3) := by decide +kernel
theorem dX9_in_5 : decode cX9_in 5 = .ok (.iload_n 0, 1) := by decide +kernel
theorem dX9_in_6 : decode cX9_in 6 = .ok (.iload_n 2, 1) := by decide +kernel
theorem dX9_in_7 : decode cX9_in 7 = .ok (.if_icmp .gt 7, 3) := by decide +kernel
theorem dX9_in_10 : decode cX9_in 10 = .ok (.iconst 1, 1) := by decide +kernel
theorem dX9_in_11 : decode cX9_in 11 = .ok (.goto 4, 3) := by decide +kernel
theorem dX9_in_14 : decode cX9_in 14 = .ok (.iconst 0, 1) := by decide +kernel
theorem dX9_in_15 : decode cX9_in 15 = .ok (.ireturn, 1) := by decide +kernel
theorem dX9_isPuzzle_0 : decode cX9_isPuzzle 0 = .ok (.iload_n 1, 1) := by decide +kernel
theorem dX9_isPuzzle_1 : decode cX9_isPuzzle 1 = .ok (.iconst 0, 1) := by decide +kernel
theorem dX9_isPuzzle_2 : decode cX9_isPuzzle 2 = .ok (.aload_n 0, 1) := by decide +kernel
theorem dX9_isPuzzle_3 : decode cX9_isPuzzle 3 = .ok (.getfield 92, 3) := by decide +kernel
theorem dX9_isPuzzle_6 : decode cX9_isPuzzle 6 = .ok (.iconst 1, 1) := by decide +kernel
theorem dX9_isPuzzle_7 : decode cX9_isPuzzle 7 = .ok (.isub, 1) := by decide +kernel
theorem dX9_isPuzzle_8 : decode cX9_isPuzzle 8 = .ok (.invokestatic 96, 3) := by decide +kernel
theorem dX9_isPuzzle_11 : decode cX9_isPuzzle 11 = .ok (.ireturn, 1) := by decide +kernel
theorem dX9_linesOf_0 : decode cX9_linesOf 0 = .ok (.aload_n 0, 1) := by decide +kernel
theorem dX9_linesOf_1 : decode cX9_linesOf 1 = .ok (.getfield 9, 3) := by decide +kernel
theorem dX9_linesOf_4 : decode cX9_linesOf 4 = .ok (.iload_n 1, 1) := by decide +kernel
theorem dX9_linesOf_5 : decode cX9_linesOf 5 = .ok (.iaload, 1) := by decide +kernel
theorem dX9_linesOf_6 : decode cX9_linesOf 6 = .ok (.aload_n 0, 1) := by decide +kernel
theorem dX9_linesOf_7 : decode cX9_linesOf 7 = .ok (.getfield 13, 3) := by decide +kernel
theorem dX9_linesOf_10 : decode cX9_linesOf 10 = .ok (.iload_n 1, 1) := by decide +kernel
theorem dX9_linesOf_11 : decode cX9_linesOf 11 = .ok (.iaload, 1) := by decide +kernel
theorem dX9_linesOf_12 : decode cX9_linesOf 12 = .ok (.iadd, 1) := by decide +kernel
theorem dX9_linesOf_13 : decode cX9_linesOf 13 = .ok (.ireturn, 1) := by decide +kernel
theorem dX9_isLine_0 : decode cX9_isLine 0 = .ok (.aload_n 0, 1) := by decide +kernel
theorem dX9_isLine_1 : decode cX9_isLine 1 = .ok (.iload_n 1, 1) := by decide +kernel
theorem dX9_isLine_2 : decode cX9_isLine 2 = .ok (.invokevirtual 100, 3) := by decide +kernel
theorem dX9_isLine_5 : decode cX9_isLine 5 = .ok (.ifCond .eq 22, 3) := by decide +kernel
theorem dX9_isLine_8 : decode cX9_isLine 8 = .ok (.iload_n 2, 1) := by decide +kernel
theorem dX9_isLine_9 : decode cX9_isLine 9 = .ok (.iconst 0, 1) := by decide +kernel
theorem dX9_isLine_10 : decode cX9_isLine 10 = .ok (.aload_n 0, 1) := by decide +kernel
theorem dX9_isLine_11 : decode cX9_isLine 11 = .ok (.iload_n 1, 1) := by decide +kernel
theorem dX9_isLine_12 : decode cX9_isLine 12 = .ok (.invokevirtual 104, 3) := by decide +kernel
theorem dX9_isLine_15 : decode cX9_isLine 15 = .ok (.iconst 1, 1) := by decide +kernel
theorem dX9_isLine_16 : decode cX9_isLine 16 = .ok (.isub, 1) := by decide +kernel
theorem dX9_isLine_17 : decode cX9_isLine 17 = .ok (.invokestatic 96, 3) := by decide +kernel
theorem dX9_isLine_20 : decode cX9_isLine 20 = .ok (.ifCond .eq 7, 3) := by decide +kernel
theorem dX9_isLine_23 : decode cX9_isLine 23 = .ok (.iconst 1, 1) := by decide +kernel
theorem dX9_isLine_24 : decode cX9_isLine 24 = .ok (.goto 4, 3) := by decide +kernel
theorem dX9_isLine_27 : decode cX9_isLine 27 = .ok (.iconst 0, 1) := by decide +kernel
theorem dX9_isLine_28 : decode cX9_isLine 28 = .ok (.ireturn, 1) := by decide +kernel
theorem dX9_sizeOf_0 : decode cX9_sizeOf 0 = .ok (.aload_n 0, 1) := by decide +kernel
theorem dX9_sizeOf_1 : decode cX9_sizeOf 1 = .ok (.getfield 9, 3) := by decide +kernel
theorem dX9_sizeOf_4 : decode cX9_sizeOf 4 = .ok (.iload_n 1, 1) := by decide +kernel
theorem dX9_sizeOf_5 : decode cX9_sizeOf 5 = .ok (.iaload, 1) := by decide +kernel
theorem dX9_sizeOf_6 : decode cX9_sizeOf 6 = .ok (.aload_n 0, 1) := by decide +kernel
theorem dX9_sizeOf_7 : decode cX9_sizeOf 7 = .ok (.getfield 13, 3) := by decide +kernel
theorem dX9_sizeOf_10 : decode cX9_sizeOf 10 = .ok (.iload_n 1, 1) := by decide +kernel
theorem dX9_sizeOf_11 : decode cX9_sizeOf 11 = .ok (.iaload, 1) := by decide +kernel
theorem dX9_sizeOf_12 : decode cX9_sizeOf 12 = .ok (.imul, 1) := by decide +kernel
theorem dX9_sizeOf_13 : decode cX9_sizeOf 13 = .ok (.ireturn, 1) := by decide +kernel
theorem dX9_isCell_0 : decode cX9_isCell 0 = .ok (.aload_n 0, 1) := by decide +kernel
theorem dX9_isCell_1 : decode cX9_isCell 1 = .ok (.iload_n 1, 1) := by decide +kernel
theorem dX9_isCell_2 : decode cX9_isCell 2 = .ok (.invokevirtual 100, 3) := by decide +kernel
theorem dX9_isCell_5 : decode cX9_isCell 5 = .ok (.ifCond .eq 22, 3) := by decide +kernel
theorem dX9_isCell_8 : decode cX9_isCell 8 = .ok (.iload_n 2, 1) := by decide +kernel
theorem dX9_isCell_9 : decode cX9_isCell 9 = .ok (.iconst 0, 1) := by decide +kernel
theorem dX9_isCell_10 : decode cX9_isCell 10 = .ok (.aload_n 0, 1) := by decide +kernel
theorem dX9_isCell_11 : decode cX9_isCell 11 = .ok (.iload_n 1, 1) := by decide +kernel
theorem dX9_isCell_12 : decode cX9_isCell 12 = .ok (.invokevirtual 108, 3) := by decide +kernel
theorem dX9_isCell_15 : decode cX9_isCell 15 = .ok (.iconst 1, 1) := by decide +kernel
theorem dX9_isCell_16 : decode cX9_isCell 16 = .ok (.isub, 1) := by decide +kernel
theorem dX9_isCell_17 : decode cX9_isCell 17 = .ok (.invokestatic 96, 3) := by decide +kernel
theorem dX9_isCell_20 : decode cX9_isCell 20 = .ok (.ifCond .eq 7, 3) := by decide +kernel
theorem dX9_isCell_23 : decode cX9_isCell 23 = .ok (.iconst 1, 1) := by decide +kernel
theorem dX9_isCell_24 : decode cX9_isCell 24 = .ok (.goto 4, 3) := by decide +kernel
theorem dX9_isCell_27 : decode cX9_isCell 27 = .ok (.iconst 0, 1) := by decide +kernel
theorem dX9_isCell_28 : decode cX9_isCell 28 = .ok (.ireturn, 1) := by decide +kernel
theorem dX9_full_0 : decode cX9_full 0 = .ok (.iconst 1, 1) := by decide +kernel
theorem dX9_full_1 : decode cX9_full 1 = .ok (.aload_n 0, 1) := by decide +kernel
theorem dX9_full_2 : decode cX9_full 2 = .ok (.getfield 16, 3) := by decide +kernel
theorem dX9_full_5 : decode cX9_full 5 = .ok (.iload_n 1, 1) := by decide +kernel
theorem dX9_full_6 : decode cX9_full 6 = .ok (.iaload, 1) := by decide +kernel
theorem dX9_full_7 : decode cX9_full 7 = .ok (.iconst 1, 1) := by decide +kernel
theorem dX9_full_8 : decode cX9_full 8 = .ok (.iadd, 1) := by decide +kernel
theorem dX9_full_9 : decode cX9_full 9 = .ok (.ishl, 1) := by decide +kernel
theorem dX9_full_10 : decode cX9_full 10 = .ok (.iconst 1, 1) := by decide +kernel
theorem dX9_full_11 : decode cX9_full 11 = .ok (.isub, 1) := by decide +kernel
theorem dX9_full_12 : decode cX9_full 12 = .ok (.ireturn, 1) := by decide +kernel
theorem dX9_isOne_0 : decode cX9_isOne 0 = .ok (.iload_n 0, 1) := by decide +kernel
theorem dX9_isOne_1 : decode cX9_isOne 1 = .ok (.iload_n 0, 1) := by decide +kernel
theorem dX9_isOne_2 : decode cX9_isOne 2 = .ok (.iconst 1, 1) := by decide +kernel
theorem dX9_isOne_3 : decode cX9_isOne 3 = .ok (.isub, 1) := by decide +kernel
theorem dX9_isOne_4 : decode cX9_isOne 4 = .ok (.iand, 1) := by decide +kernel
theorem dX9_isOne_5 : decode cX9_isOne 5 = .ok (.ifCond .ne 7, 3) := by decide +kernel
theorem dX9_isOne_8 : decode cX9_isOne 8 = .ok (.iconst 1, 1) := by decide +kernel
theorem dX9_isOne_9 : decode cX9_isOne 9 = .ok (.goto 4, 3) := by decide +kernel
theorem dX9_isOne_12 : decode cX9_isOne 12 = .ok (.iconst 0, 1) := by decide +kernel
theorem dX9_isOne_13 : decode cX9_isOne 13 = .ok (.ireturn, 1) := by decide +kernel
theorem dX9_lineLength_0 : decode cX9_lineLength 0 = .ok (.iload_n 2, 1) := by decide +kernel
theorem dX9_lineLength_1 : decode cX9_lineLength 1 = .ok (.aload_n 0, 1) := by decide +kernel
theorem dX9_lineLength_2 : decode cX9_lineLength 2 = .ok (.getfield 13, 3) := by decide +kernel
theorem dX9_lineLength_5 : decode cX9_lineLength 5 = .ok (.iload_n 1, 1) := by decide +kernel
theorem dX9_lineLength_6 : decode cX9_lineLength 6 = .ok (.iaload, 1) := by decide +kernel
theorem dX9_lineLength_7 : decode cX9_lineLength 7 = .ok (.if_icmp .ge 12, 3) := by decide +kernel
theorem dX9_lineLength_10 : decode cX9_lineLength 10 = .ok (.aload_n 0, 1) := by decide +kernel
theorem dX9_lineLength_11 : decode cX9_lineLength 11 = .ok (.getfield 9, 3) := by decide +kernel
theorem dX9_lineLength_14 : decode cX9_lineLength 14 = .ok (.iload_n 1, 1) := by decide +kernel
theorem dX9_lineLength_15 : decode cX9_lineLength 15 = .ok (.iaload, 1) := by decide +kernel
theorem dX9_lineLength_16 : decode cX9_lineLength 16 = .ok (.goto 9, 3) := by decide +kernel
theorem dX9_lineLength_19 : decode cX9_lineLength 19 = .ok (.aload_n 0, 1) := by decide +kernel
theorem dX9_lineLength_20 : decode cX9_lineLength 20 = .ok (.getfield 13, 3) := by decide +kernel
theorem dX9_lineLength_23 : decode cX9_lineLength 23 = .ok (.iload_n 1, 1) := by decide +kernel
theorem dX9_lineLength_24 : decode cX9_lineLength 24 = .ok (.iaload, 1) := by decide +kernel
theorem dX9_lineLength_25 : decode cX9_lineLength 25 = .ok (.ireturn, 1) := by decide +kernel
theorem dX9_cellOf_0 : decode cX9_cellOf 0 = .ok (.iload_n 2, 1) := by decide +kernel
theorem dX9_cellOf_1 : decode cX9_cellOf 1 = .ok (.aload_n 0, 1) := by decide +kernel
theorem dX9_cellOf_2 : decode cX9_cellOf 2 = .ok (.getfield 13, 3) := by decide +kernel
theorem dX9_cellOf_5 : decode cX9_cellOf 5 = .ok (.iload_n 1, 1) := by decide +kernel
theorem dX9_cellOf_6 : decode cX9_cellOf 6 = .ok (.iaload, 1) := by decide +kernel
theorem dX9_cellOf_7 : decode cX9_cellOf 7 = .ok (.if_icmp .ge 16, 3) := by decide +kernel
theorem dX9_cellOf_10 : decode cX9_cellOf 10 = .ok (.iload_n 2, 1) := by decide +kernel
theorem dX9_cellOf_11 : decode cX9_cellOf 11 = .ok (.aload_n 0, 1) := by decide +kernel
theorem dX9_cellOf_12 : decode cX9_cellOf 12 = .ok (.getfield 9, 3) := by decide +kernel
theorem dX9_cellOf_15 : decode cX9_cellOf 15 = .ok (.iload_n 1, 1) := by decide +kernel
theorem dX9_cellOf_16 : decode cX9_cellOf 16 = .ok (.iaload, 1) := by decide +kernel
theorem dX9_cellOf_17 : decode cX9_cellOf 17 = .ok (.imul, 1) := by decide +kernel
theorem dX9_cellOf_18 : decode cX9_cellOf 18 = .ok (.iload_n 3, 1) := by decide +kernel
theorem dX9_cellOf_19 : decode cX9_cellOf 19 = .ok (.iadd, 1) := by decide +kernel
theorem dX9_cellOf_20 : decode cX9_cellOf 20 = .ok (.goto 20, 3) := by decide +kernel
theorem dX9_cellOf_23 : decode cX9_cellOf 23 = .ok (.iload_n 3, 1) := by decide +kernel
theorem dX9_cellOf_24 : decode cX9_cellOf 24 = .ok (.aload_n 0, 1) := by decide +kernel
theorem dX9_cellOf_25 : decode cX9_cellOf 25 = .ok (.getfield 9, 3) := by decide +kernel
theorem dX9_cellOf_28 : decode cX9_cellOf 28 = .ok (.iload_n 1, 1) := by decide +kernel
theorem dX9_cellOf_29 : decode cX9_cellOf 29 = .ok (.iaload, 1) := by decide +kernel
theorem dX9_cellOf_30 : decode cX9_cellOf 30 = .ok (.imul, 1) := by decide +kernel
theorem dX9_cellOf_31 : decode cX9_cellOf 31 = .ok (.iload_n 2, 1) := by decide +kernel
theorem dX9_cellOf_32 : decode cX9_cellOf 32 = .ok (.iadd, 1) := by decide +kernel
theorem dX9_cellOf_33 : decode cX9_cellOf 33 = .ok (.aload_n 0, 1) := by decide +kernel
theorem dX9_cellOf_34 : decode cX9_cellOf 34 = .ok (.getfield 13, 3) := by decide +kernel
theorem dX9_cellOf_37 : decode cX9_cellOf 37 = .ok (.iload_n 1, 1) := by decide +kernel
theorem dX9_cellOf_38 : decode cX9_cellOf 38 = .ok (.iaload, 1) := by decide +kernel
theorem dX9_cellOf_39 : decode cX9_cellOf 39 = .ok (.isub, 1) := by decide +kernel
theorem dX9_cellOf_40 : decode cX9_cellOf 40 = .ok (.ireturn, 1) := by decide +kernel
theorem dX9_puzzle_0 : decode cX9_puzzle 0 = .ok (.iload_n 1, 1) := by decide +kernel
theorem dX9_puzzle_1 : decode cX9_puzzle 1 = .ok (.iconst 1, 1) := by decide +kernel
theorem dX9_puzzle_2 : decode cX9_puzzle 2 = .ok (.bipush 10, 2) := by decide +kernel
theorem dX9_puzzle_4 : decode cX9_puzzle 4 = .ok (.invokestatic 96, 3) := by decide +kernel
theorem dX9_puzzle_7 : decode cX9_puzzle 7 = .ok (.ifCond .eq 31, 3) := by decide +kernel
theorem dX9_puzzle_10 : decode cX9_puzzle 10 = .ok (.iload_n 2, 1) := by decide +kernel
theorem dX9_puzzle_11 : decode cX9_puzzle 11 = .ok (.iconst 1, 1) := by decide +kernel
theorem dX9_puzzle_12 : decode cX9_puzzle 12 = .ok (.bipush 10, 2) := by decide +kernel
theorem dX9_puzzle_14 : decode cX9_puzzle 14 = .ok (.invokestatic 96, 3) := by decide +kernel
theorem dX9_puzzle_17 : decode cX9_puzzle 17 = .ok (.ifCond .eq 21, 3) := by decide +kernel
theorem dX9_puzzle_20 : decode cX9_puzzle 20 = .ok (.iload_n 3, 1) := by decide +kernel
theorem dX9_puzzle_21 : decode cX9_puzzle 21 = .ok (.iconst 1, 1) := by decide +kernel
theorem dX9_puzzle_22 : decode cX9_puzzle 22 = .ok (.iconst 3, 1) := by decide +kernel
theorem dX9_puzzle_23 : decode cX9_puzzle 23 = .ok (.invokestatic 96, 3) := by decide +kernel
theorem dX9_puzzle_26 : decode cX9_puzzle 26 = .ok (.ifCond .eq 12, 3) := by decide +kernel
theorem dX9_puzzle_29 : decode cX9_puzzle 29 = .ok (.aload_n 0, 1) := by decide +kernel
theorem dX9_puzzle_30 : decode cX9_puzzle 30 = .ok (.getfield 92, 3) := by decide +kernel
theorem dX9_puzzle_33 : decode cX9_puzzle 33 = .ok (.bipush 30, 2) := by decide +kernel
theorem dX9_puzzle_35 : decode cX9_puzzle 35 = .ok (.if_icmp .ne 5, 3) := by decide +kernel
theorem dX9_puzzle_38 : decode cX9_puzzle 38 = .ok (.iconst (-1), 1) := by decide +kernel
theorem dX9_puzzle_39 : decode cX9_puzzle 39 = .ok (.ireturn, 1) := by decide +kernel
theorem dX9_puzzle_40 : decode cX9_puzzle 40 = .ok (.aload_n 0, 1) := by decide +kernel
theorem dX9_puzzle_41 : decode cX9_puzzle 41 = .ok (.getfield 92, 3) := by decide +kernel
theorem dX9_puzzle_44 : decode cX9_puzzle 44 = .ok (.istore 4, 2) := by decide +kernel
theorem dX9_puzzle_46 : decode cX9_puzzle 46 = .ok (.aload_n 0, 1) := by decide +kernel
theorem dX9_puzzle_47 : decode cX9_puzzle 47 = .ok (.getfield 9, 3) := by decide +kernel
theorem dX9_puzzle_50 : decode cX9_puzzle 50 = .ok (.iload 4, 2) := by decide +kernel
theorem dX9_puzzle_52 : decode cX9_puzzle 52 = .ok (.iload_n 1, 1) := by decide +kernel
theorem dX9_puzzle_53 : decode cX9_puzzle 53 = .ok (.iastore, 1) := by decide +kernel
theorem dX9_puzzle_54 : decode cX9_puzzle 54 = .ok (.aload_n 0, 1) := by decide +kernel
theorem dX9_puzzle_55 : decode cX9_puzzle 55 = .ok (.getfield 13, 3) := by decide +kernel
theorem dX9_puzzle_58 : decode cX9_puzzle 58 = .ok (.iload 4, 2) := by decide +kernel
theorem dX9_puzzle_60 : decode cX9_puzzle 60 = .ok (.iload_n 2, 1) := by decide +kernel
theorem dX9_puzzle_61 : decode cX9_puzzle 61 = .ok (.iastore, 1) := by decide +kernel
theorem dX9_puzzle_62 : decode cX9_puzzle 62 = .ok (.aload_n 0, 1) := by decide +kernel
theorem dX9_puzzle_63 : decode cX9_puzzle 63 = .ok (.getfield 16, 3) := by decide +kernel
theorem dX9_puzzle_66 : decode cX9_puzzle 66 = .ok (.iload 4, 2) := by decide +kernel
theorem dX9_puzzle_68 : decode cX9_puzzle 68 = .ok (.iload_n 3, 1) := by decide +kernel
theorem dX9_puzzle_69 : decode cX9_puzzle 69 = .ok (.iastore, 1) := by decide +kernel
theorem dX9_puzzle_70 : decode cX9_puzzle 70 = .ok (.aload_n 0, 1) := by decide +kernel
theorem dX9_puzzle_71 : decode cX9_puzzle 71 = .ok (.dup, 1) := by decide +kernel
theorem dX9_puzzle_72 : decode cX9_puzzle 72 = .ok (.getfield 92, 3) := by decide +kernel
theorem dX9_puzzle_75 : decode cX9_puzzle 75 = .ok (.iconst 1, 1) := by decide +kernel
theorem dX9_puzzle_76 : decode cX9_puzzle 76 = .ok (.iadd, 1) := by decide +kernel
theorem dX9_puzzle_77 : decode cX9_puzzle 77 = .ok (.putfield 92, 3) := by decide +kernel
theorem dX9_puzzle_80 : decode cX9_puzzle 80 = .ok (.aload_n 0, 1) := by decide +kernel
theorem dX9_puzzle_81 : decode cX9_puzzle 81 = .ok (.iload 4, 2) := by decide +kernel
theorem dX9_puzzle_83 : decode cX9_puzzle 83 = .ok (.invokevirtual 111, 3) := by decide +kernel
theorem dX9_puzzle_86 : decode cX9_puzzle 86 = .ok (.pop, 1) := by decide +kernel
theorem dX9_puzzle_87 : decode cX9_puzzle 87 = .ok (.iload 4, 2) := by decide +kernel
theorem dX9_puzzle_89 : decode cX9_puzzle 89 = .ok (.ireturn, 1) := by decide +kernel
theorem dX9_fresh_0 : decode cX9_fresh 0 = .ok (.aload_n 0, 1) := by decide +kernel
theorem dX9_fresh_1 : decode cX9_fresh 1 = .ok (.iload_n 1, 1) := by decide +kernel
theorem dX9_fresh_2 : decode cX9_fresh 2 = .ok (.invokevirtual 100, 3) := by decide +kernel
theorem dX9_fresh_5 : decode cX9_fresh 5 = .ok (.ifCond .ne 5, 3) := by decide +kernel
theorem dX9_fresh_8 : decode cX9_fresh 8 = .ok (.iconst 0, 1) := by decide +kernel
theorem dX9_fresh_9 : decode cX9_fresh 9 = .ok (.ireturn, 1) := by decide +kernel
theorem dX9_fresh_10 : decode cX9_fresh 10 = .ok (.iconst 0, 1) := by decide +kernel
theorem dX9_fresh_11 : decode cX9_fresh 11 = .ok (.istore_n 2, 1) := by decide +kernel
theorem dX9_fresh_12 : decode cX9_fresh 12 = .ok (.iload_n 2, 1) := by decide +kernel
theorem dX9_fresh_13 : decode cX9_fresh 13 = .ok (.aload_n 0, 1) := by decide +kernel
theorem dX9_fresh_14 : decode cX9_fresh 14 = .ok (.iload_n 1, 1) := by decide +kernel
theorem dX9_fresh_15 : decode cX9_fresh 15 = .ok (.invokevirtual 108, 3) := by decide +kernel
theorem dX9_fresh_18 : decode cX9_fresh 18 = .ok (.if_icmp .ge 25, 3) := by decide +kernel
theorem dX9_fresh_21 : decode cX9_fresh 21 = .ok (.aload_n 0, 1) := by decide +kernel
theorem dX9_fresh_22 : decode cX9_fresh 22 = .ok (.getfield 32, 3) := by decide +kernel
theorem dX9_fresh_25 : decode cX9_fresh 25 = .ok (.bipush 100, 2) := by decide +kernel
theorem dX9_fresh_27 : decode cX9_fresh 27 = .ok (.iload_n 1, 1) := by decide +kernel
theorem dX9_fresh_28 : decode cX9_fresh 28 = .ok (.imul, 1) := by decide +kernel
theorem dX9_fresh_29 : decode cX9_fresh 29 = .ok (.iload_n 2, 1) := by decide +kernel
theorem dX9_fresh_30 : decode cX9_fresh 30 = .ok (.iadd, 1) := by decide +kernel
theorem dX9_fresh_31 : decode cX9_fresh 31 = .ok (.aload_n 0, 1) := by decide +kernel
theorem dX9_fresh_32 : decode cX9_fresh 32 = .ok (.iload_n 1, 1) := by decide +kernel
theorem dX9_fresh_33 : decode cX9_fresh 33 = .ok (.invokevirtual 114, 3) := by decide +kernel
theorem dX9_fresh_36 : decode cX9_fresh 36 = .ok (.iastore, 1) := by decide +kernel
theorem dX9_fresh_37 : decode cX9_fresh 37 = .ok (.iinc 2 1, 3) := by decide +kernel
theorem dX9_fresh_40 : decode cX9_fresh 40 = .ok (.goto (-28), 3) := by decide +kernel
theorem dX9_fresh_43 : decode cX9_fresh 43 = .ok (.iconst 1, 1) := by decide +kernel
theorem dX9_fresh_44 : decode cX9_fresh 44 = .ok (.ireturn, 1) := by decide +kernel
theorem dX9_runAt_0 : decode cX9_runAt 0 = .ok (.bipush 10, 2) := by decide +kernel
theorem dX9_runAt_2 : decode cX9_runAt 2 = .ok (.bipush 20, 2) := by decide +kernel
theorem dX9_runAt_4 : decode cX9_runAt 4 = .ok (.iload_n 1, 1) := by decide +kernel
theorem dX9_runAt_5 : decode cX9_runAt 5 = .ok (.imul, 1) := by decide +kernel
theorem dX9_runAt_6 : decode cX9_runAt 6 = .ok (.iload_n 2, 1) := by decide +kernel
theorem dX9_runAt_7 : decode cX9_runAt 7 = .ok (.iadd, 1) := by decide +kernel
theorem dX9_runAt_8 : decode cX9_runAt 8 = .ok (.imul, 1) := by decide +kernel
theorem dX9_runAt_9 : decode cX9_runAt 9 = .ok (.ireturn, 1) := by decide +kernel
theorem dX9_run_0 : decode cX9_run 0 = .ok (.aload_n 0, 1) := by decide +kernel
theorem dX9_run_1 : decode cX9_run 1 = .ok (.iload_n 1, 1) := by decide +kernel
theorem dX9_run_2 : decode cX9_run 2 = .ok (.iload_n 2, 1) := by decide +kernel
theorem dX9_run_3 : decode cX9_run 3 = .ok (.invokevirtual 117, 3) := by decide +kernel
theorem dX9_run_6 : decode cX9_run 6 = .ok (.ifCond .eq 39, 3) := by decide +kernel
theorem dX9_run_9 : decode cX9_run 9 = .ok (.iload_n 3, 1) := by decide +kernel
theorem dX9_run_10 : decode cX9_run 10 = .ok (.iconst 1, 1) := by decide +kernel
theorem dX9_run_11 : decode cX9_run 11 = .ok (.aload_n 0, 1) := by decide +kernel
theorem dX9_run_12 : decode cX9_run 12 = .ok (.getfield 16, 3) := by decide +kernel
theorem dX9_run_15 : decode cX9_run 15 = .ok (.iload_n 1, 1) := by decide +kernel
theorem dX9_run_16 : decode cX9_run 16 = .ok (.iaload, 1) := by decide +kernel
theorem dX9_run_17 : decode cX9_run 17 = .ok (.invokestatic 96, 3) := by decide +kernel
theorem dX9_run_20 : decode cX9_run 20 = .ok (.ifCond .eq 25, 3) := by decide +kernel
theorem dX9_run_23 : decode cX9_run 23 = .ok (.iload 4, 2) := by decide +kernel
theorem dX9_run_25 : decode cX9_run 25 = .ok (.iconst 1, 1) := by decide +kernel
theorem dX9_run_26 : decode cX9_run 26 = .ok (.if_icmp .lt 19, 3) := by decide +kernel
theorem dX9_run_29 : decode cX9_run 29 = .ok (.iload 4, 2) := by decide +kernel
theorem dX9_run_31 : decode cX9_run 31 = .ok (.bipush 10, 2) := by decide +kernel
theorem dX9_run_33 : decode cX9_run 33 = .ok (.if_icmp .gt 12, 3) := by decide +kernel
theorem dX9_run_36 : decode cX9_run 36 = .ok (.aload_n 0, 1) := by decide +kernel
theorem dX9_run_37 : decode cX9_run 37 = .ok (.getfield 19, 3) := by decide +kernel
theorem dX9_run_40 : decode cX9_run 40 = .ok (.iload_n 1, 1) := by decide +kernel
theorem dX9_run_41 : decode cX9_run 41 = .ok (.baload, 1) := by decide +kernel
theorem dX9_run_42 : decode cX9_run 42 = .ok (.ifCond .eq 5, 3) := by decide +kernel
theorem dX9_run_45 : decode cX9_run 45 = .ok (.iconst (-1), 1) := by decide +kernel
theorem dX9_run_46 : decode cX9_run 46 = .ok (.ireturn, 1) := by decide +kernel
theorem dX9_run_47 : decode cX9_run 47 = .ok (.aload_n 0, 1) := by decide +kernel
theorem dX9_run_48 : decode cX9_run 48 = .ok (.getfield 23, 3) := by decide +kernel
theorem dX9_run_51 : decode cX9_run 51 = .ok (.bipush 20, 2) := by decide +kernel
theorem dX9_run_53 : decode cX9_run 53 = .ok (.iload_n 1, 1) := by decide +kernel
theorem dX9_run_54 : decode cX9_run 54 = .ok (.imul, 1) := by decide +kernel
theorem dX9_run_55 : decode cX9_run 55 = .ok (.iload_n 2, 1) := by decide +kernel
theorem dX9_run_56 : decode cX9_run 56 = .ok (.iadd, 1) := by decide +kernel
theorem dX9_run_57 : decode cX9_run 57 = .ok (.iaload, 1) := by decide +kernel
theorem dX9_run_58 : decode cX9_run 58 = .ok (.istore 5, 2) := by decide +kernel
theorem dX9_run_60 : decode cX9_run 60 = .ok (.aload_n 0, 1) := by decide +kernel
theorem dX9_run_61 : decode cX9_run 61 = .ok (.iload_n 1, 1) := by decide +kernel
theorem dX9_run_62 : decode cX9_run 62 = .ok (.iload_n 2, 1) := by decide +kernel
theorem dX9_run_63 : decode cX9_run 63 = .ok (.invokevirtual 121, 3) := by decide +kernel
theorem dX9_run_66 : decode cX9_run 66 = .ok (.istore 6, 2) := by decide +kernel
theorem dX9_run_68 : decode cX9_run 68 = .ok (.iload 4, 2) := by decide +kernel
theorem dX9_run_70 : decode cX9_run 70 = .ok (.istore 7, 2) := by decide +kernel
theorem dX9_run_72 : decode cX9_run 72 = .ok (.iconst 0, 1) := by decide +kernel
theorem dX9_run_73 : decode cX9_run 73 = .ok (.istore 8, 2) := by decide +kernel
theorem dX9_run_75 : decode cX9_run 75 = .ok (.iload 8, 2) := by decide +kernel
theorem dX9_run_77 : decode cX9_run 77 = .ok (.iload 5, 2) := by decide +kernel
theorem dX9_run_79 : decode cX9_run 79 = .ok (.if_icmp .ge 72, 3) := by decide +kernel
theorem dX9_run_82 : decode cX9_run 82 = .ok (.iload 8, 2) := by decide +kernel
theorem dX9_run_84 : decode cX9_run 84 = .ok (.iconst 1, 1) := by decide +kernel
theorem dX9_run_85 : decode cX9_run 85 = .ok (.iadd, 1) := by decide +kernel
theorem dX9_run_86 : decode cX9_run 86 = .ok (.iload 5, 2) := by decide +kernel
theorem dX9_run_88 : decode cX9_run 88 = .ok (.if_icmp .ge 18, 3) := by decide +kernel
theorem dX9_run_91 : decode cX9_run 91 = .ok (.aload_n 0, 1) := by decide +kernel
theorem dX9_run_92 : decode cX9_run 92 = .ok (.getfield 26, 3) := by decide +kernel
theorem dX9_run_95 : decode cX9_run 95 = .ok (.iload 6, 2) := by decide +kernel
theorem dX9_run_97 : decode cX9_run 97 = .ok (.iload 8, 2) := by decide +kernel
theorem dX9_run_99 : decode cX9_run 99 = .ok (.iadd, 1) := by decide +kernel
theorem dX9_run_100 : decode cX9_run 100 = .ok (.iconst 1, 1) := by decide +kernel
theorem dX9_run_101 : decode cX9_run 101 = .ok (.iadd, 1) := by decide +kernel
theorem dX9_run_102 : decode cX9_run 102 = .ok (.iaload, 1) := by decide +kernel
theorem dX9_run_103 : decode cX9_run 103 = .ok (.goto 4, 3) := by decide +kernel
theorem dX9_run_106 : decode cX9_run 106 = .ok (.iload_n 3, 1) := by decide +kernel
theorem dX9_run_107 : decode cX9_run 107 = .ok (.istore 9, 2) := by decide +kernel
theorem dX9_run_109 : decode cX9_run 109 = .ok (.iload 7, 2) := by decide +kernel
theorem dX9_run_111 : decode cX9_run 111 = .ok (.aload_n 0, 1) := by decide +kernel
theorem dX9_run_112 : decode cX9_run 112 = .ok (.getfield 29, 3) := by decide +kernel
theorem dX9_run_115 : decode cX9_run 115 = .ok (.iload 6, 2) := by decide +kernel
theorem dX9_run_117 : decode cX9_run 117 = .ok (.iload 8, 2) := by decide +kernel
theorem dX9_run_119 : decode cX9_run 119 = .ok (.iadd, 1) := by decide +kernel
theorem dX9_run_120 : decode cX9_run 120 = .ok (.iaload, 1) := by decide +kernel
theorem dX9_run_121 : decode cX9_run 121 = .ok (.iload 9, 2) := by decide +kernel
theorem dX9_run_123 : decode cX9_run 123 = .ok (.aload_n 0, 1) := by decide +kernel
theorem dX9_run_124 : decode cX9_run 124 = .ok (.getfield 26, 3) := by decide +kernel
theorem dX9_run_127 : decode cX9_run 127 = .ok (.iload 6, 2) := by decide +kernel
theorem dX9_run_129 : decode cX9_run 129 = .ok (.iload 8, 2) := by decide +kernel
theorem dX9_run_131 : decode cX9_run 131 = .ok (.iadd, 1) := by decide +kernel
theorem dX9_run_132 : decode cX9_run 132 = .ok (.iaload, 1) := by decide +kernel
theorem dX9_run_133 : decode cX9_run 133 = .ok (.if_icmp .ne 7, 3) := by decide +kernel
theorem dX9_run_136 : decode cX9_run 136 = .ok (.iconst 1, 1) := by decide +kernel
theorem dX9_run_137 : decode cX9_run 137 = .ok (.goto 4, 3) := by decide +kernel
theorem dX9_run_140 : decode cX9_run 140 = .ok (.iconst 0, 1) := by decide +kernel
theorem dX9_run_141 : decode cX9_run 141 = .ok (.iadd, 1) := by decide +kernel
theorem dX9_run_142 : decode cX9_run 142 = .ok (.iadd, 1) := by decide +kernel
theorem dX9_run_143 : decode cX9_run 143 = .ok (.istore 7, 2) := by decide +kernel
theorem dX9_run_145 : decode cX9_run 145 = .ok (.iinc 8 1, 3) := by decide +kernel
theorem dX9_run_148 : decode cX9_run 148 = .ok (.goto (-73), 3) := by decide +kernel
theorem dX9_run_151 : decode cX9_run 151 = .ok (.iload 7, 2) := by decide +kernel
theorem dX9_run_153 : decode cX9_run 153 = .ok (.aload_n 0, 1) := by decide +kernel
theorem dX9_run_154 : decode cX9_run 154 = .ok (.iload_n 1, 1) := by decide +kernel
theorem dX9_run_155 : decode cX9_run 155 = .ok (.iload_n 2, 1) := by decide +kernel
theorem dX9_run_156 : decode cX9_run 156 = .ok (.invokevirtual 125, 3) := by decide +kernel
theorem dX9_run_159 : decode cX9_run 159 = .ok (.if_icmp .le 5, 3) := by decide +kernel
theorem dX9_run_162 : decode cX9_run 162 = .ok (.iconst (-1), 1) := by decide +kernel
theorem dX9_run_163 : decode cX9_run 163 = .ok (.ireturn, 1) := by decide +kernel
theorem dX9_run_164 : decode cX9_run 164 = .ok (.aload_n 0, 1) := by decide +kernel
theorem dX9_run_165 : decode cX9_run 165 = .ok (.getfield 26, 3) := by decide +kernel
theorem dX9_run_168 : decode cX9_run 168 = .ok (.iload 6, 2) := by decide +kernel
theorem dX9_run_170 : decode cX9_run 170 = .ok (.iload 5, 2) := by decide +kernel
theorem dX9_run_172 : decode cX9_run 172 = .ok (.iadd, 1) := by decide +kernel
theorem dX9_run_173 : decode cX9_run 173 = .ok (.iload_n 3, 1) := by decide +kernel
theorem dX9_run_174 : decode cX9_run 174 = .ok (.iastore, 1) := by decide +kernel
theorem dX9_run_175 : decode cX9_run 175 = .ok (.aload_n 0, 1) := by decide +kernel
theorem dX9_run_176 : decode cX9_run 176 = .ok (.getfield 29, 3) := by decide +kernel
theorem dX9_run_179 : decode cX9_run 179 = .ok (.iload 6, 2) := by decide +kernel
theorem dX9_run_181 : decode cX9_run 181 = .ok (.iload 5, 2) := by decide +kernel
theorem dX9_run_183 : decode cX9_run 183 = .ok (.iadd, 1) := by decide +kernel
theorem dX9_run_184 : decode cX9_run 184 = .ok (.iload 4, 2) := by decide +kernel
theorem dX9_run_186 : decode cX9_run 186 = .ok (.iastore, 1) := by decide +kernel
theorem dX9_run_187 : decode cX9_run 187 = .ok (.aload_n 0, 1) := by decide +kernel
theorem dX9_run_188 : decode cX9_run 188 = .ok (.getfield 23, 3) := by decide +kernel
theorem dX9_run_191 : decode cX9_run 191 = .ok (.bipush 20, 2) := by decide +kernel
theorem dX9_run_193 : decode cX9_run 193 = .ok (.iload_n 1, 1) := by decide +kernel
theorem dX9_run_194 : decode cX9_run 194 = .ok (.imul, 1) := by decide +kernel
theorem dX9_run_195 : decode cX9_run 195 = .ok (.iload_n 2, 1) := by decide +kernel
theorem dX9_run_196 : decode cX9_run 196 = .ok (.iadd, 1) := by decide +kernel
theorem dX9_run_197 : decode cX9_run 197 = .ok (.dup2, 1) := by decide +kernel
theorem dX9_run_198 : decode cX9_run 198 = .ok (.iaload, 1) := by decide +kernel
theorem dX9_run_199 : decode cX9_run 199 = .ok (.iconst 1, 1) := by decide +kernel
theorem dX9_run_200 : decode cX9_run 200 = .ok (.iadd, 1) := by decide +kernel
theorem dX9_run_201 : decode cX9_run 201 = .ok (.iastore, 1) := by decide +kernel
theorem dX9_run_202 : decode cX9_run 202 = .ok (.aload_n 0, 1) := by decide +kernel
theorem dX9_run_203 : decode cX9_run 203 = .ok (.iload_n 1, 1) := by decide +kernel
theorem dX9_run_204 : decode cX9_run 204 = .ok (.invokevirtual 111, 3) := by decide +kernel
theorem dX9_run_207 : decode cX9_run 207 = .ok (.pop, 1) := by decide +kernel
theorem dX9_run_208 : decode cX9_run 208 = .ok (.iload 5, 2) := by decide +kernel
theorem dX9_run_210 : decode cX9_run 210 = .ok (.iconst 1, 1) := by decide +kernel
theorem dX9_run_211 : decode cX9_run 211 = .ok (.iadd, 1) := by decide +kernel
theorem dX9_run_212 : decode cX9_run 212 = .ok (.ireturn, 1) := by decide +kernel
theorem dX9_told_0 : decode cX9_told 0 = .ok (.aload_n 0, 1) := by decide +kernel
theorem dX9_told_1 : decode cX9_told 1 = .ok (.iload_n 1, 1) := by decide +kernel
theorem dX9_told_2 : decode cX9_told 2 = .ok (.invokevirtual 100, 3) := by decide +kernel
theorem dX9_told_5 : decode cX9_told 5 = .ok (.ifCond .ne 5, 3) := by decide +kernel
theorem dX9_told_8 : decode cX9_told 8 = .ok (.iconst (-1), 1) := by decide +kernel
theorem dX9_told_9 : decode cX9_told 9 = .ok (.ireturn, 1) := by decide +kernel
theorem dX9_told_10 : decode cX9_told 10 = .ok (.iconst 0, 1) := by decide +kernel
theorem dX9_told_11 : decode cX9_told 11 = .ok (.istore_n 3, 1) := by decide +kernel
theorem dX9_told_12 : decode cX9_told 12 = .ok (.iload_n 2, 1) := by decide +kernel
theorem dX9_told_13 : decode cX9_told 13 = .ok (.tableswitch 139 0 4 #[35, 42, 49, 56, 92], 35) := by decide +kernel
theorem dX9_told_48 : decode cX9_told 48 = .ok (.aload_n 0, 1) := by decide +kernel
theorem dX9_told_49 : decode cX9_told 49 = .ok (.getfield 9, 3) := by decide +kernel
theorem dX9_told_52 : decode cX9_told 52 = .ok (.iload_n 1, 1) := by decide +kernel
theorem dX9_told_53 : decode cX9_told 53 = .ok (.iaload, 1) := by decide +kernel
theorem dX9_told_54 : decode cX9_told 54 = .ok (.ireturn, 1) := by decide +kernel
theorem dX9_told_55 : decode cX9_told 55 = .ok (.aload_n 0, 1) := by decide +kernel
theorem dX9_told_56 : decode cX9_told 56 = .ok (.getfield 13, 3) := by decide +kernel
theorem dX9_told_59 : decode cX9_told 59 = .ok (.iload_n 1, 1) := by decide +kernel
theorem dX9_told_60 : decode cX9_told 60 = .ok (.iaload, 1) := by decide +kernel
theorem dX9_told_61 : decode cX9_told 61 = .ok (.ireturn, 1) := by decide +kernel
theorem dX9_told_62 : decode cX9_told 62 = .ok (.aload_n 0, 1) := by decide +kernel
theorem dX9_told_63 : decode cX9_told 63 = .ok (.getfield 16, 3) := by decide +kernel
theorem dX9_told_66 : decode cX9_told 66 = .ok (.iload_n 1, 1) := by decide +kernel
theorem dX9_told_67 : decode cX9_told 67 = .ok (.iaload, 1) := by decide +kernel
theorem dX9_told_68 : decode cX9_told 68 = .ok (.ireturn, 1) := by decide +kernel
theorem dX9_told_69 : decode cX9_told 69 = .ok (.iconst 0, 1) := by decide +kernel
theorem dX9_told_70 : decode cX9_told 70 = .ok (.istore 4, 2) := by decide +kernel
theorem dX9_told_72 : decode cX9_told 72 = .ok (.iload 4, 2) := by decide +kernel
theorem dX9_told_74 : decode cX9_told 74 = .ok (.aload_n 0, 1) := by decide +kernel
theorem dX9_told_75 : decode cX9_told 75 = .ok (.iload_n 1, 1) := by decide +kernel
theorem dX9_told_76 : decode cX9_told 76 = .ok (.invokevirtual 104, 3) := by decide +kernel
theorem dX9_told_79 : decode cX9_told 79 = .ok (.if_icmp .ge 24, 3) := by decide +kernel
theorem dX9_told_82 : decode cX9_told 82 = .ok (.iload_n 3, 1) := by decide +kernel
theorem dX9_told_83 : decode cX9_told 83 = .ok (.aload_n 0, 1) := by decide +kernel
theorem dX9_told_84 : decode cX9_told 84 = .ok (.getfield 23, 3) := by decide +kernel
theorem dX9_told_87 : decode cX9_told 87 = .ok (.bipush 20, 2) := by decide +kernel
theorem dX9_told_89 : decode cX9_told 89 = .ok (.iload_n 1, 1) := by decide +kernel
theorem dX9_told_90 : decode cX9_told 90 = .ok (.imul, 1) := by decide +kernel
theorem dX9_told_91 : decode cX9_told 91 = .ok (.iload 4, 2) := by decide +kernel
theorem dX9_told_93 : decode cX9_told 93 = .ok (.iadd, 1) := by decide +kernel
theorem dX9_told_94 : decode cX9_told 94 = .ok (.iaload, 1) := by decide +kernel
theorem dX9_told_95 : decode cX9_told 95 = .ok (.iadd, 1) := by decide +kernel
theorem dX9_told_96 : decode cX9_told 96 = .ok (.istore_n 3, 1) := by decide +kernel
theorem dX9_told_97 : decode cX9_told 97 = .ok (.iinc 4 1, 3) := by decide +kernel
theorem dX9_told_100 : decode cX9_told 100 = .ok (.goto (-28), 3) := by decide +kernel
theorem dX9_told_103 : decode cX9_told 103 = .ok (.iload_n 3, 1) := by decide +kernel
theorem dX9_told_104 : decode cX9_told 104 = .ok (.ireturn, 1) := by decide +kernel
theorem dX9_told_105 : decode cX9_told 105 = .ok (.iconst 0, 1) := by decide +kernel
theorem dX9_told_106 : decode cX9_told 106 = .ok (.istore 4, 2) := by decide +kernel
theorem dX9_told_108 : decode cX9_told 108 = .ok (.iload 4, 2) := by decide +kernel
theorem dX9_told_110 : decode cX9_told 110 = .ok (.aload_n 0, 1) := by decide +kernel
theorem dX9_told_111 : decode cX9_told 111 = .ok (.iload_n 1, 1) := by decide +kernel
theorem dX9_told_112 : decode cX9_told 112 = .ok (.invokevirtual 108, 3) := by decide +kernel
theorem dX9_told_115 : decode cX9_told 115 = .ok (.if_icmp .ge 35, 3) := by decide +kernel
theorem dX9_told_118 : decode cX9_told 118 = .ok (.iload_n 3, 1) := by decide +kernel
theorem dX9_told_119 : decode cX9_told 119 = .ok (.aload_n 0, 1) := by decide +kernel
theorem dX9_told_120 : decode cX9_told 120 = .ok (.getfield 32, 3) := by decide +kernel
theorem dX9_told_123 : decode cX9_told 123 = .ok (.bipush 100, 2) := by decide +kernel
theorem dX9_told_125 : decode cX9_told 125 = .ok (.iload_n 1, 1) := by decide +kernel
theorem dX9_told_126 : decode cX9_told 126 = .ok (.imul, 1) := by decide +kernel
theorem dX9_told_127 : decode cX9_told 127 = .ok (.iload 4, 2) := by decide +kernel
theorem dX9_told_129 : decode cX9_told 129 = .ok (.iadd, 1) := by decide +kernel
theorem dX9_told_130 : decode cX9_told 130 = .ok (.iaload, 1) := by decide +kernel
theorem dX9_told_131 : decode cX9_told 131 = .ok (.invokestatic 128, 3) := by decide +kernel
theorem dX9_told_134 : decode cX9_told 134 = .ok (.ifCond .eq 7, 3) := by decide +kernel
theorem dX9_told_137 : decode cX9_told 137 = .ok (.iconst 1, 1) := by decide +kernel
theorem dX9_told_138 : decode cX9_told 138 = .ok (.goto 4, 3) := by decide +kernel
theorem dX9_told_141 : decode cX9_told 141 = .ok (.iconst 0, 1) := by decide +kernel
theorem dX9_told_142 : decode cX9_told 142 = .ok (.iadd, 1) := by decide +kernel
theorem dX9_told_143 : decode cX9_told 143 = .ok (.istore_n 3, 1) := by decide +kernel
theorem dX9_told_144 : decode cX9_told 144 = .ok (.iinc 4 1, 3) := by decide +kernel
theorem dX9_told_147 : decode cX9_told 147 = .ok (.goto (-39), 3) := by decide +kernel
theorem dX9_told_150 : decode cX9_told 150 = .ok (.iload_n 3, 1) := by decide +kernel
theorem dX9_told_151 : decode cX9_told 151 = .ok (.ireturn, 1) := by decide +kernel
theorem dX9_told_152 : decode cX9_told 152 = .ok (.iconst (-1), 1) := by decide +kernel
theorem dX9_told_153 : decode cX9_told 153 = .ok (.ireturn, 1) := by decide +kernel
theorem dX9_clue_0 : decode cX9_clue 0 = .ok (.aload_n 0, 1) := by decide +kernel
theorem dX9_clue_1 : decode cX9_clue 1 = .ok (.iload_n 1, 1) := by decide +kernel
theorem dX9_clue_2 : decode cX9_clue 2 = .ok (.iload_n 2, 1) := by decide +kernel
theorem dX9_clue_3 : decode cX9_clue 3 = .ok (.invokevirtual 117, 3) := by decide +kernel
theorem dX9_clue_6 : decode cX9_clue 6 = .ok (.ifCond .eq 24, 3) := by decide +kernel
theorem dX9_clue_9 : decode cX9_clue 9 = .ok (.iload_n 3, 1) := by decide +kernel
theorem dX9_clue_10 : decode cX9_clue 10 = .ok (.iconst 0, 1) := by decide +kernel
theorem dX9_clue_11 : decode cX9_clue 11 = .ok (.aload_n 0, 1) := by decide +kernel
theorem dX9_clue_12 : decode cX9_clue 12 = .ok (.getfield 23, 3) := by decide +kernel
theorem dX9_clue_15 : decode cX9_clue 15 = .ok (.bipush 20, 2) := by decide +kernel
theorem dX9_clue_17 : decode cX9_clue 17 = .ok (.iload_n 1, 1) := by decide +kernel
theorem dX9_clue_18 : decode cX9_clue 18 = .ok (.imul, 1) := by decide +kernel
theorem dX9_clue_19 : decode cX9_clue 19 = .ok (.iload_n 2, 1) := by decide +kernel
theorem dX9_clue_20 : decode cX9_clue 20 = .ok (.iadd, 1) := by decide +kernel
theorem dX9_clue_21 : decode cX9_clue 21 = .ok (.iaload, 1) := by decide +kernel
theorem dX9_clue_22 : decode cX9_clue 22 = .ok (.iconst 1, 1) := by decide +kernel
theorem dX9_clue_23 : decode cX9_clue 23 = .ok (.isub, 1) := by decide +kernel
theorem dX9_clue_24 : decode cX9_clue 24 = .ok (.invokestatic 96, 3) := by decide +kernel
theorem dX9_clue_27 : decode cX9_clue 27 = .ok (.ifCond .ne 5, 3) := by decide +kernel
theorem dX9_clue_30 : decode cX9_clue 30 = .ok (.iconst (-1), 1) := by decide +kernel
theorem dX9_clue_31 : decode cX9_clue 31 = .ok (.ireturn, 1) := by decide +kernel
theorem dX9_clue_32 : decode cX9_clue 32 = .ok (.iload 4, 2) := by decide +kernel
theorem dX9_clue_34 : decode cX9_clue 34 = .ok (.ifCond .ne 19, 3) := by decide +kernel
theorem dX9_clue_37 : decode cX9_clue 37 = .ok (.aload_n 0, 1) := by decide +kernel
theorem dX9_clue_38 : decode cX9_clue 38 = .ok (.getfield 26, 3) := by decide +kernel
theorem dX9_clue_41 : decode cX9_clue 41 = .ok (.aload_n 0, 1) := by decide +kernel
theorem dX9_clue_42 : decode cX9_clue 42 = .ok (.iload_n 1, 1) := by decide +kernel
theorem dX9_clue_43 : decode cX9_clue 43 = .ok (.iload_n 2, 1) := by decide +kernel
theorem dX9_clue_44 : decode cX9_clue 44 = .ok (.invokevirtual 121, 3) := by decide +kernel
theorem dX9_clue_47 : decode cX9_clue 47 = .ok (.iload_n 3, 1) := by decide +kernel
theorem dX9_clue_48 : decode cX9_clue 48 = .ok (.iadd, 1) := by decide +kernel
theorem dX9_clue_49 : decode cX9_clue 49 = .ok (.iaload, 1) := by decide +kernel
theorem dX9_clue_50 : decode cX9_clue 50 = .ok (.goto 26, 3) := by decide +kernel
theorem dX9_clue_53 : decode cX9_clue 53 = .ok (.iload 4, 2) := by decide +kernel
theorem dX9_clue_55 : decode cX9_clue 55 = .ok (.iconst 1, 1) := by decide +kernel
theorem dX9_clue_56 : decode cX9_clue 56 = .ok (.if_icmp .ne 19, 3) := by decide +kernel
theorem dX9_clue_59 : decode cX9_clue 59 = .ok (.aload_n 0, 1) := by decide +kernel
theorem dX9_clue_60 : decode cX9_clue 60 = .ok (.getfield 29, 3) := by decide +kernel
theorem dX9_clue_63 : decode cX9_clue 63 = .ok (.aload_n 0, 1) := by decide +kernel
theorem dX9_clue_64 : decode cX9_clue 64 = .ok (.iload_n 1, 1) := by decide +kernel
theorem dX9_clue_65 : decode cX9_clue 65 = .ok (.iload_n 2, 1) := by decide +kernel
theorem dX9_clue_66 : decode cX9_clue 66 = .ok (.invokevirtual 121, 3) := by decide +kernel
theorem dX9_clue_69 : decode cX9_clue 69 = .ok (.iload_n 3, 1) := by decide +kernel
theorem dX9_clue_70 : decode cX9_clue 70 = .ok (.iadd, 1) := by decide +kernel
theorem dX9_clue_71 : decode cX9_clue 71 = .ok (.iaload, 1) := by decide +kernel
theorem dX9_clue_72 : decode cX9_clue 72 = .ok (.goto 4, 3) := by decide +kernel
theorem dX9_clue_75 : decode cX9_clue 75 = .ok (.iconst (-1), 1) := by decide +kernel
theorem dX9_clue_76 : decode cX9_clue 76 = .ok (.ireturn, 1) := by decide +kernel
theorem dX9_choose_0 : decode cX9_choose 0 = .ok (.aload_n 0, 1) := by decide +kernel
theorem dX9_choose_1 : decode cX9_choose 1 = .ok (.iload_n 1, 1) := by decide +kernel
theorem dX9_choose_2 : decode cX9_choose 2 = .ok (.iload_n 2, 1) := by decide +kernel
theorem dX9_choose_3 : decode cX9_choose 3 = .ok (.invokevirtual 131, 3) := by decide +kernel
theorem dX9_choose_6 : decode cX9_choose 6 = .ok (.ifCond .eq 30, 3) := by decide +kernel
theorem dX9_choose_9 : decode cX9_choose 9 = .ok (.iload_n 3, 1) := by decide +kernel
theorem dX9_choose_10 : decode cX9_choose 10 = .ok (.iconst 0, 1) := by decide +kernel
theorem dX9_choose_11 : decode cX9_choose 11 = .ok (.iconst 3, 1) := by decide +kernel
theorem dX9_choose_12 : decode cX9_choose 12 = .ok (.invokestatic 96, 3) := by decide +kernel
theorem dX9_choose_15 : decode cX9_choose 15 = .ok (.ifCond .eq 21, 3) := by decide +kernel
theorem dX9_choose_18 : decode cX9_choose 18 = .ok (.aload_n 0, 1) := by decide +kernel
theorem dX9_choose_19 : decode cX9_choose 19 = .ok (.getfield 32, 3) := by decide +kernel
theorem dX9_choose_22 : decode cX9_choose 22 = .ok (.bipush 100, 2) := by decide +kernel
theorem dX9_choose_24 : decode cX9_choose 24 = .ok (.iload_n 1, 1) := by decide +kernel
theorem dX9_choose_25 : decode cX9_choose 25 = .ok (.imul, 1) := by decide +kernel
theorem dX9_choose_26 : decode cX9_choose 26 = .ok (.iload_n 2, 1) := by decide +kernel
theorem dX9_choose_27 : decode cX9_choose 27 = .ok (.iadd, 1) := by decide +kernel
theorem dX9_choose_28 : decode cX9_choose 28 = .ok (.iaload, 1) := by decide +kernel
theorem dX9_choose_29 : decode cX9_choose 29 = .ok (.iload_n 3, 1) := by decide +kernel
theorem dX9_choose_30 : decode cX9_choose 30 = .ok (.ishr, 1) := by decide +kernel
theorem dX9_choose_31 : decode cX9_choose 31 = .ok (.iconst 1, 1) := by decide +kernel
theorem dX9_choose_32 : decode cX9_choose 32 = .ok (.iand, 1) := by decide +kernel
theorem dX9_choose_33 : decode cX9_choose 33 = .ok (.ifCond .ne 5, 3) := by decide +kernel
theorem dX9_choose_36 : decode cX9_choose 36 = .ok (.iconst 0, 1) := by decide +kernel
theorem dX9_choose_37 : decode cX9_choose 37 = .ok (.ireturn, 1) := by decide +kernel
theorem dX9_choose_38 : decode cX9_choose 38 = .ok (.aload_n 0, 1) := by decide +kernel
theorem dX9_choose_39 : decode cX9_choose 39 = .ok (.getfield 32, 3) := by decide +kernel
theorem dX9_choose_42 : decode cX9_choose 42 = .ok (.bipush 100, 2) := by decide +kernel
theorem dX9_choose_44 : decode cX9_choose 44 = .ok (.iload_n 1, 1) := by decide +kernel
theorem dX9_choose_45 : decode cX9_choose 45 = .ok (.imul, 1) := by decide +kernel
theorem dX9_choose_46 : decode cX9_choose 46 = .ok (.iload_n 2, 1) := by decide +kernel
theorem dX9_choose_47 : decode cX9_choose 47 = .ok (.iadd, 1) := by decide +kernel
theorem dX9_choose_48 : decode cX9_choose 48 = .ok (.iconst 1, 1) := by decide +kernel
theorem dX9_choose_49 : decode cX9_choose 49 = .ok (.iload_n 3, 1) := by decide +kernel
theorem dX9_choose_50 : decode cX9_choose 50 = .ok (.ishl, 1) := by decide +kernel
theorem dX9_choose_51 : decode cX9_choose 51 = .ok (.iastore, 1) := by decide +kernel
theorem dX9_choose_52 : decode cX9_choose 52 = .ok (.iconst 1, 1) := by decide +kernel
theorem dX9_choose_53 : decode cX9_choose 53 = .ok (.ireturn, 1) := by decide +kernel
theorem dX9_bar_0 : decode cX9_bar 0 = .ok (.aload_n 0, 1) := by decide +kernel
theorem dX9_bar_1 : decode cX9_bar 1 = .ok (.iload_n 1, 1) := by decide +kernel
theorem dX9_bar_2 : decode cX9_bar 2 = .ok (.iload_n 2, 1) := by decide +kernel
theorem dX9_bar_3 : decode cX9_bar 3 = .ok (.invokevirtual 131, 3) := by decide +kernel
theorem dX9_bar_6 : decode cX9_bar 6 = .ok (.ifCond .eq 12, 3) := by decide +kernel
theorem dX9_bar_9 : decode cX9_bar 9 = .ok (.iload_n 3, 1) := by decide +kernel
theorem dX9_bar_10 : decode cX9_bar 10 = .ok (.iconst 0, 1) := by decide +kernel
theorem dX9_bar_11 : decode cX9_bar 11 = .ok (.iconst 3, 1) := by decide +kernel
theorem dX9_bar_12 : decode cX9_bar 12 = .ok (.invokestatic 96, 3) := by decide +kernel
theorem dX9_bar_15 : decode cX9_bar 15 = .ok (.ifCond .ne 5, 3) := by decide +kernel
theorem dX9_bar_18 : decode cX9_bar 18 = .ok (.iconst 0, 1) := by decide +kernel
theorem dX9_bar_19 : decode cX9_bar 19 = .ok (.ireturn, 1) := by decide +kernel
theorem dX9_bar_20 : decode cX9_bar 20 = .ok (.aload_n 0, 1) := by decide +kernel
theorem dX9_bar_21 : decode cX9_bar 21 = .ok (.getfield 32, 3) := by decide +kernel
theorem dX9_bar_24 : decode cX9_bar 24 = .ok (.bipush 100, 2) := by decide +kernel
theorem dX9_bar_26 : decode cX9_bar 26 = .ok (.iload_n 1, 1) := by decide +kernel
theorem dX9_bar_27 : decode cX9_bar 27 = .ok (.imul, 1) := by decide +kernel
theorem dX9_bar_28 : decode cX9_bar 28 = .ok (.iload_n 2, 1) := by decide +kernel
theorem dX9_bar_29 : decode cX9_bar 29 = .ok (.iadd, 1) := by decide +kernel
theorem dX9_bar_30 : decode cX9_bar 30 = .ok (.iaload, 1) := by decide +kernel
theorem dX9_bar_31 : decode cX9_bar 31 = .ok (.istore 4, 2) := by decide +kernel
theorem dX9_bar_33 : decode cX9_bar 33 = .ok (.iload 4, 2) := by decide +kernel
theorem dX9_bar_35 : decode cX9_bar 35 = .ok (.iload_n 3, 1) := by decide +kernel
theorem dX9_bar_36 : decode cX9_bar 36 = .ok (.ishr, 1) := by decide +kernel
theorem dX9_bar_37 : decode cX9_bar 37 = .ok (.iconst 1, 1) := by decide +kernel
theorem dX9_bar_38 : decode cX9_bar 38 = .ok (.iand, 1) := by decide +kernel
theorem dX9_bar_39 : decode cX9_bar 39 = .ok (.ifCond .eq 11, 3) := by decide +kernel
theorem dX9_bar_42 : decode cX9_bar 42 = .ok (.iload 4, 2) := by decide +kernel
theorem dX9_bar_44 : decode cX9_bar 44 = .ok (.invokestatic 128, 3) := by decide +kernel
theorem dX9_bar_47 : decode cX9_bar 47 = .ok (.ifCond .eq 5, 3) := by decide +kernel
theorem dX9_bar_50 : decode cX9_bar 50 = .ok (.iconst 0, 1) := by decide +kernel
theorem dX9_bar_51 : decode cX9_bar 51 = .ok (.ireturn, 1) := by decide +kernel
theorem dX9_bar_52 : decode cX9_bar 52 = .ok (.aload_n 0, 1) := by decide +kernel
theorem dX9_bar_53 : decode cX9_bar 53 = .ok (.getfield 32, 3) := by decide +kernel
theorem dX9_bar_56 : decode cX9_bar 56 = .ok (.bipush 100, 2) := by decide +kernel
theorem dX9_bar_58 : decode cX9_bar 58 = .ok (.iload_n 1, 1) := by decide +kernel
theorem dX9_bar_59 : decode cX9_bar 59 = .ok (.imul, 1) := by decide +kernel
theorem dX9_bar_60 : decode cX9_bar 60 = .ok (.iload_n 2, 1) := by decide +kernel
theorem dX9_bar_61 : decode cX9_bar 61 = .ok (.iadd, 1) := by decide +kernel
theorem dX9_bar_62 : decode cX9_bar 62 = .ok (.iload 4, 2) := by decide +kernel
theorem dX9_bar_64 : decode cX9_bar 64 = .ok (.iconst 1, 1) := by decide +kernel
theorem dX9_bar_65 : decode cX9_bar 65 = .ok (.iload_n 3, 1) := by decide +kernel
theorem dX9_bar_66 : decode cX9_bar 66 = .ok (.ishl, 1) := by decide +kernel
theorem dX9_bar_67 : decode cX9_bar 67 = .ok (.iconst (-1), 1) := by decide +kernel
theorem dX9_bar_68 : decode cX9_bar 68 = .ok (.ixor, 1) := by decide +kernel
theorem dX9_bar_69 : decode cX9_bar 69 = .ok (.iand, 1) := by decide +kernel
theorem dX9_bar_70 : decode cX9_bar 70 = .ok (.iastore, 1) := by decide +kernel
theorem dX9_bar_71 : decode cX9_bar 71 = .ok (.iconst 1, 1) := by decide +kernel
theorem dX9_bar_72 : decode cX9_bar 72 = .ok (.ireturn, 1) := by decide +kernel
theorem dX9_set_0 : decode cX9_set 0 = .ok (.aload_n 0, 1) := by decide +kernel
theorem dX9_set_1 : decode cX9_set 1 = .ok (.iload_n 1, 1) := by decide +kernel
theorem dX9_set_2 : decode cX9_set 2 = .ok (.iload_n 2, 1) := by decide +kernel
theorem dX9_set_3 : decode cX9_set 3 = .ok (.invokevirtual 131, 3) := by decide +kernel
theorem dX9_set_6 : decode cX9_set 6 = .ok (.ifCond .eq 17, 3) := by decide +kernel
theorem dX9_set_9 : decode cX9_set 9 = .ok (.aload_n 0, 1) := by decide +kernel
theorem dX9_set_10 : decode cX9_set 10 = .ok (.getfield 32, 3) := by decide +kernel
theorem dX9_set_13 : decode cX9_set 13 = .ok (.bipush 100, 2) := by decide +kernel
theorem dX9_set_15 : decode cX9_set 15 = .ok (.iload_n 1, 1) := by decide +kernel
theorem dX9_set_16 : decode cX9_set 16 = .ok (.imul, 1) := by decide +kernel
theorem dX9_set_17 : decode cX9_set 17 = .ok (.iload_n 2, 1) := by decide +kernel
theorem dX9_set_18 : decode cX9_set 18 = .ok (.iadd, 1) := by decide +kernel
theorem dX9_set_19 : decode cX9_set 19 = .ok (.iaload, 1) := by decide +kernel
theorem dX9_set_20 : decode cX9_set 20 = .ok (.goto 4, 3) := by decide +kernel
theorem dX9_set_23 : decode cX9_set 23 = .ok (.iconst 0, 1) := by decide +kernel
theorem dX9_set_24 : decode cX9_set 24 = .ok (.ireturn, 1) := by decide +kernel
theorem dX9_fits_0 : decode cX9_fits 0 = .ok (.iconst 0, 1) := by decide +kernel
theorem dX9_fits_1 : decode cX9_fits 1 = .ok (.istore_n 3, 1) := by decide +kernel
theorem dX9_fits_2 : decode cX9_fits 2 = .ok (.iload_n 3, 1) := by decide +kernel
theorem dX9_fits_3 : decode cX9_fits 3 = .ok (.aload_n 0, 1) := by decide +kernel
theorem dX9_fits_4 : decode cX9_fits 4 = .ok (.getfield 134, 3) := by decide +kernel
theorem dX9_fits_7 : decode cX9_fits 7 = .ok (.if_icmp .ge 16, 3) := by decide +kernel
theorem dX9_fits_10 : decode cX9_fits 10 = .ok (.aload_n 0, 1) := by decide +kernel
theorem dX9_fits_11 : decode cX9_fits 11 = .ok (.getfield 50, 3) := by decide +kernel
theorem dX9_fits_14 : decode cX9_fits 14 = .ok (.iload_n 3, 1) := by decide +kernel
theorem dX9_fits_15 : decode cX9_fits 15 = .ok (.iconst 0, 1) := by decide +kernel
theorem dX9_fits_16 : decode cX9_fits 16 = .ok (.iastore, 1) := by decide +kernel
theorem dX9_fits_17 : decode cX9_fits 17 = .ok (.iinc 3 1, 3) := by decide +kernel
theorem dX9_fits_20 : decode cX9_fits 20 = .ok (.goto (-18), 3) := by decide +kernel
theorem dX9_fits_23 : decode cX9_fits 23 = .ok (.iconst 0, 1) := by decide +kernel
theorem dX9_fits_24 : decode cX9_fits 24 = .ok (.istore_n 3, 1) := by decide +kernel
theorem dX9_fits_25 : decode cX9_fits 25 = .ok (.iload_n 3, 1) := by decide +kernel
theorem dX9_fits_26 : decode cX9_fits 26 = .ok (.iload_n 2, 1) := by decide +kernel
theorem dX9_fits_27 : decode cX9_fits 27 = .ok (.if_icmp .ge 53, 3) := by decide +kernel
theorem dX9_fits_30 : decode cX9_fits 30 = .ok (.iconst 0, 1) := by decide +kernel
theorem dX9_fits_31 : decode cX9_fits 31 = .ok (.istore 4, 2) := by decide +kernel
theorem dX9_fits_33 : decode cX9_fits 33 = .ok (.iload 4, 2) := by decide +kernel
theorem dX9_fits_35 : decode cX9_fits 35 = .ok (.aload_n 0, 1) := by decide +kernel
theorem dX9_fits_36 : decode cX9_fits 36 = .ok (.getfield 29, 3) := by decide +kernel
theorem dX9_fits_39 : decode cX9_fits 39 = .ok (.iload_n 1, 1) := by decide +kernel
theorem dX9_fits_40 : decode cX9_fits 40 = .ok (.iload_n 3, 1) := by decide +kernel
theorem dX9_fits_41 : decode cX9_fits 41 = .ok (.iadd, 1) := by decide +kernel
theorem dX9_fits_42 : decode cX9_fits 42 = .ok (.iaload, 1) := by decide +kernel
theorem dX9_fits_43 : decode cX9_fits 43 = .ok (.if_icmp .ge 31, 3) := by decide +kernel
theorem dX9_fits_46 : decode cX9_fits 46 = .ok (.aload_n 0, 1) := by decide +kernel
theorem dX9_fits_47 : decode cX9_fits 47 = .ok (.getfield 50, 3) := by decide +kernel
theorem dX9_fits_50 : decode cX9_fits 50 = .ok (.aload_n 0, 1) := by decide +kernel
theorem dX9_fits_51 : decode cX9_fits 51 = .ok (.getfield 53, 3) := by decide +kernel
theorem dX9_fits_54 : decode cX9_fits 54 = .ok (.iload_n 3, 1) := by decide +kernel
theorem dX9_fits_55 : decode cX9_fits 55 = .ok (.iaload, 1) := by decide +kernel
theorem dX9_fits_56 : decode cX9_fits 56 = .ok (.iload 4, 2) := by decide +kernel
theorem dX9_fits_58 : decode cX9_fits 58 = .ok (.iadd, 1) := by decide +kernel
theorem dX9_fits_59 : decode cX9_fits 59 = .ok (.aload_n 0, 1) := by decide +kernel
theorem dX9_fits_60 : decode cX9_fits 60 = .ok (.getfield 26, 3) := by decide +kernel
theorem dX9_fits_63 : decode cX9_fits 63 = .ok (.iload_n 1, 1) := by decide +kernel
theorem dX9_fits_64 : decode cX9_fits 64 = .ok (.iload_n 3, 1) := by decide +kernel
theorem dX9_fits_65 : decode cX9_fits 65 = .ok (.iadd, 1) := by decide +kernel
theorem dX9_fits_66 : decode cX9_fits 66 = .ok (.iaload, 1) := by decide +kernel
theorem dX9_fits_67 : decode cX9_fits 67 = .ok (.iastore, 1) := by decide +kernel
theorem dX9_fits_68 : decode cX9_fits 68 = .ok (.iinc 4 1, 3) := by decide +kernel
theorem dX9_fits_71 : decode cX9_fits 71 = .ok (.goto (-38), 3) := by decide +kernel
theorem dX9_fits_74 : decode cX9_fits 74 = .ok (.iinc 3 1, 3) := by decide +kernel
theorem dX9_fits_77 : decode cX9_fits 77 = .ok (.goto (-52), 3) := by decide +kernel
theorem dX9_fits_80 : decode cX9_fits 80 = .ok (.iconst 0, 1) := by decide +kernel
theorem dX9_fits_81 : decode cX9_fits 81 = .ok (.istore_n 3, 1) := by decide +kernel
theorem dX9_fits_82 : decode cX9_fits 82 = .ok (.iload_n 3, 1) := by decide +kernel
theorem dX9_fits_83 : decode cX9_fits 83 = .ok (.aload_n 0, 1) := by decide +kernel
theorem dX9_fits_84 : decode cX9_fits 84 = .ok (.getfield 134, 3) := by decide +kernel
theorem dX9_fits_87 : decode cX9_fits 87 = .ok (.if_icmp .ge 29, 3) := by decide +kernel
theorem dX9_fits_90 : decode cX9_fits 90 = .ok (.aload_n 0, 1) := by decide +kernel
theorem dX9_fits_91 : decode cX9_fits 91 = .ok (.getfield 44, 3) := by decide +kernel
theorem dX9_fits_94 : decode cX9_fits 94 = .ok (.iload_n 3, 1) := by decide +kernel
theorem dX9_fits_95 : decode cX9_fits 95 = .ok (.iaload, 1) := by decide +kernel
theorem dX9_fits_96 : decode cX9_fits 96 = .ok (.aload_n 0, 1) := by decide +kernel
theorem dX9_fits_97 : decode cX9_fits 97 = .ok (.getfield 50, 3) := by decide +kernel
theorem dX9_fits_100 : decode cX9_fits 100 = .ok (.iload_n 3, 1) := by decide +kernel
theorem dX9_fits_101 : decode cX9_fits 101 = .ok (.iaload, 1) := by decide +kernel
theorem dX9_fits_102 : decode cX9_fits 102 = .ok (.ishr, 1) := by decide +kernel
theorem dX9_fits_103 : decode cX9_fits 103 = .ok (.iconst 1, 1) := by decide +kernel
theorem dX9_fits_104 : decode cX9_fits 104 = .ok (.iand, 1) := by decide +kernel
theorem dX9_fits_105 : decode cX9_fits 105 = .ok (.ifCond .ne 5, 3) := by decide +kernel
theorem dX9_fits_108 : decode cX9_fits 108 = .ok (.iconst 0, 1) := by decide +kernel
theorem dX9_fits_109 : decode cX9_fits 109 = .ok (.ireturn, 1) := by decide +kernel
theorem dX9_fits_110 : decode cX9_fits 110 = .ok (.iinc 3 1, 3) := by decide +kernel
theorem dX9_fits_113 : decode cX9_fits 113 = .ok (.goto (-31), 3) := by decide +kernel
theorem dX9_fits_116 : decode cX9_fits 116 = .ok (.iconst 1, 1) := by decide +kernel
theorem dX9_fits_117 : decode cX9_fits 117 = .ok (.ireturn, 1) := by decide +kernel
theorem dX9_first_0 : decode cX9_first 0 = .ok (.iload_n 2, 1) := by decide +kernel
theorem dX9_first_1 : decode cX9_first 1 = .ok (.ifCond .ne 5, 3) := by decide +kernel
theorem dX9_first_4 : decode cX9_first 4 = .ok (.iconst 0, 1) := by decide +kernel
theorem dX9_first_5 : decode cX9_first 5 = .ok (.ireturn, 1) := by decide +kernel
theorem dX9_first_6 : decode cX9_first 6 = .ok (.aload_n 0, 1) := by decide +kernel
theorem dX9_first_7 : decode cX9_first 7 = .ok (.getfield 53, 3) := by decide +kernel
theorem dX9_first_10 : decode cX9_first 10 = .ok (.iload_n 2, 1) := by decide +kernel
theorem dX9_first_11 : decode cX9_first 11 = .ok (.iconst 1, 1) := by decide +kernel
theorem dX9_first_12 : decode cX9_first 12 = .ok (.isub, 1) := by decide +kernel
theorem dX9_first_13 : decode cX9_first 13 = .ok (.iaload, 1) := by decide +kernel
theorem dX9_first_14 : decode cX9_first 14 = .ok (.aload_n 0, 1) := by decide +kernel
theorem dX9_first_15 : decode cX9_first 15 = .ok (.getfield 29, 3) := by decide +kernel
theorem dX9_first_18 : decode cX9_first 18 = .ok (.iload_n 1, 1) := by decide +kernel
theorem dX9_first_19 : decode cX9_first 19 = .ok (.iload_n 2, 1) := by decide +kernel
theorem dX9_first_20 : decode cX9_first 20 = .ok (.iadd, 1) := by decide +kernel
theorem dX9_first_21 : decode cX9_first 21 = .ok (.iconst 1, 1) := by decide +kernel
theorem dX9_first_22 : decode cX9_first 22 = .ok (.isub, 1) := by decide +kernel
theorem dX9_first_23 : decode cX9_first 23 = .ok (.iaload, 1) := by decide +kernel
theorem dX9_first_24 : decode cX9_first 24 = .ok (.iadd, 1) := by decide +kernel
theorem dX9_first_25 : decode cX9_first 25 = .ok (.aload_n 0, 1) := by decide +kernel
theorem dX9_first_26 : decode cX9_first 26 = .ok (.getfield 26, 3) := by decide +kernel
theorem dX9_first_29 : decode cX9_first 29 = .ok (.iload_n 1, 1) := by decide +kernel
theorem dX9_first_30 : decode cX9_first 30 = .ok (.iload_n 2, 1) := by decide +kernel
theorem dX9_first_31 : decode cX9_first 31 = .ok (.iadd, 1) := by decide +kernel
theorem dX9_first_32 : decode cX9_first 32 = .ok (.iaload, 1) := by decide +kernel
theorem dX9_first_33 : decode cX9_first 33 = .ok (.aload_n 0, 1) := by decide +kernel
theorem dX9_first_34 : decode cX9_first 34 = .ok (.getfield 26, 3) := by decide +kernel
theorem dX9_first_37 : decode cX9_first 37 = .ok (.iload_n 1, 1) := by decide +kernel
theorem dX9_first_38 : decode cX9_first 38 = .ok (.iload_n 2, 1) := by decide +kernel
theorem dX9_first_39 : decode cX9_first 39 = .ok (.iadd, 1) := by decide +kernel
theorem dX9_first_40 : decode cX9_first 40 = .ok (.iconst 1, 1) := by decide +kernel
theorem dX9_first_41 : decode cX9_first 41 = .ok (.isub, 1) := by decide +kernel
theorem dX9_first_42 : decode cX9_first 42 = .ok (.iaload, 1) := by decide +kernel
theorem dX9_first_43 : decode cX9_first 43 = .ok (.if_icmp .ne 7, 3) := by decide +kernel
theorem dX9_first_46 : decode cX9_first 46 = .ok (.iconst 1, 1) := by decide +kernel
theorem dX9_first_47 : decode cX9_first 47 = .ok (.goto 4, 3) := by decide +kernel
theorem dX9_first_50 : decode cX9_first 50 = .ok (.iconst 0, 1) := by decide +kernel
theorem dX9_first_51 : decode cX9_first 51 = .ok (.iadd, 1) := by decide +kernel
theorem dX9_first_52 : decode cX9_first 52 = .ok (.ireturn, 1) := by decide +kernel
theorem dX9_lays_0 : decode cX9_lays 0 = .ok (.iload_n 2, 1) := by decide +kernel
theorem dX9_lays_1 : decode cX9_lays 1 = .ok (.istore 4, 2) := by decide +kernel
theorem dX9_lays_3 : decode cX9_lays 3 = .ok (.iload 4, 2) := by decide +kernel
theorem dX9_lays_5 : decode cX9_lays 5 = .ok (.iload_n 3, 1) := by decide +kernel
theorem dX9_lays_6 : decode cX9_lays 6 = .ok (.if_icmp .ge 23, 3) := by decide +kernel
theorem dX9_lays_9 : decode cX9_lays 9 = .ok (.aload_n 0, 1) := by decide +kernel
theorem dX9_lays_10 : decode cX9_lays 10 = .ok (.getfield 53, 3) := by decide +kernel
theorem dX9_lays_13 : decode cX9_lays 13 = .ok (.iload 4, 2) := by decide +kernel
theorem dX9_lays_15 : decode cX9_lays 15 = .ok (.aload_n 0, 1) := by decide +kernel
theorem dX9_lays_16 : decode cX9_lays 16 = .ok (.iload_n 1, 1) := by decide +kernel
theorem dX9_lays_17 : decode cX9_lays 17 = .ok (.iload 4, 2) := by decide +kernel
theorem dX9_lays_19 : decode cX9_lays 19 = .ok (.invokevirtual 137, 3) := by decide +kernel
theorem dX9_lays_22 : decode cX9_lays 22 = .ok (.iastore, 1) := by decide +kernel
theorem dX9_lays_23 : decode cX9_lays 23 = .ok (.iinc 4 1, 3) := by decide +kernel
theorem dX9_lays_26 : decode cX9_lays 26 = .ok (.goto (-23), 3) := by decide +kernel
theorem dX9_lays_29 : decode cX9_lays 29 = .ok (.iload_n 3, 1) := by decide +kernel
theorem dX9_lays_30 : decode cX9_lays 30 = .ok (.ifCond .eq 29, 3) := by decide +kernel
theorem dX9_lays_33 : decode cX9_lays 33 = .ok (.aload_n 0, 1) := by decide +kernel
theorem dX9_lays_34 : decode cX9_lays 34 = .ok (.getfield 53, 3) := by decide +kernel
theorem dX9_lays_37 : decode cX9_lays 37 = .ok (.iload_n 3, 1) := by decide +kernel
theorem dX9_lays_38 : decode cX9_lays 38 = .ok (.iconst 1, 1) := by decide +kernel
theorem dX9_lays_39 : decode cX9_lays 39 = .ok (.isub, 1) := by decide +kernel
theorem dX9_lays_40 : decode cX9_lays 40 = .ok (.iaload, 1) := by decide +kernel
theorem dX9_lays_41 : decode cX9_lays 41 = .ok (.aload_n 0, 1) := by decide +kernel
theorem dX9_lays_42 : decode cX9_lays 42 = .ok (.getfield 29, 3) := by decide +kernel
theorem dX9_lays_45 : decode cX9_lays 45 = .ok (.iload_n 1, 1) := by decide +kernel
theorem dX9_lays_46 : decode cX9_lays 46 = .ok (.iload_n 3, 1) := by decide +kernel
theorem dX9_lays_47 : decode cX9_lays 47 = .ok (.iadd, 1) := by decide +kernel
theorem dX9_lays_48 : decode cX9_lays 48 = .ok (.iconst 1, 1) := by decide +kernel
theorem dX9_lays_49 : decode cX9_lays 49 = .ok (.isub, 1) := by decide +kernel
theorem dX9_lays_50 : decode cX9_lays 50 = .ok (.iaload, 1) := by decide +kernel
theorem dX9_lays_51 : decode cX9_lays 51 = .ok (.iadd, 1) := by decide +kernel
theorem dX9_lays_52 : decode cX9_lays 52 = .ok (.aload_n 0, 1) := by decide +kernel
theorem dX9_lays_53 : decode cX9_lays 53 = .ok (.getfield 134, 3) := by decide +kernel
theorem dX9_lays_56 : decode cX9_lays 56 = .ok (.if_icmp .gt 7, 3) := by decide +kernel
theorem dX9_lays_59 : decode cX9_lays 59 = .ok (.iconst 1, 1) := by decide +kernel
theorem dX9_lays_60 : decode cX9_lays 60 = .ok (.goto 4, 3) := by decide +kernel
theorem dX9_lays_63 : decode cX9_lays 63 = .ok (.iconst 0, 1) := by decide +kernel
theorem dX9_lays_64 : decode cX9_lays 64 = .ok (.ireturn, 1) := by decide +kernel
theorem dX9_lists_0 : decode cX9_lists 0 = .ok (.aload_n 0, 1) := by decide +kernel
theorem dX9_lists_1 : decode cX9_lists 1 = .ok (.aload_n 0, 1) := by decide +kernel
theorem dX9_lists_2 : decode cX9_lists 2 = .ok (.iload_n 1, 1) := by decide +kernel
theorem dX9_lists_3 : decode cX9_lists 3 = .ok (.iload_n 2, 1) := by decide +kernel
theorem dX9_lists_4 : decode cX9_lists 4 = .ok (.invokevirtual 125, 3) := by decide +kernel
theorem dX9_lists_7 : decode cX9_lists 7 = .ok (.putfield 134, 3) := by decide +kernel
theorem dX9_lists_10 : decode cX9_lists 10 = .ok (.iconst 0, 1) := by decide +kernel
theorem dX9_lists_11 : decode cX9_lists 11 = .ok (.istore 4, 2) := by decide +kernel
theorem dX9_lists_13 : decode cX9_lists 13 = .ok (.iload 4, 2) := by decide +kernel
theorem dX9_lists_15 : decode cX9_lists 15 = .ok (.aload_n 0, 1) := by decide +kernel
theorem dX9_lists_16 : decode cX9_lists 16 = .ok (.getfield 134, 3) := by decide +kernel
theorem dX9_lists_19 : decode cX9_lists 19 = .ok (.if_icmp .ge 53, 3) := by decide +kernel
theorem dX9_lists_22 : decode cX9_lists 22 = .ok (.aload_n 0, 1) := by decide +kernel
theorem dX9_lists_23 : decode cX9_lists 23 = .ok (.getfield 41, 3) := by decide +kernel
theorem dX9_lists_26 : decode cX9_lists 26 = .ok (.iload 4, 2) := by decide +kernel
theorem dX9_lists_28 : decode cX9_lists 28 = .ok (.aload_n 0, 1) := by decide +kernel
theorem dX9_lists_29 : decode cX9_lists 29 = .ok (.iload_n 1, 1) := by decide +kernel
theorem dX9_lists_30 : decode cX9_lists 30 = .ok (.iload_n 2, 1) := by decide +kernel
theorem dX9_lists_31 : decode cX9_lists 31 = .ok (.iload 4, 2) := by decide +kernel
theorem dX9_lists_33 : decode cX9_lists 33 = .ok (.invokevirtual 140, 3) := by decide +kernel
theorem dX9_lists_36 : decode cX9_lists 36 = .ok (.iastore, 1) := by decide +kernel
theorem dX9_lists_37 : decode cX9_lists 37 = .ok (.aload_n 0, 1) := by decide +kernel
theorem dX9_lists_38 : decode cX9_lists 38 = .ok (.getfield 44, 3) := by decide +kernel
theorem dX9_lists_41 : decode cX9_lists 41 = .ok (.iload 4, 2) := by decide +kernel
theorem dX9_lists_43 : decode cX9_lists 43 = .ok (.aload_n 0, 1) := by decide +kernel
theorem dX9_lists_44 : decode cX9_lists 44 = .ok (.getfield 38, 3) := by decide +kernel
theorem dX9_lists_47 : decode cX9_lists 47 = .ok (.iload_n 3, 1) := by decide +kernel
theorem dX9_lists_48 : decode cX9_lists 48 = .ok (.aload_n 0, 1) := by decide +kernel
theorem dX9_lists_49 : decode cX9_lists 49 = .ok (.getfield 41, 3) := by decide +kernel
theorem dX9_lists_52 : decode cX9_lists 52 = .ok (.iload 4, 2) := by decide +kernel
theorem dX9_lists_54 : decode cX9_lists 54 = .ok (.iaload, 1) := by decide +kernel
theorem dX9_lists_55 : decode cX9_lists 55 = .ok (.iadd, 1) := by decide +kernel
theorem dX9_lists_56 : decode cX9_lists 56 = .ok (.iaload, 1) := by decide +kernel
theorem dX9_lists_57 : decode cX9_lists 57 = .ok (.iastore, 1) := by decide +kernel
theorem dX9_lists_58 : decode cX9_lists 58 = .ok (.aload_n 0, 1) := by decide +kernel
theorem dX9_lists_59 : decode cX9_lists 59 = .ok (.getfield 47, 3) := by decide +kernel
theorem dX9_lists_62 : decode cX9_lists 62 = .ok (.iload 4, 2) := by decide +kernel
theorem dX9_lists_64 : decode cX9_lists 64 = .ok (.iconst 0, 1) := by decide +kernel
theorem dX9_lists_65 : decode cX9_lists 65 = .ok (.iastore, 1) := by decide +kernel
theorem dX9_lists_66 : decode cX9_lists 66 = .ok (.iinc 4 1, 3) := by decide +kernel
theorem dX9_lists_69 : decode cX9_lists 69 = .ok (.goto (-56), 3) := by decide +kernel
theorem dX9_lists_72 : decode cX9_lists 72 = .ok (.aload_n 0, 1) := by decide +kernel
theorem dX9_lists_73 : decode cX9_lists 73 = .ok (.iload_n 1, 1) := by decide +kernel
theorem dX9_lists_74 : decode cX9_lists 74 = .ok (.iload_n 2, 1) := by decide +kernel
theorem dX9_lists_75 : decode cX9_lists 75 = .ok (.invokevirtual 121, 3) := by decide +kernel
theorem dX9_lists_78 : decode cX9_lists 78 = .ok (.istore 4, 2) := by decide +kernel
theorem dX9_lists_80 : decode cX9_lists 80 = .ok (.aload_n 0, 1) := by decide +kernel
theorem dX9_lists_81 : decode cX9_lists 81 = .ok (.getfield 23, 3) := by decide +kernel
theorem dX9_lists_84 : decode cX9_lists 84 = .ok (.bipush 20, 2) := by decide +kernel
theorem dX9_lists_86 : decode cX9_lists 86 = .ok (.iload_n 1, 1) := by decide +kernel
theorem dX9_lists_87 : decode cX9_lists 87 = .ok (.imul, 1) := by decide +kernel
theorem dX9_lists_88 : decode cX9_lists 88 = .ok (.iload_n 2, 1) := by decide +kernel
theorem dX9_lists_89 : decode cX9_lists 89 = .ok (.iadd, 1) := by decide +kernel
theorem dX9_lists_90 : decode cX9_lists 90 = .ok (.iaload, 1) := by decide +kernel
theorem dX9_lists_91 : decode cX9_lists 91 = .ok (.istore 5, 2) := by decide +kernel
theorem dX9_lists_93 : decode cX9_lists 93 = .ok (.iconst 0, 1) := by decide +kernel
theorem dX9_lists_94 : decode cX9_lists 94 = .ok (.istore 6, 2) := by decide +kernel
theorem dX9_lists_96 : decode cX9_lists 96 = .ok (.aload_n 0, 1) := by decide +kernel
theorem dX9_lists_97 : decode cX9_lists 97 = .ok (.iload 4, 2) := by decide +kernel
theorem dX9_lists_99 : decode cX9_lists 99 = .ok (.iconst 0, 1) := by decide +kernel
theorem dX9_lists_100 : decode cX9_lists 100 = .ok (.iload 5, 2) := by decide +kernel
theorem dX9_lists_102 : decode cX9_lists 102 = .ok (.invokevirtual 144, 3) := by decide +kernel
theorem dX9_lists_105 : decode cX9_lists 105 = .ok (.istore 7, 2) := by decide +kernel
theorem dX9_lists_107 : decode cX9_lists 107 = .ok (.iload 7, 2) := by decide +kernel
theorem dX9_lists_109 : decode cX9_lists 109 = .ok (.ifCond .eq 141, 3) := by decide +kernel
theorem dX9_lists_112 : decode cX9_lists 112 = .ok (.aload_n 0, 1) := by decide +kernel
theorem dX9_lists_113 : decode cX9_lists 113 = .ok (.iload 4, 2) := by decide +kernel
theorem dX9_lists_115 : decode cX9_lists 115 = .ok (.iload 5, 2) := by decide +kernel
theorem dX9_lists_117 : decode cX9_lists 117 = .ok (.invokevirtual 147, 3) := by decide +kernel
theorem dX9_lists_120 : decode cX9_lists 120 = .ok (.ifCond .eq 43, 3) := by decide +kernel
theorem dX9_lists_123 : decode cX9_lists 123 = .ok (.iinc 6 1, 3) := by decide +kernel
theorem dX9_lists_126 : decode cX9_lists 126 = .ok (.iconst 0, 1) := by decide +kernel
theorem dX9_lists_127 : decode cX9_lists 127 = .ok (.istore 8, 2) := by decide +kernel
theorem dX9_lists_129 : decode cX9_lists 129 = .ok (.iload 8, 2) := by decide +kernel
theorem dX9_lists_131 : decode cX9_lists 131 = .ok (.aload_n 0, 1) := by decide +kernel
theorem dX9_lists_132 : decode cX9_lists 132 = .ok (.getfield 134, 3) := by decide +kernel
theorem dX9_lists_135 : decode cX9_lists 135 = .ok (.if_icmp .ge 28, 3) := by decide +kernel
theorem dX9_lists_138 : decode cX9_lists 138 = .ok (.aload_n 0, 1) := by decide +kernel
theorem dX9_lists_139 : decode cX9_lists 139 = .ok (.getfield 47, 3) := by decide +kernel
theorem dX9_lists_142 : decode cX9_lists 142 = .ok (.iload 8, 2) := by decide +kernel
theorem dX9_lists_144 : decode cX9_lists 144 = .ok (.dup2, 1) := by decide +kernel
theorem dX9_lists_145 : decode cX9_lists 145 = .ok (.iaload, 1) := by decide +kernel
theorem dX9_lists_146 : decode cX9_lists 146 = .ok (.iconst 1, 1) := by decide +kernel
theorem dX9_lists_147 : decode cX9_lists 147 = .ok (.aload_n 0, 1) := by decide +kernel
theorem dX9_lists_148 : decode cX9_lists 148 = .ok (.getfield 50, 3) := by decide +kernel
theorem dX9_lists_151 : decode cX9_lists 151 = .ok (.iload 8, 2) := by decide +kernel
theorem dX9_lists_153 : decode cX9_lists 153 = .ok (.iaload, 1) := by decide +kernel
theorem dX9_lists_154 : decode cX9_lists 154 = .ok (.ishl, 1) := by decide +kernel
theorem dX9_lists_155 : decode cX9_lists 155 = .ok (.ior, 1) := by decide +kernel
theorem dX9_lists_156 : decode cX9_lists 156 = .ok (.iastore, 1) := by decide +kernel
theorem dX9_lists_157 : decode cX9_lists 157 = .ok (.iinc 8 1, 3) := by decide +kernel
theorem dX9_lists_160 : decode cX9_lists 160 = .ok (.goto (-31), 3) := by decide +kernel
theorem dX9_lists_163 : decode cX9_lists 163 = .ok (.iconst 0, 1) := by decide +kernel
theorem dX9_lists_164 : decode cX9_lists 164 = .ok (.istore 7, 2) := by decide +kernel
theorem dX9_lists_166 : decode cX9_lists 166 = .ok (.iload 5, 2) := by decide +kernel
theorem dX9_lists_168 : decode cX9_lists 168 = .ok (.iconst 1, 1) := by decide +kernel
theorem dX9_lists_169 : decode cX9_lists 169 = .ok (.isub, 1) := by decide +kernel
theorem dX9_lists_170 : decode cX9_lists 170 = .ok (.istore 8, 2) := by decide +kernel
theorem dX9_lists_172 : decode cX9_lists 172 = .ok (.iload 8, 2) := by decide +kernel
theorem dX9_lists_174 : decode cX9_lists 174 = .ok (.ifCond .lt 73, 3) := by decide +kernel
theorem dX9_lists_177 : decode cX9_lists 177 = .ok (.iload 7, 2) := by decide +kernel
theorem dX9_lists_179 : decode cX9_lists 179 = .ok (.ifCond .ne 68, 3) := by decide +kernel
theorem dX9_lists_182 : decode cX9_lists 182 = .ok (.aload_n 0, 1) := by decide +kernel
theorem dX9_lists_183 : decode cX9_lists 183 = .ok (.getfield 53, 3) := by decide +kernel
theorem dX9_lists_186 : decode cX9_lists 186 = .ok (.iload 8, 2) := by decide +kernel
theorem dX9_lists_188 : decode cX9_lists 188 = .ok (.dup2, 1) := by decide +kernel
theorem dX9_lists_189 : decode cX9_lists 189 = .ok (.iaload, 1) := by decide +kernel
theorem dX9_lists_190 : decode cX9_lists 190 = .ok (.iconst 1, 1) := by decide +kernel
theorem dX9_lists_191 : decode cX9_lists 191 = .ok (.iadd, 1) := by decide +kernel
theorem dX9_lists_192 : decode cX9_lists 192 = .ok (.iastore, 1) := by decide +kernel
theorem dX9_lists_193 : decode cX9_lists 193 = .ok (.aload_n 0, 1) := by decide +kernel
theorem dX9_lists_194 : decode cX9_lists 194 = .ok (.iload 4, 2) := by decide +kernel
theorem dX9_lists_196 : decode cX9_lists 196 = .ok (.iload 8, 2) := by decide +kernel
theorem dX9_lists_198 : decode cX9_lists 198 = .ok (.iconst 1, 1) := by decide +kernel
theorem dX9_lists_199 : decode cX9_lists 199 = .ok (.iadd, 1) := by decide +kernel
theorem dX9_lists_200 : decode cX9_lists 200 = .ok (.iload 5, 2) := by decide +kernel
theorem dX9_lists_202 : decode cX9_lists 202 = .ok (.invokevirtual 144, 3) := by decide +kernel
theorem dX9_lists_205 : decode cX9_lists 205 = .ok (.istore 7, 2) := by decide +kernel
theorem dX9_lists_207 : decode cX9_lists 207 = .ok (.iload 7, 2) := by decide +kernel
theorem dX9_lists_209 : decode cX9_lists 209 = .ok (.ifCond .ne 14, 3) := by decide +kernel
theorem dX9_lists_212 : decode cX9_lists 212 = .ok (.aload_n 0, 1) := by decide +kernel
theorem dX9_lists_213 : decode cX9_lists 213 = .ok (.getfield 53, 3) := by decide +kernel
theorem dX9_lists_216 : decode cX9_lists 216 = .ok (.iload 8, 2) := by decide +kernel
theorem dX9_lists_218 : decode cX9_lists 218 = .ok (.dup2, 1) := by decide +kernel
theorem dX9_lists_219 : decode cX9_lists 219 = .ok (.iaload, 1) := by decide +kernel
theorem dX9_lists_220 : decode cX9_lists 220 = .ok (.iconst 1, 1) := by decide +kernel
theorem dX9_lists_221 : decode cX9_lists 221 = .ok (.isub, 1) := by decide +kernel
theorem dX9_lists_222 : decode cX9_lists 222 = .ok (.iastore, 1) := by decide +kernel
theorem dX9_lists_223 : decode cX9_lists 223 = .ok (.iload 7, 2) := by decide +kernel
theorem dX9_lists_225 : decode cX9_lists 225 = .ok (.ifCond .ne 16, 3) := by decide +kernel
theorem dX9_lists_228 : decode cX9_lists 228 = .ok (.aload_n 0, 1) := by decide +kernel
theorem dX9_lists_229 : decode cX9_lists 229 = .ok (.iload 4, 2) := by decide +kernel
theorem dX9_lists_231 : decode cX9_lists 231 = .ok (.iload 8, 2) := by decide +kernel
theorem dX9_lists_233 : decode cX9_lists 233 = .ok (.iconst 1, 1) := by decide +kernel
theorem dX9_lists_234 : decode cX9_lists 234 = .ok (.iadd, 1) := by decide +kernel
theorem dX9_lists_235 : decode cX9_lists 235 = .ok (.iload 5, 2) := by decide +kernel
theorem dX9_lists_237 : decode cX9_lists 237 = .ok (.invokevirtual 144, 3) := by decide +kernel
theorem dX9_lists_240 : decode cX9_lists 240 = .ok (.pop, 1) := by decide +kernel
theorem dX9_lists_241 : decode cX9_lists 241 = .ok (.iinc 8 (-1), 3) := by decide +kernel
theorem dX9_lists_244 : decode cX9_lists 244 = .ok (.goto (-72), 3) := by decide +kernel
theorem dX9_lists_247 : decode cX9_lists 247 = .ok (.goto (-140), 3) := by decide +kernel
theorem dX9_lists_250 : decode cX9_lists 250 = .ok (.iload 6, 2) := by decide +kernel
theorem dX9_lists_252 : decode cX9_lists 252 = .ok (.ireturn, 1) := by decide +kernel
theorem dX9_steps_0 : decode cX9_steps 0 = .ok (.aload_n 0, 1) := by decide +kernel
theorem dX9_steps_1 : decode cX9_steps 1 = .ok (.iload_n 1, 1) := by decide +kernel
theorem dX9_steps_2 : decode cX9_steps 2 = .ok (.iload_n 2, 1) := by decide +kernel
theorem dX9_steps_3 : decode cX9_steps 3 = .ok (.iload_n 3, 1) := by decide +kernel
theorem dX9_steps_4 : decode cX9_steps 4 = .ok (.invokevirtual 150, 3) := by decide +kernel
theorem dX9_steps_7 : decode cX9_steps 7 = .ok (.ifCond .ne 5, 3) := by decide +kernel
theorem dX9_steps_10 : decode cX9_steps 10 = .ok (.iconst (-1), 1) := by decide +kernel
theorem dX9_steps_11 : decode cX9_steps 11 = .ok (.ireturn, 1) := by decide +kernel
theorem dX9_steps_12 : decode cX9_steps 12 = .ok (.iconst 0, 1) := by decide +kernel
theorem dX9_steps_13 : decode cX9_steps 13 = .ok (.istore 4, 2) := by decide +kernel
theorem dX9_steps_15 : decode cX9_steps 15 = .ok (.iconst 0, 1) := by decide +kernel
theorem dX9_steps_16 : decode cX9_steps 16 = .ok (.istore 5, 2) := by decide +kernel
theorem dX9_steps_18 : decode cX9_steps 18 = .ok (.iload 5, 2) := by decide +kernel
theorem dX9_steps_20 : decode cX9_steps 20 = .ok (.aload_n 0, 1) := by decide +kernel
theorem dX9_steps_21 : decode cX9_steps 21 = .ok (.getfield 134, 3) := by decide +kernel
theorem dX9_steps_24 : decode cX9_steps 24 = .ok (.if_icmp .ge 84, 3) := by decide +kernel
theorem dX9_steps_27 : decode cX9_steps 27 = .ok (.aload_n 0, 1) := by decide +kernel
theorem dX9_steps_28 : decode cX9_steps 28 = .ok (.getfield 44, 3) := by decide +kernel
theorem dX9_steps_31 : decode cX9_steps 31 = .ok (.iload 5, 2) := by decide +kernel
theorem dX9_steps_33 : decode cX9_steps 33 = .ok (.iaload, 1) := by decide +kernel
theorem dX9_steps_34 : decode cX9_steps 34 = .ok (.aload_n 0, 1) := by decide +kernel
theorem dX9_steps_35 : decode cX9_steps 35 = .ok (.getfield 47, 3) := by decide +kernel
theorem dX9_steps_38 : decode cX9_steps 38 = .ok (.iload 5, 2) := by decide +kernel
theorem dX9_steps_40 : decode cX9_steps 40 = .ok (.iaload, 1) := by decide +kernel
theorem dX9_steps_41 : decode cX9_steps 41 = .ok (.iconst (-1), 1) := by decide +kernel
theorem dX9_steps_42 : decode cX9_steps 42 = .ok (.ixor, 1) := by decide +kernel
theorem dX9_steps_43 : decode cX9_steps 43 = .ok (.iand, 1) := by decide +kernel
theorem dX9_steps_44 : decode cX9_steps 44 = .ok (.istore 6, 2) := by decide +kernel
theorem dX9_steps_46 : decode cX9_steps 46 = .ok (.iconst 0, 1) := by decide +kernel
theorem dX9_steps_47 : decode cX9_steps 47 = .ok (.istore 7, 2) := by decide +kernel
theorem dX9_steps_49 : decode cX9_steps 49 = .ok (.iload 7, 2) := by decide +kernel
theorem dX9_steps_51 : decode cX9_steps 51 = .ok (.iconst 4, 1) := by decide +kernel
theorem dX9_steps_52 : decode cX9_steps 52 = .ok (.if_icmp .ge 21, 3) := by decide +kernel
theorem dX9_steps_55 : decode cX9_steps 55 = .ok (.iload 4, 2) := by decide +kernel
theorem dX9_steps_57 : decode cX9_steps 57 = .ok (.iload 6, 2) := by decide +kernel
theorem dX9_steps_59 : decode cX9_steps 59 = .ok (.iload 7, 2) := by decide +kernel
theorem dX9_steps_61 : decode cX9_steps 61 = .ok (.ishr, 1) := by decide +kernel
theorem dX9_steps_62 : decode cX9_steps 62 = .ok (.iconst 1, 1) := by decide +kernel
theorem dX9_steps_63 : decode cX9_steps 63 = .ok (.iand, 1) := by decide +kernel
theorem dX9_steps_64 : decode cX9_steps 64 = .ok (.iadd, 1) := by decide +kernel
theorem dX9_steps_65 : decode cX9_steps 65 = .ok (.istore 4, 2) := by decide +kernel
theorem dX9_steps_67 : decode cX9_steps 67 = .ok (.iinc 7 1, 3) := by decide +kernel
theorem dX9_steps_70 : decode cX9_steps 70 = .ok (.goto (-21), 3) := by decide +kernel
theorem dX9_steps_73 : decode cX9_steps 73 = .ok (.aload_n 0, 1) := by decide +kernel
theorem dX9_steps_74 : decode cX9_steps 74 = .ok (.getfield 38, 3) := by decide +kernel
theorem dX9_steps_77 : decode cX9_steps 77 = .ok (.iload_n 3, 1) := by decide +kernel
theorem dX9_steps_78 : decode cX9_steps 78 = .ok (.aload_n 0, 1) := by decide +kernel
theorem dX9_steps_79 : decode cX9_steps 79 = .ok (.getfield 41, 3) := by decide +kernel
theorem dX9_steps_82 : decode cX9_steps 82 = .ok (.iload 5, 2) := by decide +kernel
theorem dX9_steps_84 : decode cX9_steps 84 = .ok (.iaload, 1) := by decide +kernel
theorem dX9_steps_85 : decode cX9_steps 85 = .ok (.iadd, 1) := by decide +kernel
theorem dX9_steps_86 : decode cX9_steps 86 = .ok (.aload_n 0, 1) := by decide +kernel
theorem dX9_steps_87 : decode cX9_steps 87 = .ok (.getfield 44, 3) := by decide +kernel
theorem dX9_steps_90 : decode cX9_steps 90 = .ok (.iload 5, 2) := by decide +kernel
theorem dX9_steps_92 : decode cX9_steps 92 = .ok (.iaload, 1) := by decide +kernel
theorem dX9_steps_93 : decode cX9_steps 93 = .ok (.aload_n 0, 1) := by decide +kernel
theorem dX9_steps_94 : decode cX9_steps 94 = .ok (.getfield 47, 3) := by decide +kernel
theorem dX9_steps_97 : decode cX9_steps 97 = .ok (.iload 5, 2) := by decide +kernel
theorem dX9_steps_99 : decode cX9_steps 99 = .ok (.iaload, 1) := by decide +kernel
theorem dX9_steps_100 : decode cX9_steps 100 = .ok (.iand, 1) := by decide +kernel
theorem dX9_steps_101 : decode cX9_steps 101 = .ok (.iastore, 1) := by decide +kernel
theorem dX9_steps_102 : decode cX9_steps 102 = .ok (.iinc 5 1, 3) := by decide +kernel
theorem dX9_steps_105 : decode cX9_steps 105 = .ok (.goto (-87), 3) := by decide +kernel
theorem dX9_steps_108 : decode cX9_steps 108 = .ok (.iload 4, 2) := by decide +kernel
theorem dX9_steps_110 : decode cX9_steps 110 = .ok (.ireturn, 1) := by decide +kernel
theorem dX9_settles_0 : decode cX9_settles 0 = .ok (.iconst 0, 1) := by decide +kernel
theorem dX9_settles_1 : decode cX9_settles 1 = .ok (.istore_n 3, 1) := by decide +kernel
theorem dX9_settles_2 : decode cX9_settles 2 = .ok (.iconst 1, 1) := by decide +kernel
theorem dX9_settles_3 : decode cX9_settles 3 = .ok (.istore 4, 2) := by decide +kernel
theorem dX9_settles_5 : decode cX9_settles 5 = .ok (.iload 4, 2) := by decide +kernel
theorem dX9_settles_7 : decode cX9_settles 7 = .ok (.ifCond .eq 78, 3) := by decide +kernel
theorem dX9_settles_10 : decode cX9_settles 10 = .ok (.iconst 0, 1) := by decide +kernel
theorem dX9_settles_11 : decode cX9_settles 11 = .ok (.istore 5, 2) := by decide +kernel
theorem dX9_settles_13 : decode cX9_settles 13 = .ok (.iconst 0, 1) := by decide +kernel
theorem dX9_settles_14 : decode cX9_settles 14 = .ok (.istore 6, 2) := by decide +kernel
theorem dX9_settles_16 : decode cX9_settles 16 = .ok (.iload 6, 2) := by decide +kernel
theorem dX9_settles_18 : decode cX9_settles 18 = .ok (.aload_n 0, 1) := by decide +kernel
theorem dX9_settles_19 : decode cX9_settles 19 = .ok (.iload_n 1, 1) := by decide +kernel
theorem dX9_settles_20 : decode cX9_settles 20 = .ok (.invokevirtual 104, 3) := by decide +kernel
theorem dX9_settles_23 : decode cX9_settles 23 = .ok (.if_icmp .ge 34, 3) := by decide +kernel
theorem dX9_settles_26 : decode cX9_settles 26 = .ok (.aload_n 0, 1) := by decide +kernel
theorem dX9_settles_27 : decode cX9_settles 27 = .ok (.iload_n 1, 1) := by decide +kernel
theorem dX9_settles_28 : decode cX9_settles 28 = .ok (.iload 6, 2) := by decide +kernel
theorem dX9_settles_30 : decode cX9_settles 30 = .ok (.iload_n 2, 1) := by decide +kernel
theorem dX9_settles_31 : decode cX9_settles 31 = .ok (.invokevirtual 153, 3) := by decide +kernel
theorem dX9_settles_34 : decode cX9_settles 34 = .ok (.istore 7, 2) := by decide +kernel
theorem dX9_settles_36 : decode cX9_settles 36 = .ok (.iload 7, 2) := by decide +kernel
theorem dX9_settles_38 : decode cX9_settles 38 = .ok (.iconst (-1), 1) := by decide +kernel
theorem dX9_settles_39 : decode cX9_settles 39 = .ok (.if_icmp .ne 5, 3) := by decide +kernel
theorem dX9_settles_42 : decode cX9_settles 42 = .ok (.iconst (-1), 1) := by decide +kernel
theorem dX9_settles_43 : decode cX9_settles 43 = .ok (.ireturn, 1) := by decide +kernel
theorem dX9_settles_44 : decode cX9_settles 44 = .ok (.iload 5, 2) := by decide +kernel
theorem dX9_settles_46 : decode cX9_settles 46 = .ok (.iload 7, 2) := by decide +kernel
theorem dX9_settles_48 : decode cX9_settles 48 = .ok (.iadd, 1) := by decide +kernel
theorem dX9_settles_49 : decode cX9_settles 49 = .ok (.istore 5, 2) := by decide +kernel
theorem dX9_settles_51 : decode cX9_settles 51 = .ok (.iinc 6 1, 3) := by decide +kernel
theorem dX9_settles_54 : decode cX9_settles 54 = .ok (.goto (-38), 3) := by decide +kernel
theorem dX9_settles_57 : decode cX9_settles 57 = .ok (.iload 5, 2) := by decide +kernel
theorem dX9_settles_59 : decode cX9_settles 59 = .ok (.ifCond .le 7, 3) := by decide +kernel
theorem dX9_settles_62 : decode cX9_settles 62 = .ok (.iconst 1, 1) := by decide +kernel
theorem dX9_settles_63 : decode cX9_settles 63 = .ok (.goto 4, 3) := by decide +kernel
theorem dX9_settles_66 : decode cX9_settles 66 = .ok (.iconst 0, 1) := by decide +kernel
theorem dX9_settles_67 : decode cX9_settles 67 = .ok (.istore 4, 2) := by decide +kernel
theorem dX9_settles_69 : decode cX9_settles 69 = .ok (.iload_n 3, 1) := by decide +kernel
theorem dX9_settles_70 : decode cX9_settles 70 = .ok (.iload 4, 2) := by decide +kernel
theorem dX9_settles_72 : decode cX9_settles 72 = .ok (.ifCond .eq 7, 3) := by decide +kernel
theorem dX9_settles_75 : decode cX9_settles 75 = .ok (.iconst 1, 1) := by decide +kernel
theorem dX9_settles_76 : decode cX9_settles 76 = .ok (.goto 4, 3) := by decide +kernel
theorem dX9_settles_79 : decode cX9_settles 79 = .ok (.iconst 0, 1) := by decide +kernel
theorem dX9_settles_80 : decode cX9_settles 80 = .ok (.iadd, 1) := by decide +kernel
theorem dX9_settles_81 : decode cX9_settles 81 = .ok (.istore_n 3, 1) := by decide +kernel
theorem dX9_settles_82 : decode cX9_settles 82 = .ok (.goto (-77), 3) := by decide +kernel
theorem dX9_settles_85 : decode cX9_settles 85 = .ok (.iload_n 3, 1) := by decide +kernel
theorem dX9_settles_86 : decode cX9_settles 86 = .ok (.ireturn, 1) := by decide +kernel
theorem dX9_loads_0 : decode cX9_loads 0 = .ok (.iconst 0, 1) := by decide +kernel
theorem dX9_loads_1 : decode cX9_loads 1 = .ok (.istore_n 3, 1) := by decide +kernel
theorem dX9_loads_2 : decode cX9_loads 2 = .ok (.iload_n 3, 1) := by decide +kernel
theorem dX9_loads_3 : decode cX9_loads 3 = .ok (.aload_n 0, 1) := by decide +kernel
theorem dX9_loads_4 : decode cX9_loads 4 = .ok (.iload_n 1, 1) := by decide +kernel
theorem dX9_loads_5 : decode cX9_loads 5 = .ok (.invokevirtual 108, 3) := by decide +kernel
theorem dX9_loads_8 : decode cX9_loads 8 = .ok (.if_icmp .ge 28, 3) := by decide +kernel
theorem dX9_loads_11 : decode cX9_loads 11 = .ok (.aload_n 0, 1) := by decide +kernel
theorem dX9_loads_12 : decode cX9_loads 12 = .ok (.getfield 38, 3) := by decide +kernel
theorem dX9_loads_15 : decode cX9_loads 15 = .ok (.iload_n 2, 1) := by decide +kernel
theorem dX9_loads_16 : decode cX9_loads 16 = .ok (.iload_n 3, 1) := by decide +kernel
theorem dX9_loads_17 : decode cX9_loads 17 = .ok (.iadd, 1) := by decide +kernel
theorem dX9_loads_18 : decode cX9_loads 18 = .ok (.aload_n 0, 1) := by decide +kernel
theorem dX9_loads_19 : decode cX9_loads 19 = .ok (.getfield 32, 3) := by decide +kernel
theorem dX9_loads_22 : decode cX9_loads 22 = .ok (.bipush 100, 2) := by decide +kernel
theorem dX9_loads_24 : decode cX9_loads 24 = .ok (.iload_n 1, 1) := by decide +kernel
theorem dX9_loads_25 : decode cX9_loads 25 = .ok (.imul, 1) := by decide +kernel
theorem dX9_loads_26 : decode cX9_loads 26 = .ok (.iload_n 3, 1) := by decide +kernel
theorem dX9_loads_27 : decode cX9_loads 27 = .ok (.iadd, 1) := by decide +kernel
theorem dX9_loads_28 : decode cX9_loads 28 = .ok (.iaload, 1) := by decide +kernel
theorem dX9_loads_29 : decode cX9_loads 29 = .ok (.iastore, 1) := by decide +kernel
theorem dX9_loads_30 : decode cX9_loads 30 = .ok (.iinc 3 1, 3) := by decide +kernel
theorem dX9_loads_33 : decode cX9_loads 33 = .ok (.goto (-31), 3) := by decide +kernel
theorem dX9_loads_36 : decode cX9_loads 36 = .ok (.return_, 1) := by decide +kernel
theorem dX9_stores_0 : decode cX9_stores 0 = .ok (.iconst 0, 1) := by decide +kernel
theorem dX9_stores_1 : decode cX9_stores 1 = .ok (.istore_n 3, 1) := by decide +kernel
theorem dX9_stores_2 : decode cX9_stores 2 = .ok (.iload_n 3, 1) := by decide +kernel
theorem dX9_stores_3 : decode cX9_stores 3 = .ok (.aload_n 0, 1) := by decide +kernel
theorem dX9_stores_4 : decode cX9_stores 4 = .ok (.iload_n 1, 1) := by decide +kernel
theorem dX9_stores_5 : decode cX9_stores 5 = .ok (.invokevirtual 108, 3) := by decide +kernel
theorem dX9_stores_8 : decode cX9_stores 8 = .ok (.if_icmp .ge 28, 3) := by decide +kernel
theorem dX9_stores_11 : decode cX9_stores 11 = .ok (.aload_n 0, 1) := by decide +kernel
theorem dX9_stores_12 : decode cX9_stores 12 = .ok (.getfield 32, 3) := by decide +kernel
theorem dX9_stores_15 : decode cX9_stores 15 = .ok (.bipush 100, 2) := by decide +kernel
theorem dX9_stores_17 : decode cX9_stores 17 = .ok (.iload_n 1, 1) := by decide +kernel
theorem dX9_stores_18 : decode cX9_stores 18 = .ok (.imul, 1) := by decide +kernel
theorem dX9_stores_19 : decode cX9_stores 19 = .ok (.iload_n 3, 1) := by decide +kernel
theorem dX9_stores_20 : decode cX9_stores 20 = .ok (.iadd, 1) := by decide +kernel
theorem dX9_stores_21 : decode cX9_stores 21 = .ok (.aload_n 0, 1) := by decide +kernel
theorem dX9_stores_22 : decode cX9_stores 22 = .ok (.getfield 38, 3) := by decide +kernel
theorem dX9_stores_25 : decode cX9_stores 25 = .ok (.iload_n 2, 1) := by decide +kernel
theorem dX9_stores_26 : decode cX9_stores 26 = .ok (.iload_n 3, 1) := by decide +kernel
theorem dX9_stores_27 : decode cX9_stores 27 = .ok (.iadd, 1) := by decide +kernel
theorem dX9_stores_28 : decode cX9_stores 28 = .ok (.iaload, 1) := by decide +kernel
theorem dX9_stores_29 : decode cX9_stores 29 = .ok (.iastore, 1) := by decide +kernel
theorem dX9_stores_30 : decode cX9_stores 30 = .ok (.iinc 3 1, 3) := by decide +kernel
theorem dX9_stores_33 : decode cX9_stores 33 = .ok (.goto (-31), 3) := by decide +kernel
theorem dX9_stores_36 : decode cX9_stores 36 = .ok (.return_, 1) := by decide +kernel
theorem dX9_copies_0 : decode cX9_copies 0 = .ok (.iconst 0, 1) := by decide +kernel
theorem dX9_copies_1 : decode cX9_copies 1 = .ok (.istore 4, 2) := by decide +kernel
theorem dX9_copies_3 : decode cX9_copies 3 = .ok (.iload 4, 2) := by decide +kernel
theorem dX9_copies_5 : decode cX9_copies 5 = .ok (.aload_n 0, 1) := by decide +kernel
theorem dX9_copies_6 : decode cX9_copies 6 = .ok (.iload_n 1, 1) := by decide +kernel
theorem dX9_copies_7 : decode cX9_copies 7 = .ok (.invokevirtual 108, 3) := by decide +kernel
theorem dX9_copies_10 : decode cX9_copies 10 = .ok (.if_icmp .ge 27, 3) := by decide +kernel
theorem dX9_copies_13 : decode cX9_copies 13 = .ok (.aload_n 0, 1) := by decide +kernel
theorem dX9_copies_14 : decode cX9_copies 14 = .ok (.getfield 38, 3) := by decide +kernel
theorem dX9_copies_17 : decode cX9_copies 17 = .ok (.iload_n 3, 1) := by decide +kernel
theorem dX9_copies_18 : decode cX9_copies 18 = .ok (.iload 4, 2) := by decide +kernel
theorem dX9_copies_20 : decode cX9_copies 20 = .ok (.iadd, 1) := by decide +kernel
theorem dX9_copies_21 : decode cX9_copies 21 = .ok (.aload_n 0, 1) := by decide +kernel
theorem dX9_copies_22 : decode cX9_copies 22 = .ok (.getfield 38, 3) := by decide +kernel
theorem dX9_copies_25 : decode cX9_copies 25 = .ok (.iload_n 2, 1) := by decide +kernel
theorem dX9_copies_26 : decode cX9_copies 26 = .ok (.iload 4, 2) := by decide +kernel
theorem dX9_copies_28 : decode cX9_copies 28 = .ok (.iadd, 1) := by decide +kernel
theorem dX9_copies_29 : decode cX9_copies 29 = .ok (.iaload, 1) := by decide +kernel
theorem dX9_copies_30 : decode cX9_copies 30 = .ok (.iastore, 1) := by decide +kernel
theorem dX9_copies_31 : decode cX9_copies 31 = .ok (.iinc 4 1, 3) := by decide +kernel
theorem dX9_copies_34 : decode cX9_copies 34 = .ok (.goto (-31), 3) := by decide +kernel
theorem dX9_copies_37 : decode cX9_copies 37 = .ok (.return_, 1) := by decide +kernel
theorem dX9_step_0 : decode cX9_step 0 = .ok (.aload_n 0, 1) := by decide +kernel
theorem dX9_step_1 : decode cX9_step 1 = .ok (.iload_n 1, 1) := by decide +kernel
theorem dX9_step_2 : decode cX9_step 2 = .ok (.iload_n 2, 1) := by decide +kernel
theorem dX9_step_3 : decode cX9_step 3 = .ok (.invokevirtual 117, 3) := by decide +kernel
theorem dX9_step_6 : decode cX9_step 6 = .ok (.ifCond .ne 5, 3) := by decide +kernel
theorem dX9_step_9 : decode cX9_step 9 = .ok (.iconst (-1), 1) := by decide +kernel
theorem dX9_step_10 : decode cX9_step 10 = .ok (.ireturn, 1) := by decide +kernel
theorem dX9_step_11 : decode cX9_step 11 = .ok (.aload_n 0, 1) := by decide +kernel
theorem dX9_step_12 : decode cX9_step 12 = .ok (.iload_n 1, 1) := by decide +kernel
theorem dX9_step_13 : decode cX9_step 13 = .ok (.iconst 0, 1) := by decide +kernel
theorem dX9_step_14 : decode cX9_step 14 = .ok (.invokevirtual 156, 3) := by decide +kernel
theorem dX9_step_17 : decode cX9_step 17 = .ok (.aload_n 0, 1) := by decide +kernel
theorem dX9_step_18 : decode cX9_step 18 = .ok (.iload_n 1, 1) := by decide +kernel
theorem dX9_step_19 : decode cX9_step 19 = .ok (.iload_n 2, 1) := by decide +kernel
theorem dX9_step_20 : decode cX9_step 20 = .ok (.iconst 0, 1) := by decide +kernel
theorem dX9_step_21 : decode cX9_step 21 = .ok (.invokevirtual 153, 3) := by decide +kernel
theorem dX9_step_24 : decode cX9_step 24 = .ok (.istore_n 3, 1) := by decide +kernel
theorem dX9_step_25 : decode cX9_step 25 = .ok (.iload_n 3, 1) := by decide +kernel
theorem dX9_step_26 : decode cX9_step 26 = .ok (.iconst (-1), 1) := by decide +kernel
theorem dX9_step_27 : decode cX9_step 27 = .ok (.if_icmp .ne 6, 3) := by decide +kernel
theorem dX9_step_30 : decode cX9_step 30 = .ok (.bipush (-2), 2) := by decide +kernel
theorem dX9_step_32 : decode cX9_step 32 = .ok (.ireturn, 1) := by decide +kernel
theorem dX9_step_33 : decode cX9_step 33 = .ok (.aload_n 0, 1) := by decide +kernel
theorem dX9_step_34 : decode cX9_step 34 = .ok (.iload_n 1, 1) := by decide +kernel
theorem dX9_step_35 : decode cX9_step 35 = .ok (.iconst 0, 1) := by decide +kernel
theorem dX9_step_36 : decode cX9_step 36 = .ok (.invokevirtual 160, 3) := by decide +kernel
theorem dX9_step_39 : decode cX9_step 39 = .ok (.iload_n 3, 1) := by decide +kernel
theorem dX9_step_40 : decode cX9_step 40 = .ok (.ireturn, 1) := by decide +kernel
theorem dX9_ways_0 : decode cX9_ways 0 = .ok (.aload_n 0, 1) := by decide +kernel
theorem dX9_ways_1 : decode cX9_ways 1 = .ok (.iload_n 1, 1) := by decide +kernel
theorem dX9_ways_2 : decode cX9_ways 2 = .ok (.iload_n 2, 1) := by decide +kernel
theorem dX9_ways_3 : decode cX9_ways 3 = .ok (.invokevirtual 117, 3) := by decide +kernel
theorem dX9_ways_6 : decode cX9_ways 6 = .ok (.ifCond .ne 5, 3) := by decide +kernel
theorem dX9_ways_9 : decode cX9_ways 9 = .ok (.iconst (-1), 1) := by decide +kernel
theorem dX9_ways_10 : decode cX9_ways 10 = .ok (.ireturn, 1) := by decide +kernel
theorem dX9_ways_11 : decode cX9_ways 11 = .ok (.aload_n 0, 1) := by decide +kernel
theorem dX9_ways_12 : decode cX9_ways 12 = .ok (.iload_n 1, 1) := by decide +kernel
theorem dX9_ways_13 : decode cX9_ways 13 = .ok (.iconst 0, 1) := by decide +kernel
theorem dX9_ways_14 : decode cX9_ways 14 = .ok (.invokevirtual 156, 3) := by decide +kernel
theorem dX9_ways_17 : decode cX9_ways 17 = .ok (.aload_n 0, 1) := by decide +kernel
theorem dX9_ways_18 : decode cX9_ways 18 = .ok (.iload_n 1, 1) := by decide +kernel
theorem dX9_ways_19 : decode cX9_ways 19 = .ok (.iload_n 2, 1) := by decide +kernel
theorem dX9_ways_20 : decode cX9_ways 20 = .ok (.iconst 0, 1) := by decide +kernel
theorem dX9_ways_21 : decode cX9_ways 21 = .ok (.invokevirtual 150, 3) := by decide +kernel
theorem dX9_ways_24 : decode cX9_ways 24 = .ok (.ireturn, 1) := by decide +kernel
theorem dX9_settle_0 : decode cX9_settle 0 = .ok (.aload_n 0, 1) := by decide +kernel
theorem dX9_settle_1 : decode cX9_settle 1 = .ok (.iload_n 1, 1) := by decide +kernel
theorem dX9_settle_2 : decode cX9_settle 2 = .ok (.invokevirtual 100, 3) := by decide +kernel
theorem dX9_settle_5 : decode cX9_settle 5 = .ok (.ifCond .ne 5, 3) := by decide +kernel
theorem dX9_settle_8 : decode cX9_settle 8 = .ok (.iconst (-1), 1) := by decide +kernel
theorem dX9_settle_9 : decode cX9_settle 9 = .ok (.ireturn, 1) := by decide +kernel
theorem dX9_settle_10 : decode cX9_settle 10 = .ok (.aload_n 0, 1) := by decide +kernel
theorem dX9_settle_11 : decode cX9_settle 11 = .ok (.iload_n 1, 1) := by decide +kernel
theorem dX9_settle_12 : decode cX9_settle 12 = .ok (.iconst 0, 1) := by decide +kernel
theorem dX9_settle_13 : decode cX9_settle 13 = .ok (.invokevirtual 156, 3) := by decide +kernel
theorem dX9_settle_16 : decode cX9_settle 16 = .ok (.aload_n 0, 1) := by decide +kernel
theorem dX9_settle_17 : decode cX9_settle 17 = .ok (.iload_n 1, 1) := by decide +kernel
theorem dX9_settle_18 : decode cX9_settle 18 = .ok (.iconst 0, 1) := by decide +kernel
theorem dX9_settle_19 : decode cX9_settle 19 = .ok (.invokevirtual 163, 3) := by decide +kernel
theorem dX9_settle_22 : decode cX9_settle 22 = .ok (.istore_n 2, 1) := by decide +kernel
theorem dX9_settle_23 : decode cX9_settle 23 = .ok (.iload_n 2, 1) := by decide +kernel
theorem dX9_settle_24 : decode cX9_settle 24 = .ok (.iconst (-1), 1) := by decide +kernel
theorem dX9_settle_25 : decode cX9_settle 25 = .ok (.if_icmp .ne 6, 3) := by decide +kernel
theorem dX9_settle_28 : decode cX9_settle 28 = .ok (.bipush (-2), 2) := by decide +kernel
theorem dX9_settle_30 : decode cX9_settle 30 = .ok (.ireturn, 1) := by decide +kernel
theorem dX9_settle_31 : decode cX9_settle 31 = .ok (.aload_n 0, 1) := by decide +kernel
theorem dX9_settle_32 : decode cX9_settle 32 = .ok (.iload_n 1, 1) := by decide +kernel
theorem dX9_settle_33 : decode cX9_settle 33 = .ok (.iconst 0, 1) := by decide +kernel
theorem dX9_settle_34 : decode cX9_settle 34 = .ok (.invokevirtual 160, 3) := by decide +kernel
theorem dX9_settle_37 : decode cX9_settle 37 = .ok (.iload_n 2, 1) := by decide +kernel
theorem dX9_settle_38 : decode cX9_settle 38 = .ok (.ireturn, 1) := by decide +kernel
theorem dX9_sizeOfSet_0 : decode cX9_sizeOfSet 0 = .ok (.iconst 0, 1) := by decide +kernel
theorem dX9_sizeOfSet_1 : decode cX9_sizeOfSet 1 = .ok (.istore_n 1, 1) := by decide +kernel
theorem dX9_sizeOfSet_2 : decode cX9_sizeOfSet 2 = .ok (.iconst 0, 1) := by decide +kernel
theorem dX9_sizeOfSet_3 : decode cX9_sizeOfSet 3 = .ok (.istore_n 2, 1) := by decide +kernel
theorem dX9_sizeOfSet_4 : decode cX9_sizeOfSet 4 = .ok (.iload_n 2, 1) := by decide +kernel
theorem dX9_sizeOfSet_5 : decode cX9_sizeOfSet 5 = .ok (.iconst 4, 1) := by decide +kernel
theorem dX9_sizeOfSet_6 : decode cX9_sizeOfSet 6 = .ok (.if_icmp .ge 17, 3) := by decide +kernel
theorem dX9_sizeOfSet_9 : decode cX9_sizeOfSet 9 = .ok (.iload_n 1, 1) := by decide +kernel
theorem dX9_sizeOfSet_10 : decode cX9_sizeOfSet 10 = .ok (.iload_n 0, 1) := by decide +kernel
theorem dX9_sizeOfSet_11 : decode cX9_sizeOfSet 11 = .ok (.iload_n 2, 1) := by decide +kernel
theorem dX9_sizeOfSet_12 : decode cX9_sizeOfSet 12 = .ok (.ishr, 1) := by decide +kernel
theorem dX9_sizeOfSet_13 : decode cX9_sizeOfSet 13 = .ok (.iconst 1, 1) := by decide +kernel
theorem dX9_sizeOfSet_14 : decode cX9_sizeOfSet 14 = .ok (.iand, 1) := by decide +kernel
theorem dX9_sizeOfSet_15 : decode cX9_sizeOfSet 15 = .ok (.iadd, 1) := by decide +kernel
theorem dX9_sizeOfSet_16 : decode cX9_sizeOfSet 16 = .ok (.istore_n 1, 1) := by decide +kernel
theorem dX9_sizeOfSet_17 : decode cX9_sizeOfSet 17 = .ok (.iinc 2 1, 3) := by decide +kernel
theorem dX9_sizeOfSet_20 : decode cX9_sizeOfSet 20 = .ok (.goto (-16), 3) := by decide +kernel
theorem dX9_sizeOfSet_23 : decode cX9_sizeOfSet 23 = .ok (.iload_n 1, 1) := by decide +kernel
theorem dX9_sizeOfSet_24 : decode cX9_sizeOfSet 24 = .ok (.ireturn, 1) := by decide +kernel
theorem dX9_openCell_0 : decode cX9_openCell 0 = .ok (.iconst (-1), 1) := by decide +kernel
theorem dX9_openCell_1 : decode cX9_openCell 1 = .ok (.istore_n 3, 1) := by decide +kernel
theorem dX9_openCell_2 : decode cX9_openCell 2 = .ok (.iconst 5, 1) := by decide +kernel
theorem dX9_openCell_3 : decode cX9_openCell 3 = .ok (.istore 4, 2) := by decide +kernel
theorem dX9_openCell_5 : decode cX9_openCell 5 = .ok (.iconst 0, 1) := by decide +kernel
theorem dX9_openCell_6 : decode cX9_openCell 6 = .ok (.istore 5, 2) := by decide +kernel
theorem dX9_openCell_8 : decode cX9_openCell 8 = .ok (.iload 5, 2) := by decide +kernel
theorem dX9_openCell_10 : decode cX9_openCell 10 = .ok (.aload_n 0, 1) := by decide +kernel
theorem dX9_openCell_11 : decode cX9_openCell 11 = .ok (.iload_n 1, 1) := by decide +kernel
theorem dX9_openCell_12 : decode cX9_openCell 12 = .ok (.invokevirtual 108, 3) := by decide +kernel
theorem dX9_openCell_15 : decode cX9_openCell 15 = .ok (.if_icmp .ge 46, 3) := by decide +kernel
theorem dX9_openCell_18 : decode cX9_openCell 18 = .ok (.aload_n 0, 1) := by decide +kernel
theorem dX9_openCell_19 : decode cX9_openCell 19 = .ok (.getfield 38, 3) := by decide +kernel
theorem dX9_openCell_22 : decode cX9_openCell 22 = .ok (.iload_n 2, 1) := by decide +kernel
theorem dX9_openCell_23 : decode cX9_openCell 23 = .ok (.iload 5, 2) := by decide +kernel
theorem dX9_openCell_25 : decode cX9_openCell 25 = .ok (.iadd, 1) := by decide +kernel
theorem dX9_openCell_26 : decode cX9_openCell 26 = .ok (.iaload, 1) := by decide +kernel
theorem dX9_openCell_27 : decode cX9_openCell 27 = .ok (.invokestatic 166, 3) := by decide +kernel
theorem dX9_openCell_30 : decode cX9_openCell 30 = .ok (.istore 6, 2) := by decide +kernel
theorem dX9_openCell_32 : decode cX9_openCell 32 = .ok (.iload 6, 2) := by decide +kernel
theorem dX9_openCell_34 : decode cX9_openCell 34 = .ok (.iconst 2, 1) := by decide +kernel
theorem dX9_openCell_35 : decode cX9_openCell 35 = .ok (.if_icmp .lt 20, 3) := by decide +kernel
theorem dX9_openCell_38 : decode cX9_openCell 38 = .ok (.iload 6, 2) := by decide +kernel
theorem dX9_openCell_40 : decode cX9_openCell 40 = .ok (.iload 4, 2) := by decide +kernel
theorem dX9_openCell_42 : decode cX9_openCell 42 = .ok (.if_icmp .lt 6, 3) := by decide +kernel
theorem dX9_openCell_45 : decode cX9_openCell 45 = .ok (.goto 10, 3) := by decide +kernel
theorem dX9_openCell_48 : decode cX9_openCell 48 = .ok (.iload 5, 2) := by decide +kernel
theorem dX9_openCell_50 : decode cX9_openCell 50 = .ok (.istore_n 3, 1) := by decide +kernel
theorem dX9_openCell_51 : decode cX9_openCell 51 = .ok (.iload 6, 2) := by decide +kernel
theorem dX9_openCell_53 : decode cX9_openCell 53 = .ok (.istore 4, 2) := by decide +kernel
theorem dX9_openCell_55 : decode cX9_openCell 55 = .ok (.iinc 5 1, 3) := by decide +kernel
theorem dX9_openCell_58 : decode cX9_openCell 58 = .ok (.goto (-50), 3) := by decide +kernel
theorem dX9_openCell_61 : decode cX9_openCell 61 = .ok (.iload_n 3, 1) := by decide +kernel
theorem dX9_openCell_62 : decode cX9_openCell 62 = .ok (.ireturn, 1) := by decide +kernel
theorem dX9_opens_0 : decode cX9_opens 0 = .ok (.aload_n 0, 1) := by decide +kernel
theorem dX9_opens_1 : decode cX9_opens 1 = .ok (.iload_n 1, 1) := by decide +kernel
theorem dX9_opens_2 : decode cX9_opens 2 = .ok (.bipush 100, 2) := by decide +kernel
theorem dX9_opens_4 : decode cX9_opens 4 = .ok (.iload_n 2, 1) := by decide +kernel
theorem dX9_opens_5 : decode cX9_opens 5 = .ok (.imul, 1) := by decide +kernel
theorem dX9_opens_6 : decode cX9_opens 6 = .ok (.invokevirtual 163, 3) := by decide +kernel
theorem dX9_opens_9 : decode cX9_opens 9 = .ok (.iconst (-1), 1) := by decide +kernel
theorem dX9_opens_10 : decode cX9_opens 10 = .ok (.if_icmp .ne 5, 3) := by decide +kernel
theorem dX9_opens_13 : decode cX9_opens 13 = .ok (.iconst 0, 1) := by decide +kernel
theorem dX9_opens_14 : decode cX9_opens 14 = .ok (.ireturn, 1) := by decide +kernel
theorem dX9_opens_15 : decode cX9_opens 15 = .ok (.aload_n 0, 1) := by decide +kernel
theorem dX9_opens_16 : decode cX9_opens 16 = .ok (.iload_n 1, 1) := by decide +kernel
theorem dX9_opens_17 : decode cX9_opens 17 = .ok (.bipush 100, 2) := by decide +kernel
theorem dX9_opens_19 : decode cX9_opens 19 = .ok (.iload_n 2, 1) := by decide +kernel
theorem dX9_opens_20 : decode cX9_opens 20 = .ok (.imul, 1) := by decide +kernel
theorem dX9_opens_21 : decode cX9_opens 21 = .ok (.invokevirtual 169, 3) := by decide +kernel
theorem dX9_opens_24 : decode cX9_opens 24 = .ok (.istore_n 3, 1) := by decide +kernel
theorem dX9_opens_25 : decode cX9_opens 25 = .ok (.iload_n 3, 1) := by decide +kernel
theorem dX9_opens_26 : decode cX9_opens 26 = .ok (.iconst (-1), 1) := by decide +kernel
theorem dX9_opens_27 : decode cX9_opens 27 = .ok (.if_icmp .eq 19, 3) := by decide +kernel
theorem dX9_opens_30 : decode cX9_opens 30 = .ok (.aload_n 0, 1) := by decide +kernel
theorem dX9_opens_31 : decode cX9_opens 31 = .ok (.getfield 59, 3) := by decide +kernel
theorem dX9_opens_34 : decode cX9_opens 34 = .ok (.iload_n 2, 1) := by decide +kernel
theorem dX9_opens_35 : decode cX9_opens 35 = .ok (.iload_n 3, 1) := by decide +kernel
theorem dX9_opens_36 : decode cX9_opens 36 = .ok (.iastore, 1) := by decide +kernel
theorem dX9_opens_37 : decode cX9_opens 37 = .ok (.aload_n 0, 1) := by decide +kernel
theorem dX9_opens_38 : decode cX9_opens 38 = .ok (.getfield 62, 3) := by decide +kernel
theorem dX9_opens_41 : decode cX9_opens 41 = .ok (.iload_n 2, 1) := by decide +kernel
theorem dX9_opens_42 : decode cX9_opens 42 = .ok (.iconst 0, 1) := by decide +kernel
theorem dX9_opens_43 : decode cX9_opens 43 = .ok (.iastore, 1) := by decide +kernel
theorem dX9_opens_44 : decode cX9_opens 44 = .ok (.iconst 1, 1) := by decide +kernel
theorem dX9_opens_45 : decode cX9_opens 45 = .ok (.ireturn, 1) := by decide +kernel
theorem dX9_opens_46 : decode cX9_opens 46 = .ok (.iconst 0, 1) := by decide +kernel
theorem dX9_opens_47 : decode cX9_opens 47 = .ok (.istore 4, 2) := by decide +kernel
theorem dX9_opens_49 : decode cX9_opens 49 = .ok (.iload 4, 2) := by decide +kernel
theorem dX9_opens_51 : decode cX9_opens 51 = .ok (.aload_n 0, 1) := by decide +kernel
theorem dX9_opens_52 : decode cX9_opens 52 = .ok (.iload_n 1, 1) := by decide +kernel
theorem dX9_opens_53 : decode cX9_opens 53 = .ok (.invokevirtual 108, 3) := by decide +kernel
theorem dX9_opens_56 : decode cX9_opens 56 = .ok (.if_icmp .ge 54, 3) := by decide +kernel
theorem dX9_opens_59 : decode cX9_opens 59 = .ok (.iconst 0, 1) := by decide +kernel
theorem dX9_opens_60 : decode cX9_opens 60 = .ok (.istore 5, 2) := by decide +kernel
theorem dX9_opens_62 : decode cX9_opens 62 = .ok (.aload_n 0, 1) := by decide +kernel
theorem dX9_opens_63 : decode cX9_opens 63 = .ok (.getfield 38, 3) := by decide +kernel
theorem dX9_opens_66 : decode cX9_opens 66 = .ok (.bipush 100, 2) := by decide +kernel
theorem dX9_opens_68 : decode cX9_opens 68 = .ok (.iload_n 2, 1) := by decide +kernel
theorem dX9_opens_69 : decode cX9_opens 69 = .ok (.imul, 1) := by decide +kernel
theorem dX9_opens_70 : decode cX9_opens 70 = .ok (.iload 4, 2) := by decide +kernel
theorem dX9_opens_72 : decode cX9_opens 72 = .ok (.iadd, 1) := by decide +kernel
theorem dX9_opens_73 : decode cX9_opens 73 = .ok (.iaload, 1) := by decide +kernel
theorem dX9_opens_74 : decode cX9_opens 74 = .ok (.iload 5, 2) := by decide +kernel
theorem dX9_opens_76 : decode cX9_opens 76 = .ok (.ishr, 1) := by decide +kernel
theorem dX9_opens_77 : decode cX9_opens 77 = .ok (.iconst 1, 1) := by decide +kernel
theorem dX9_opens_78 : decode cX9_opens 78 = .ok (.if_icmp .le 9, 3) := by decide +kernel
theorem dX9_opens_81 : decode cX9_opens 81 = .ok (.iinc 5 1, 3) := by decide +kernel
theorem dX9_opens_84 : decode cX9_opens 84 = .ok (.goto (-22), 3) := by decide +kernel
theorem dX9_opens_87 : decode cX9_opens 87 = .ok (.aload_n 0, 1) := by decide +kernel
theorem dX9_opens_88 : decode cX9_opens 88 = .ok (.getfield 56, 3) := by decide +kernel
theorem dX9_opens_91 : decode cX9_opens 91 = .ok (.bipush 100, 2) := by decide +kernel
theorem dX9_opens_93 : decode cX9_opens 93 = .ok (.aload_n 0, 1) := by decide +kernel
theorem dX9_opens_94 : decode cX9_opens 94 = .ok (.getfield 172, 3) := by decide +kernel
theorem dX9_opens_97 : decode cX9_opens 97 = .ok (.imul, 1) := by decide +kernel
theorem dX9_opens_98 : decode cX9_opens 98 = .ok (.iload 4, 2) := by decide +kernel
theorem dX9_opens_100 : decode cX9_opens 100 = .ok (.iadd, 1) := by decide +kernel
theorem dX9_opens_101 : decode cX9_opens 101 = .ok (.iload 5, 2) := by decide +kernel
theorem dX9_opens_103 : decode cX9_opens 103 = .ok (.iastore, 1) := by decide +kernel
theorem dX9_opens_104 : decode cX9_opens 104 = .ok (.iinc 4 1, 3) := by decide +kernel
theorem dX9_opens_107 : decode cX9_opens 107 = .ok (.goto (-58), 3) := by decide +kernel
theorem dX9_opens_110 : decode cX9_opens 110 = .ok (.aload_n 0, 1) := by decide +kernel
theorem dX9_opens_111 : decode cX9_opens 111 = .ok (.dup, 1) := by decide +kernel
theorem dX9_opens_112 : decode cX9_opens 112 = .ok (.getfield 172, 3) := by decide +kernel
theorem dX9_opens_115 : decode cX9_opens 115 = .ok (.iconst 1, 1) := by decide +kernel
theorem dX9_opens_116 : decode cX9_opens 116 = .ok (.iadd, 1) := by decide +kernel
theorem dX9_opens_117 : decode cX9_opens 117 = .ok (.putfield 172, 3) := by decide +kernel
theorem dX9_opens_120 : decode cX9_opens 120 = .ok (.iconst 0, 1) := by decide +kernel
theorem dX9_opens_121 : decode cX9_opens 121 = .ok (.ireturn, 1) := by decide +kernel
theorem dX9_search_0 : decode cX9_search 0 = .ok (.aload_n 0, 1) := by decide +kernel
theorem dX9_search_1 : decode cX9_search 1 = .ok (.iload_n 1, 1) := by decide +kernel
theorem dX9_search_2 : decode cX9_search 2 = .ok (.invokevirtual 100, 3) := by decide +kernel
theorem dX9_search_5 : decode cX9_search 5 = .ok (.ifCond .eq 23, 3) := by decide +kernel
theorem dX9_search_8 : decode cX9_search 8 = .ok (.iload_n 2, 1) := by decide +kernel
theorem dX9_search_9 : decode cX9_search 9 = .ok (.iconst 0, 1) := by decide +kernel
theorem dX9_search_10 : decode cX9_search 10 = .ok (.sipush 200, 3) := by decide +kernel
theorem dX9_search_13 : decode cX9_search 13 = .ok (.invokestatic 96, 3) := by decide +kernel
theorem dX9_search_16 : decode cX9_search 16 = .ok (.ifCond .eq 12, 3) := by decide +kernel
theorem dX9_search_19 : decode cX9_search 19 = .ok (.iload_n 3, 1) := by decide +kernel
theorem dX9_search_20 : decode cX9_search 20 = .ok (.iconst 1, 1) := by decide +kernel
theorem dX9_search_21 : decode cX9_search 21 = .ok (.iconst 5, 1) := by decide +kernel
theorem dX9_search_22 : decode cX9_search 22 = .ok (.invokestatic 96, 3) := by decide +kernel
theorem dX9_search_25 : decode cX9_search 25 = .ok (.ifCond .ne 5, 3) := by decide +kernel
theorem dX9_search_28 : decode cX9_search 28 = .ok (.iconst (-1), 1) := by decide +kernel
theorem dX9_search_29 : decode cX9_search 29 = .ok (.ireturn, 1) := by decide +kernel
theorem dX9_search_30 : decode cX9_search 30 = .ok (.aload_n 0, 1) := by decide +kernel
theorem dX9_search_31 : decode cX9_search 31 = .ok (.iconst 0, 1) := by decide +kernel
theorem dX9_search_32 : decode cX9_search 32 = .ok (.putfield 172, 3) := by decide +kernel
theorem dX9_search_35 : decode cX9_search 35 = .ok (.aload_n 0, 1) := by decide +kernel
theorem dX9_search_36 : decode cX9_search 36 = .ok (.iconst 0, 1) := by decide +kernel
theorem dX9_search_37 : decode cX9_search 37 = .ok (.putfield 175, 3) := by decide +kernel
theorem dX9_search_40 : decode cX9_search 40 = .ok (.aload_n 0, 1) := by decide +kernel
theorem dX9_search_41 : decode cX9_search 41 = .ok (.aload_n 0, 1) := by decide +kernel
theorem dX9_search_42 : decode cX9_search 42 = .ok (.iload_n 1, 1) := by decide +kernel
theorem dX9_search_43 : decode cX9_search 43 = .ok (.invokevirtual 108, 3) := by decide +kernel
theorem dX9_search_46 : decode cX9_search 46 = .ok (.putfield 178, 3) := by decide +kernel
theorem dX9_search_49 : decode cX9_search 49 = .ok (.aload_n 0, 1) := by decide +kernel
theorem dX9_search_50 : decode cX9_search 50 = .ok (.iload_n 1, 1) := by decide +kernel
theorem dX9_search_51 : decode cX9_search 51 = .ok (.iconst 0, 1) := by decide +kernel
theorem dX9_search_52 : decode cX9_search 52 = .ok (.invokevirtual 156, 3) := by decide +kernel
theorem dX9_search_55 : decode cX9_search 55 = .ok (.aload_n 0, 1) := by decide +kernel
theorem dX9_search_56 : decode cX9_search 56 = .ok (.iload_n 1, 1) := by decide +kernel
theorem dX9_search_57 : decode cX9_search 57 = .ok (.iconst 0, 1) := by decide +kernel
theorem dX9_search_58 : decode cX9_search 58 = .ok (.invokevirtual 181, 3) := by decide +kernel
theorem dX9_search_61 : decode cX9_search 61 = .ok (.ifCond .eq 7, 3) := by decide +kernel
theorem dX9_search_64 : decode cX9_search 64 = .ok (.iconst 0, 1) := by decide +kernel
theorem dX9_search_65 : decode cX9_search 65 = .ok (.goto 4, 3) := by decide +kernel
theorem dX9_search_68 : decode cX9_search 68 = .ok (.iconst (-1), 1) := by decide +kernel
theorem dX9_search_69 : decode cX9_search 69 = .ok (.istore 4, 2) := by decide +kernel
theorem dX9_search_71 : decode cX9_search 71 = .ok (.iload 4, 2) := by decide +kernel
theorem dX9_search_73 : decode cX9_search 73 = .ok (.ifCond .lt 161, 3) := by decide +kernel
theorem dX9_search_76 : decode cX9_search 76 = .ok (.aload_n 0, 1) := by decide +kernel
theorem dX9_search_77 : decode cX9_search 77 = .ok (.getfield 172, 3) := by decide +kernel
theorem dX9_search_80 : decode cX9_search 80 = .ok (.iload_n 3, 1) := by decide +kernel
theorem dX9_search_81 : decode cX9_search 81 = .ok (.if_icmp .ge 153, 3) := by decide +kernel
theorem dX9_search_84 : decode cX9_search 84 = .ok (.aload_n 0, 1) := by decide +kernel
theorem dX9_search_85 : decode cX9_search 85 = .ok (.getfield 62, 3) := by decide +kernel
theorem dX9_search_88 : decode cX9_search 88 = .ok (.iload 4, 2) := by decide +kernel
theorem dX9_search_90 : decode cX9_search 90 = .ok (.iaload, 1) := by decide +kernel
theorem dX9_search_91 : decode cX9_search 91 = .ok (.istore 5, 2) := by decide +kernel
theorem dX9_search_93 : decode cX9_search 93 = .ok (.iload 5, 2) := by decide +kernel
theorem dX9_search_95 : decode cX9_search 95 = .ok (.iconst 4, 1) := by decide +kernel
theorem dX9_search_96 : decode cX9_search 96 = .ok (.if_icmp .ge 35, 3) := by decide +kernel
theorem dX9_search_99 : decode cX9_search 99 = .ok (.aload_n 0, 1) := by decide +kernel
theorem dX9_search_100 : decode cX9_search 100 = .ok (.getfield 38, 3) := by decide +kernel
theorem dX9_search_103 : decode cX9_search 103 = .ok (.bipush 100, 2) := by decide +kernel
theorem dX9_search_105 : decode cX9_search 105 = .ok (.iload 4, 2) := by decide +kernel
theorem dX9_search_107 : decode cX9_search 107 = .ok (.imul, 1) := by decide +kernel
theorem dX9_search_108 : decode cX9_search 108 = .ok (.aload_n 0, 1) := by decide +kernel
theorem dX9_search_109 : decode cX9_search 109 = .ok (.getfield 59, 3) := by decide +kernel
theorem dX9_search_112 : decode cX9_search 112 = .ok (.iload 4, 2) := by decide +kernel
theorem dX9_search_114 : decode cX9_search 114 = .ok (.iaload, 1) := by decide +kernel
theorem dX9_search_115 : decode cX9_search 115 = .ok (.iadd, 1) := by decide +kernel
theorem dX9_search_116 : decode cX9_search 116 = .ok (.iaload, 1) := by decide +kernel
theorem dX9_search_117 : decode cX9_search 117 = .ok (.iload 5, 2) := by decide +kernel
theorem dX9_search_119 : decode cX9_search 119 = .ok (.ishr, 1) := by decide +kernel
theorem dX9_search_120 : decode cX9_search 120 = .ok (.iconst 1, 1) := by decide +kernel
theorem dX9_search_121 : decode cX9_search 121 = .ok (.iand, 1) := by decide +kernel
theorem dX9_search_122 : decode cX9_search 122 = .ok (.ifCond .ne 9, 3) := by decide +kernel
theorem dX9_search_125 : decode cX9_search 125 = .ok (.iinc 5 1, 3) := by decide +kernel
theorem dX9_search_128 : decode cX9_search 128 = .ok (.goto (-35), 3) := by decide +kernel
theorem dX9_search_131 : decode cX9_search 131 = .ok (.iload 5, 2) := by decide +kernel
theorem dX9_search_133 : decode cX9_search 133 = .ok (.iconst 4, 1) := by decide +kernel
theorem dX9_search_134 : decode cX9_search 134 = .ok (.if_icmp .ne 9, 3) := by decide +kernel
theorem dX9_search_137 : decode cX9_search 137 = .ok (.iinc 4 (-1), 3) := by decide +kernel
theorem dX9_search_140 : decode cX9_search 140 = .ok (.goto (-69), 3) := by decide +kernel
theorem dX9_search_143 : decode cX9_search 143 = .ok (.aload_n 0, 1) := by decide +kernel
theorem dX9_search_144 : decode cX9_search 144 = .ok (.getfield 175, 3) := by decide +kernel
theorem dX9_search_147 : decode cX9_search 147 = .ok (.iload_n 2, 1) := by decide +kernel
theorem dX9_search_148 : decode cX9_search 148 = .ok (.if_icmp .ne 6, 3) := by decide +kernel
theorem dX9_search_151 : decode cX9_search 151 = .ok (.bipush (-2), 2) := by decide +kernel
theorem dX9_search_153 : decode cX9_search 153 = .ok (.ireturn, 1) := by decide +kernel
theorem dX9_search_154 : decode cX9_search 154 = .ok (.aload_n 0, 1) := by decide +kernel
theorem dX9_search_155 : decode cX9_search 155 = .ok (.dup, 1) := by decide +kernel
theorem dX9_search_156 : decode cX9_search 156 = .ok (.getfield 175, 3) := by decide +kernel
theorem dX9_search_159 : decode cX9_search 159 = .ok (.iconst 1, 1) := by decide +kernel
theorem dX9_search_160 : decode cX9_search 160 = .ok (.iadd, 1) := by decide +kernel
theorem dX9_search_161 : decode cX9_search 161 = .ok (.putfield 175, 3) := by decide +kernel
theorem dX9_search_164 : decode cX9_search 164 = .ok (.aload_n 0, 1) := by decide +kernel
theorem dX9_search_165 : decode cX9_search 165 = .ok (.getfield 62, 3) := by decide +kernel
theorem dX9_search_168 : decode cX9_search 168 = .ok (.iload 4, 2) := by decide +kernel
theorem dX9_search_170 : decode cX9_search 170 = .ok (.iload 5, 2) := by decide +kernel
theorem dX9_search_172 : decode cX9_search 172 = .ok (.iconst 1, 1) := by decide +kernel
theorem dX9_search_173 : decode cX9_search 173 = .ok (.iadd, 1) := by decide +kernel
theorem dX9_search_174 : decode cX9_search 174 = .ok (.iastore, 1) := by decide +kernel
theorem dX9_search_175 : decode cX9_search 175 = .ok (.aload_n 0, 1) := by decide +kernel
theorem dX9_search_176 : decode cX9_search 176 = .ok (.iload_n 1, 1) := by decide +kernel
theorem dX9_search_177 : decode cX9_search 177 = .ok (.bipush 100, 2) := by decide +kernel
theorem dX9_search_179 : decode cX9_search 179 = .ok (.iload 4, 2) := by decide +kernel
theorem dX9_search_181 : decode cX9_search 181 = .ok (.imul, 1) := by decide +kernel
theorem dX9_search_182 : decode cX9_search 182 = .ok (.bipush 100, 2) := by decide +kernel
theorem dX9_search_184 : decode cX9_search 184 = .ok (.iload 4, 2) := by decide +kernel
theorem dX9_search_186 : decode cX9_search 186 = .ok (.iconst 1, 1) := by decide +kernel
theorem dX9_search_187 : decode cX9_search 187 = .ok (.iadd, 1) := by decide +kernel
theorem dX9_search_188 : decode cX9_search 188 = .ok (.imul, 1) := by decide +kernel
theorem dX9_search_189 : decode cX9_search 189 = .ok (.invokevirtual 184, 3) := by decide +kernel
theorem dX9_search_192 : decode cX9_search 192 = .ok (.aload_n 0, 1) := by decide +kernel
theorem dX9_search_193 : decode cX9_search 193 = .ok (.getfield 38, 3) := by decide +kernel
theorem dX9_search_196 : decode cX9_search 196 = .ok (.bipush 100, 2) := by decide +kernel
theorem dX9_search_198 : decode cX9_search 198 = .ok (.iload 4, 2) := by decide +kernel
theorem dX9_search_200 : decode cX9_search 200 = .ok (.iconst 1, 1) := by decide +kernel
theorem dX9_search_201 : decode cX9_search 201 = .ok (.iadd, 1) := by decide +kernel
theorem dX9_search_202 : decode cX9_search 202 = .ok (.imul, 1) := by decide +kernel
theorem dX9_search_203 : decode cX9_search 203 = .ok (.aload_n 0, 1) := by decide +kernel
theorem dX9_search_204 : decode cX9_search 204 = .ok (.getfield 59, 3) := by decide +kernel
theorem dX9_search_207 : decode cX9_search 207 = .ok (.iload 4, 2) := by decide +kernel
theorem dX9_search_209 : decode cX9_search 209 = .ok (.iaload, 1) := by decide +kernel
theorem dX9_search_210 : decode cX9_search 210 = .ok (.iadd, 1) := by decide +kernel
theorem dX9_search_211 : decode cX9_search 211 = .ok (.iconst 1, 1) := by decide +kernel
theorem dX9_search_212 : decode cX9_search 212 = .ok (.iload 5, 2) := by decide +kernel
theorem dX9_search_214 : decode cX9_search 214 = .ok (.ishl, 1) := by decide +kernel
theorem dX9_search_215 : decode cX9_search 215 = .ok (.iastore, 1) := by decide +kernel
theorem dX9_search_216 : decode cX9_search 216 = .ok (.aload_n 0, 1) := by decide +kernel
theorem dX9_search_217 : decode cX9_search 217 = .ok (.iload_n 1, 1) := by decide +kernel
theorem dX9_search_218 : decode cX9_search 218 = .ok (.iload 4, 2) := by decide +kernel
theorem dX9_search_220 : decode cX9_search 220 = .ok (.iconst 1, 1) := by decide +kernel
theorem dX9_search_221 : decode cX9_search 221 = .ok (.iadd, 1) := by decide +kernel
theorem dX9_search_222 : decode cX9_search 222 = .ok (.invokevirtual 181, 3) := by decide +kernel
theorem dX9_search_225 : decode cX9_search 225 = .ok (.ifCond .eq 6, 3) := by decide +kernel
theorem dX9_search_228 : decode cX9_search 228 = .ok (.iinc 4 1, 3) := by decide +kernel
theorem dX9_search_231 : decode cX9_search 231 = .ok (.goto (-160), 3) := by decide +kernel
theorem dX9_search_234 : decode cX9_search 234 = .ok (.aload_n 0, 1) := by decide +kernel
theorem dX9_search_235 : decode cX9_search 235 = .ok (.getfield 172, 3) := by decide +kernel
theorem dX9_search_238 : decode cX9_search 238 = .ok (.ireturn, 1) := by decide +kernel
theorem dX9_found_0 : decode cX9_found 0 = .ok (.iload_n 1, 1) := by decide +kernel
theorem dX9_found_1 : decode cX9_found 1 = .ok (.iconst (-1), 1) := by decide +kernel
theorem dX9_found_2 : decode cX9_found 2 = .ok (.if_icmp .ne 10, 3) := by decide +kernel
theorem dX9_found_5 : decode cX9_found 5 = .ok (.aload_n 0, 1) := by decide +kernel
theorem dX9_found_6 : decode cX9_found 6 = .ok (.getfield 172, 3) := by decide +kernel
theorem dX9_found_9 : decode cX9_found 9 = .ok (.goto 17, 3) := by decide +kernel
theorem dX9_found_12 : decode cX9_found 12 = .ok (.iload_n 1, 1) := by decide +kernel
theorem dX9_found_13 : decode cX9_found 13 = .ok (.bipush (-2), 2) := by decide +kernel
theorem dX9_found_15 : decode cX9_found 15 = .ok (.if_icmp .ne 10, 3) := by decide +kernel
theorem dX9_found_18 : decode cX9_found 18 = .ok (.aload_n 0, 1) := by decide +kernel
theorem dX9_found_19 : decode cX9_found 19 = .ok (.getfield 175, 3) := by decide +kernel
theorem dX9_found_22 : decode cX9_found 22 = .ok (.goto 4, 3) := by decide +kernel
theorem dX9_found_25 : decode cX9_found 25 = .ok (.iconst (-1), 1) := by decide +kernel
theorem dX9_found_26 : decode cX9_found 26 = .ok (.ireturn, 1) := by decide +kernel
theorem dX9_picture_0 : decode cX9_picture 0 = .ok (.iload_n 1, 1) := by decide +kernel
theorem dX9_picture_1 : decode cX9_picture 1 = .ok (.iconst 0, 1) := by decide +kernel
theorem dX9_picture_2 : decode cX9_picture 2 = .ok (.aload_n 0, 1) := by decide +kernel
theorem dX9_picture_3 : decode cX9_picture 3 = .ok (.getfield 172, 3) := by decide +kernel
theorem dX9_picture_6 : decode cX9_picture 6 = .ok (.iconst 1, 1) := by decide +kernel
theorem dX9_picture_7 : decode cX9_picture 7 = .ok (.isub, 1) := by decide +kernel
theorem dX9_picture_8 : decode cX9_picture 8 = .ok (.invokestatic 96, 3) := by decide +kernel
theorem dX9_picture_11 : decode cX9_picture 11 = .ok (.ifCond .eq 31, 3) := by decide +kernel
theorem dX9_picture_14 : decode cX9_picture 14 = .ok (.iload_n 2, 1) := by decide +kernel
theorem dX9_picture_15 : decode cX9_picture 15 = .ok (.iconst 0, 1) := by decide +kernel
theorem dX9_picture_16 : decode cX9_picture 16 = .ok (.aload_n 0, 1) := by decide +kernel
theorem dX9_picture_17 : decode cX9_picture 17 = .ok (.getfield 178, 3) := by decide +kernel
theorem dX9_picture_20 : decode cX9_picture 20 = .ok (.iconst 1, 1) := by decide +kernel
theorem dX9_picture_21 : decode cX9_picture 21 = .ok (.isub, 1) := by decide +kernel
theorem dX9_picture_22 : decode cX9_picture 22 = .ok (.invokestatic 96, 3) := by decide +kernel
theorem dX9_picture_25 : decode cX9_picture 25 = .ok (.ifCond .eq 17, 3) := by decide +kernel
theorem dX9_picture_28 : decode cX9_picture 28 = .ok (.aload_n 0, 1) := by decide +kernel
theorem dX9_picture_29 : decode cX9_picture 29 = .ok (.getfield 56, 3) := by decide +kernel
theorem dX9_picture_32 : decode cX9_picture 32 = .ok (.bipush 100, 2) := by decide +kernel
theorem dX9_picture_34 : decode cX9_picture 34 = .ok (.iload_n 1, 1) := by decide +kernel
theorem dX9_picture_35 : decode cX9_picture 35 = .ok (.imul, 1) := by decide +kernel
theorem dX9_picture_36 : decode cX9_picture 36 = .ok (.iload_n 2, 1) := by decide +kernel
theorem dX9_picture_37 : decode cX9_picture 37 = .ok (.iadd, 1) := by decide +kernel
theorem dX9_picture_38 : decode cX9_picture 38 = .ok (.iaload, 1) := by decide +kernel
theorem dX9_picture_39 : decode cX9_picture 39 = .ok (.goto 4, 3) := by decide +kernel
theorem dX9_picture_42 : decode cX9_picture 42 = .ok (.iconst (-1), 1) := by decide +kernel
theorem dX9_picture_43 : decode cX9_picture 43 = .ok (.ireturn, 1) := by decide +kernel
theorem dX9_grade_0 : decode cX9_grade 0 = .ok (.aload_n 0, 1) := by decide +kernel
theorem dX9_grade_1 : decode cX9_grade 1 = .ok (.iload_n 1, 1) := by decide +kernel
theorem dX9_grade_2 : decode cX9_grade 2 = .ok (.invokevirtual 100, 3) := by decide +kernel
theorem dX9_grade_5 : decode cX9_grade 5 = .ok (.ifCond .ne 5, 3) := by decide +kernel
theorem dX9_grade_8 : decode cX9_grade 8 = .ok (.iconst (-1), 1) := by decide +kernel
theorem dX9_grade_9 : decode cX9_grade 9 = .ok (.ireturn, 1) := by decide +kernel
theorem dX9_grade_10 : decode cX9_grade 10 = .ok (.aload_n 0, 1) := by decide +kernel
theorem dX9_grade_11 : decode cX9_grade 11 = .ok (.iconst 0, 1) := by decide +kernel
theorem dX9_grade_12 : decode cX9_grade 12 = .ok (.putfield 188, 3) := by decide +kernel
theorem dX9_grade_15 : decode cX9_grade 15 = .ok (.aload_n 0, 1) := by decide +kernel
theorem dX9_grade_16 : decode cX9_grade 16 = .ok (.iconst 0, 1) := by decide +kernel
theorem dX9_grade_17 : decode cX9_grade 17 = .ok (.putfield 191, 3) := by decide +kernel
theorem dX9_grade_20 : decode cX9_grade 20 = .ok (.iconst 0, 1) := by decide +kernel
theorem dX9_grade_21 : decode cX9_grade 21 = .ok (.istore_n 2, 1) := by decide +kernel
theorem dX9_grade_22 : decode cX9_grade 22 = .ok (.iload_n 2, 1) := by decide +kernel
theorem dX9_grade_23 : decode cX9_grade 23 = .ok (.aload_n 0, 1) := by decide +kernel
theorem dX9_grade_24 : decode cX9_grade 24 = .ok (.iload_n 1, 1) := by decide +kernel
theorem dX9_grade_25 : decode cX9_grade 25 = .ok (.invokevirtual 108, 3) := by decide +kernel
theorem dX9_grade_28 : decode cX9_grade 28 = .ok (.if_icmp .ge 20, 3) := by decide +kernel
theorem dX9_grade_31 : decode cX9_grade 31 = .ok (.aload_n 0, 1) := by decide +kernel
theorem dX9_grade_32 : decode cX9_grade 32 = .ok (.getfield 38, 3) := by decide +kernel
theorem dX9_grade_35 : decode cX9_grade 35 = .ok (.iload_n 2, 1) := by decide +kernel
theorem dX9_grade_36 : decode cX9_grade 36 = .ok (.aload_n 0, 1) := by decide +kernel
theorem dX9_grade_37 : decode cX9_grade 37 = .ok (.iload_n 1, 1) := by decide +kernel
theorem dX9_grade_38 : decode cX9_grade 38 = .ok (.invokevirtual 114, 3) := by decide +kernel
theorem dX9_grade_41 : decode cX9_grade 41 = .ok (.iastore, 1) := by decide +kernel
theorem dX9_grade_42 : decode cX9_grade 42 = .ok (.iinc 2 1, 3) := by decide +kernel
theorem dX9_grade_45 : decode cX9_grade 45 = .ok (.goto (-23), 3) := by decide +kernel
theorem dX9_grade_48 : decode cX9_grade 48 = .ok (.aload_n 0, 1) := by decide +kernel
theorem dX9_grade_49 : decode cX9_grade 49 = .ok (.iload_n 1, 1) := by decide +kernel
theorem dX9_grade_50 : decode cX9_grade 50 = .ok (.iconst 0, 1) := by decide +kernel
theorem dX9_grade_51 : decode cX9_grade 51 = .ok (.invokevirtual 163, 3) := by decide +kernel
theorem dX9_grade_54 : decode cX9_grade 54 = .ok (.iconst (-1), 1) := by decide +kernel
theorem dX9_grade_55 : decode cX9_grade 55 = .ok (.if_icmp .ne 5, 3) := by decide +kernel
theorem dX9_grade_58 : decode cX9_grade 58 = .ok (.iconst 0, 1) := by decide +kernel
theorem dX9_grade_59 : decode cX9_grade 59 = .ok (.ireturn, 1) := by decide +kernel
theorem dX9_grade_60 : decode cX9_grade 60 = .ok (.aload_n 0, 1) := by decide +kernel
theorem dX9_grade_61 : decode cX9_grade 61 = .ok (.iload_n 1, 1) := by decide +kernel
theorem dX9_grade_62 : decode cX9_grade 62 = .ok (.iconst 0, 1) := by decide +kernel
theorem dX9_grade_63 : decode cX9_grade 63 = .ok (.invokevirtual 169, 3) := by decide +kernel
theorem dX9_grade_66 : decode cX9_grade 66 = .ok (.iconst (-1), 1) := by decide +kernel
theorem dX9_grade_67 : decode cX9_grade 67 = .ok (.if_icmp .ne 5, 3) := by decide +kernel
theorem dX9_grade_70 : decode cX9_grade 70 = .ok (.iconst 1, 1) := by decide +kernel
theorem dX9_grade_71 : decode cX9_grade 71 = .ok (.ireturn, 1) := by decide +kernel
theorem dX9_grade_72 : decode cX9_grade 72 = .ok (.iconst 1, 1) := by decide +kernel
theorem dX9_grade_73 : decode cX9_grade 73 = .ok (.istore_n 2, 1) := by decide +kernel
theorem dX9_grade_74 : decode cX9_grade 74 = .ok (.iload_n 2, 1) := by decide +kernel
theorem dX9_grade_75 : decode cX9_grade 75 = .ok (.ifCond .le 25, 3) := by decide +kernel
theorem dX9_grade_78 : decode cX9_grade 78 = .ok (.aload_n 0, 1) := by decide +kernel
theorem dX9_grade_79 : decode cX9_grade 79 = .ok (.iload_n 1, 1) := by decide +kernel
theorem dX9_grade_80 : decode cX9_grade 80 = .ok (.invokevirtual 195, 3) := by decide +kernel
theorem dX9_grade_83 : decode cX9_grade 83 = .ok (.istore_n 2, 1) := by decide +kernel
theorem dX9_grade_84 : decode cX9_grade 84 = .ok (.aload_n 0, 1) := by decide +kernel
theorem dX9_grade_85 : decode cX9_grade 85 = .ok (.getfield 191, 3) := by decide +kernel
theorem dX9_grade_88 : decode cX9_grade 88 = .ok (.ifCond .eq 5, 3) := by decide +kernel
theorem dX9_grade_91 : decode cX9_grade 91 = .ok (.iconst 4, 1) := by decide +kernel
theorem dX9_grade_92 : decode cX9_grade 92 = .ok (.ireturn, 1) := by decide +kernel
theorem dX9_grade_93 : decode cX9_grade 93 = .ok (.iload_n 2, 1) := by decide +kernel
theorem dX9_grade_94 : decode cX9_grade 94 = .ok (.iconst (-1), 1) := by decide +kernel
theorem dX9_grade_95 : decode cX9_grade 95 = .ok (.if_icmp .ne (-21), 3) := by decide +kernel
theorem dX9_grade_98 : decode cX9_grade 98 = .ok (.iconst 0, 1) := by decide +kernel
theorem dX9_grade_99 : decode cX9_grade 99 = .ok (.ireturn, 1) := by decide +kernel
theorem dX9_grade_100 : decode cX9_grade 100 = .ok (.aload_n 0, 1) := by decide +kernel
theorem dX9_grade_101 : decode cX9_grade 101 = .ok (.iload_n 1, 1) := by decide +kernel
theorem dX9_grade_102 : decode cX9_grade 102 = .ok (.iconst 0, 1) := by decide +kernel
theorem dX9_grade_103 : decode cX9_grade 103 = .ok (.invokevirtual 169, 3) := by decide +kernel
theorem dX9_grade_106 : decode cX9_grade 106 = .ok (.iconst (-1), 1) := by decide +kernel
theorem dX9_grade_107 : decode cX9_grade 107 = .ok (.if_icmp .ne 7, 3) := by decide +kernel
theorem dX9_grade_110 : decode cX9_grade 110 = .ok (.iconst 2, 1) := by decide +kernel
theorem dX9_grade_111 : decode cX9_grade 111 = .ok (.goto 4, 3) := by decide +kernel
theorem dX9_grade_114 : decode cX9_grade 114 = .ok (.iconst 3, 1) := by decide +kernel
theorem dX9_grade_115 : decode cX9_grade 115 = .ok (.ireturn, 1) := by decide +kernel
theorem dX9_passes_0 : decode cX9_passes 0 = .ok (.iconst 0, 1) := by decide +kernel
theorem dX9_passes_1 : decode cX9_passes 1 = .ok (.istore_n 2, 1) := by decide +kernel
theorem dX9_passes_2 : decode cX9_passes 2 = .ok (.iconst 0, 1) := by decide +kernel
theorem dX9_passes_3 : decode cX9_passes 3 = .ok (.istore_n 3, 1) := by decide +kernel
theorem dX9_passes_4 : decode cX9_passes 4 = .ok (.iload_n 3, 1) := by decide +kernel
theorem dX9_passes_5 : decode cX9_passes 5 = .ok (.aload_n 0, 1) := by decide +kernel
theorem dX9_passes_6 : decode cX9_passes 6 = .ok (.iload_n 1, 1) := by decide +kernel
theorem dX9_passes_7 : decode cX9_passes 7 = .ok (.invokevirtual 108, 3) := by decide +kernel
theorem dX9_passes_10 : decode cX9_passes 10 = .ok (.if_icmp .ge 145, 3) := by decide +kernel
theorem dX9_passes_13 : decode cX9_passes 13 = .ok (.iconst 0, 1) := by decide +kernel
theorem dX9_passes_14 : decode cX9_passes 14 = .ok (.istore 4, 2) := by decide +kernel
theorem dX9_passes_16 : decode cX9_passes 16 = .ok (.iload 4, 2) := by decide +kernel
theorem dX9_passes_18 : decode cX9_passes 18 = .ok (.iconst 4, 1) := by decide +kernel
theorem dX9_passes_19 : decode cX9_passes 19 = .ok (.if_icmp .ge 130, 3) := by decide +kernel
theorem dX9_passes_22 : decode cX9_passes 22 = .ok (.aload_n 0, 1) := by decide +kernel
theorem dX9_passes_23 : decode cX9_passes 23 = .ok (.getfield 38, 3) := by decide +kernel
theorem dX9_passes_26 : decode cX9_passes 26 = .ok (.iload_n 3, 1) := by decide +kernel
theorem dX9_passes_27 : decode cX9_passes 27 = .ok (.iaload, 1) := by decide +kernel
theorem dX9_passes_28 : decode cX9_passes 28 = .ok (.invokestatic 128, 3) := by decide +kernel
theorem dX9_passes_31 : decode cX9_passes 31 = .ok (.ifCond .ne 112, 3) := by decide +kernel
theorem dX9_passes_34 : decode cX9_passes 34 = .ok (.aload_n 0, 1) := by decide +kernel
theorem dX9_passes_35 : decode cX9_passes 35 = .ok (.getfield 38, 3) := by decide +kernel
theorem dX9_passes_38 : decode cX9_passes 38 = .ok (.iload_n 3, 1) := by decide +kernel
theorem dX9_passes_39 : decode cX9_passes 39 = .ok (.iaload, 1) := by decide +kernel
theorem dX9_passes_40 : decode cX9_passes 40 = .ok (.iload 4, 2) := by decide +kernel
theorem dX9_passes_42 : decode cX9_passes 42 = .ok (.ishr, 1) := by decide +kernel
theorem dX9_passes_43 : decode cX9_passes 43 = .ok (.iconst 1, 1) := by decide +kernel
theorem dX9_passes_44 : decode cX9_passes 44 = .ok (.iand, 1) := by decide +kernel
theorem dX9_passes_45 : decode cX9_passes 45 = .ok (.ifCond .ne 6, 3) := by decide +kernel
theorem dX9_passes_48 : decode cX9_passes 48 = .ok (.goto 95, 3) := by decide +kernel
theorem dX9_passes_51 : decode cX9_passes 51 = .ok (.aload_n 0, 1) := by decide +kernel
theorem dX9_passes_52 : decode cX9_passes 52 = .ok (.getfield 188, 3) := by decide +kernel
theorem dX9_passes_55 : decode cX9_passes 55 = .ok (.sipush 400, 3) := by decide +kernel
theorem dX9_passes_58 : decode cX9_passes 58 = .ok (.if_icmp .ne 10, 3) := by decide +kernel
theorem dX9_passes_61 : decode cX9_passes 61 = .ok (.aload_n 0, 1) := by decide +kernel
theorem dX9_passes_62 : decode cX9_passes 62 = .ok (.iconst 1, 1) := by decide +kernel
theorem dX9_passes_63 : decode cX9_passes 63 = .ok (.putfield 191, 3) := by decide +kernel
theorem dX9_passes_66 : decode cX9_passes 66 = .ok (.iload_n 2, 1) := by decide +kernel
theorem dX9_passes_67 : decode cX9_passes 67 = .ok (.ireturn, 1) := by decide +kernel
theorem dX9_passes_68 : decode cX9_passes 68 = .ok (.aload_n 0, 1) := by decide +kernel
theorem dX9_passes_69 : decode cX9_passes 69 = .ok (.dup, 1) := by decide +kernel
theorem dX9_passes_70 : decode cX9_passes 70 = .ok (.getfield 188, 3) := by decide +kernel
theorem dX9_passes_73 : decode cX9_passes 73 = .ok (.iconst 1, 1) := by decide +kernel
theorem dX9_passes_74 : decode cX9_passes 74 = .ok (.iadd, 1) := by decide +kernel
theorem dX9_passes_75 : decode cX9_passes 75 = .ok (.putfield 188, 3) := by decide +kernel
theorem dX9_passes_78 : decode cX9_passes 78 = .ok (.aload_n 0, 1) := by decide +kernel
theorem dX9_passes_79 : decode cX9_passes 79 = .ok (.iload_n 1, 1) := by decide +kernel
theorem dX9_passes_80 : decode cX9_passes 80 = .ok (.iconst 0, 1) := by decide +kernel
theorem dX9_passes_81 : decode cX9_passes 81 = .ok (.bipush 100, 2) := by decide +kernel
theorem dX9_passes_83 : decode cX9_passes 83 = .ok (.invokevirtual 184, 3) := by decide +kernel
theorem dX9_passes_86 : decode cX9_passes 86 = .ok (.aload_n 0, 1) := by decide +kernel
theorem dX9_passes_87 : decode cX9_passes 87 = .ok (.getfield 38, 3) := by decide +kernel
theorem dX9_passes_90 : decode cX9_passes 90 = .ok (.bipush 100, 2) := by decide +kernel
theorem dX9_passes_92 : decode cX9_passes 92 = .ok (.iload_n 3, 1) := by decide +kernel
theorem dX9_passes_93 : decode cX9_passes 93 = .ok (.iadd, 1) := by decide +kernel
theorem dX9_passes_94 : decode cX9_passes 94 = .ok (.iconst 1, 1) := by decide +kernel
theorem dX9_passes_95 : decode cX9_passes 95 = .ok (.iload 4, 2) := by decide +kernel
theorem dX9_passes_97 : decode cX9_passes 97 = .ok (.ishl, 1) := by decide +kernel
theorem dX9_passes_98 : decode cX9_passes 98 = .ok (.iastore, 1) := by decide +kernel
theorem dX9_passes_99 : decode cX9_passes 99 = .ok (.aload_n 0, 1) := by decide +kernel
theorem dX9_passes_100 : decode cX9_passes 100 = .ok (.iload_n 1, 1) := by decide +kernel
theorem dX9_passes_101 : decode cX9_passes 101 = .ok (.bipush 100, 2) := by decide +kernel
theorem dX9_passes_103 : decode cX9_passes 103 = .ok (.invokevirtual 163, 3) := by decide +kernel
theorem dX9_passes_106 : decode cX9_passes 106 = .ok (.iconst (-1), 1) := by decide +kernel
theorem dX9_passes_107 : decode cX9_passes 107 = .ok (.if_icmp .eq 6, 3) := by decide +kernel
theorem dX9_passes_110 : decode cX9_passes 110 = .ok (.goto 33, 3) := by decide +kernel
theorem dX9_passes_113 : decode cX9_passes 113 = .ok (.iinc 2 1, 3) := by decide +kernel
theorem dX9_passes_116 : decode cX9_passes 116 = .ok (.aload_n 0, 1) := by decide +kernel
theorem dX9_passes_117 : decode cX9_passes 117 = .ok (.getfield 38, 3) := by decide +kernel
theorem dX9_passes_120 : decode cX9_passes 120 = .ok (.iload_n 3, 1) := by decide +kernel
theorem dX9_passes_121 : decode cX9_passes 121 = .ok (.dup2, 1) := by decide +kernel
theorem dX9_passes_122 : decode cX9_passes 122 = .ok (.iaload, 1) := by decide +kernel
theorem dX9_passes_123 : decode cX9_passes 123 = .ok (.iconst 1, 1) := by decide +kernel
theorem dX9_passes_124 : decode cX9_passes 124 = .ok (.iload 4, 2) := by decide +kernel
theorem dX9_passes_126 : decode cX9_passes 126 = .ok (.ishl, 1) := by decide +kernel
theorem dX9_passes_127 : decode cX9_passes 127 = .ok (.iconst (-1), 1) := by decide +kernel
theorem dX9_passes_128 : decode cX9_passes 128 = .ok (.ixor, 1) := by decide +kernel
theorem dX9_passes_129 : decode cX9_passes 129 = .ok (.iand, 1) := by decide +kernel
theorem dX9_passes_130 : decode cX9_passes 130 = .ok (.iastore, 1) := by decide +kernel
theorem dX9_passes_131 : decode cX9_passes 131 = .ok (.aload_n 0, 1) := by decide +kernel
theorem dX9_passes_132 : decode cX9_passes 132 = .ok (.iload_n 1, 1) := by decide +kernel
theorem dX9_passes_133 : decode cX9_passes 133 = .ok (.iconst 0, 1) := by decide +kernel
theorem dX9_passes_134 : decode cX9_passes 134 = .ok (.invokevirtual 163, 3) := by decide +kernel
theorem dX9_passes_137 : decode cX9_passes 137 = .ok (.iconst (-1), 1) := by decide +kernel
theorem dX9_passes_138 : decode cX9_passes 138 = .ok (.if_icmp .ne 5, 3) := by decide +kernel
theorem dX9_passes_141 : decode cX9_passes 141 = .ok (.iconst (-1), 1) := by decide +kernel
theorem dX9_passes_142 : decode cX9_passes 142 = .ok (.ireturn, 1) := by decide +kernel
theorem dX9_passes_143 : decode cX9_passes 143 = .ok (.iinc 4 1, 3) := by decide +kernel
theorem dX9_passes_146 : decode cX9_passes 146 = .ok (.goto (-130), 3) := by decide +kernel
theorem dX9_passes_149 : decode cX9_passes 149 = .ok (.iinc 3 1, 3) := by decide +kernel
theorem dX9_passes_152 : decode cX9_passes 152 = .ok (.goto (-148), 3) := by decide +kernel
theorem dX9_passes_155 : decode cX9_passes 155 = .ok (.iload_n 2, 1) := by decide +kernel
theorem dX9_passes_156 : decode cX9_passes 156 = .ok (.ireturn, 1) := by decide +kernel
theorem dX9_probes_0 : decode cX9_probes 0 = .ok (.aload_n 0, 1) := by decide +kernel
theorem dX9_probes_1 : decode cX9_probes 1 = .ok (.getfield 188, 3) := by decide +kernel
theorem dX9_probes_4 : decode cX9_probes 4 = .ok (.ireturn, 1) := by decide +kernel
theorem dX9_paint_0 : decode cX9_paint 0 = .ok (.iload_n 1, 1) := by decide +kernel
theorem dX9_paint_1 : decode cX9_paint 1 = .ok (.iconst 0, 1) := by decide +kernel
theorem dX9_paint_2 : decode cX9_paint 2 = .ok (.bipush 9, 2) := by decide +kernel
theorem dX9_paint_4 : decode cX9_paint 4 = .ok (.invokestatic 96, 3) := by decide +kernel
theorem dX9_paint_7 : decode cX9_paint 7 = .ok (.ifCond .eq 22, 3) := by decide +kernel
theorem dX9_paint_10 : decode cX9_paint 10 = .ok (.iload_n 2, 1) := by decide +kernel
theorem dX9_paint_11 : decode cX9_paint 11 = .ok (.iconst 0, 1) := by decide +kernel
theorem dX9_paint_12 : decode cX9_paint 12 = .ok (.bipush 9, 2) := by decide +kernel
theorem dX9_paint_14 : decode cX9_paint 14 = .ok (.invokestatic 96, 3) := by decide +kernel
theorem dX9_paint_17 : decode cX9_paint 17 = .ok (.ifCond .eq 12, 3) := by decide +kernel
theorem dX9_paint_20 : decode cX9_paint 20 = .ok (.iload_n 3, 1) := by decide +kernel
theorem dX9_paint_21 : decode cX9_paint 21 = .ok (.iconst 0, 1) := by decide +kernel
theorem dX9_paint_22 : decode cX9_paint 22 = .ok (.iconst 3, 1) := by decide +kernel
theorem dX9_paint_23 : decode cX9_paint 23 = .ok (.invokestatic 96, 3) := by decide +kernel
theorem dX9_paint_26 : decode cX9_paint 26 = .ok (.ifCond .ne 5, 3) := by decide +kernel
theorem dX9_paint_29 : decode cX9_paint 29 = .ok (.iconst 0, 1) := by decide +kernel
theorem dX9_paint_30 : decode cX9_paint 30 = .ok (.ireturn, 1) := by decide +kernel
theorem dX9_paint_31 : decode cX9_paint 31 = .ok (.aload_n 0, 1) := by decide +kernel
theorem dX9_paint_32 : decode cX9_paint 32 = .ok (.getfield 35, 3) := by decide +kernel
theorem dX9_paint_35 : decode cX9_paint 35 = .ok (.bipush 10, 2) := by decide +kernel
theorem dX9_paint_37 : decode cX9_paint 37 = .ok (.iload_n 2, 1) := by decide +kernel
theorem dX9_paint_38 : decode cX9_paint 38 = .ok (.imul, 1) := by decide +kernel
theorem dX9_paint_39 : decode cX9_paint 39 = .ok (.iload_n 1, 1) := by decide +kernel
theorem dX9_paint_40 : decode cX9_paint 40 = .ok (.iadd, 1) := by decide +kernel
theorem dX9_paint_41 : decode cX9_paint 41 = .ok (.iload_n 3, 1) := by decide +kernel
theorem dX9_paint_42 : decode cX9_paint 42 = .ok (.iastore, 1) := by decide +kernel
theorem dX9_paint_43 : decode cX9_paint 43 = .ok (.iconst 1, 1) := by decide +kernel
theorem dX9_paint_44 : decode cX9_paint 44 = .ok (.ireturn, 1) := by decide +kernel
theorem dX9_painted_0 : decode cX9_painted 0 = .ok (.iload_n 2, 1) := by decide +kernel
theorem dX9_painted_1 : decode cX9_painted 1 = .ok (.aload_n 0, 1) := by decide +kernel
theorem dX9_painted_2 : decode cX9_painted 2 = .ok (.getfield 13, 3) := by decide +kernel
theorem dX9_painted_5 : decode cX9_painted 5 = .ok (.iload_n 1, 1) := by decide +kernel
theorem dX9_painted_6 : decode cX9_painted 6 = .ok (.iaload, 1) := by decide +kernel
theorem dX9_painted_7 : decode cX9_painted 7 = .ok (.if_icmp .ge 17, 3) := by decide +kernel
theorem dX9_painted_10 : decode cX9_painted 10 = .ok (.aload_n 0, 1) := by decide +kernel
theorem dX9_painted_11 : decode cX9_painted 11 = .ok (.getfield 35, 3) := by decide +kernel
theorem dX9_painted_14 : decode cX9_painted 14 = .ok (.bipush 10, 2) := by decide +kernel
theorem dX9_painted_16 : decode cX9_painted 16 = .ok (.iload_n 2, 1) := by decide +kernel
theorem dX9_painted_17 : decode cX9_painted 17 = .ok (.imul, 1) := by decide +kernel
theorem dX9_painted_18 : decode cX9_painted 18 = .ok (.iload_n 3, 1) := by decide +kernel
theorem dX9_painted_19 : decode cX9_painted 19 = .ok (.iadd, 1) := by decide +kernel
theorem dX9_painted_20 : decode cX9_painted 20 = .ok (.iaload, 1) := by decide +kernel
theorem dX9_painted_21 : decode cX9_painted 21 = .ok (.goto 21, 3) := by decide +kernel
theorem dX9_painted_24 : decode cX9_painted 24 = .ok (.aload_n 0, 1) := by decide +kernel
theorem dX9_painted_25 : decode cX9_painted 25 = .ok (.getfield 35, 3) := by decide +kernel
theorem dX9_painted_28 : decode cX9_painted 28 = .ok (.bipush 10, 2) := by decide +kernel
theorem dX9_painted_30 : decode cX9_painted 30 = .ok (.iload_n 3, 1) := by decide +kernel
theorem dX9_painted_31 : decode cX9_painted 31 = .ok (.imul, 1) := by decide +kernel
theorem dX9_painted_32 : decode cX9_painted 32 = .ok (.iload_n 2, 1) := by decide +kernel
theorem dX9_painted_33 : decode cX9_painted 33 = .ok (.iadd, 1) := by decide +kernel
theorem dX9_painted_34 : decode cX9_painted 34 = .ok (.aload_n 0, 1) := by decide +kernel
theorem dX9_painted_35 : decode cX9_painted 35 = .ok (.getfield 13, 3) := by decide +kernel
theorem dX9_painted_38 : decode cX9_painted 38 = .ok (.iload_n 1, 1) := by decide +kernel
theorem dX9_painted_39 : decode cX9_painted 39 = .ok (.iaload, 1) := by decide +kernel
theorem dX9_painted_40 : decode cX9_painted 40 = .ok (.isub, 1) := by decide +kernel
theorem dX9_painted_41 : decode cX9_painted 41 = .ok (.iaload, 1) := by decide +kernel
theorem dX9_painted_42 : decode cX9_painted 42 = .ok (.ireturn, 1) := by decide +kernel
theorem dX9_make_0 : decode cX9_make 0 = .ok (.iload_n 1, 1) := by decide +kernel
theorem dX9_make_1 : decode cX9_make 1 = .ok (.iconst 1, 1) := by decide +kernel
theorem dX9_make_2 : decode cX9_make 2 = .ok (.bipush 10, 2) := by decide +kernel
theorem dX9_make_4 : decode cX9_make 4 = .ok (.invokestatic 96, 3) := by decide +kernel
theorem dX9_make_7 : decode cX9_make 7 = .ok (.ifCond .eq 13, 3) := by decide +kernel
theorem dX9_make_10 : decode cX9_make 10 = .ok (.iload_n 2, 1) := by decide +kernel
theorem dX9_make_11 : decode cX9_make 11 = .ok (.iconst 1, 1) := by decide +kernel
theorem dX9_make_12 : decode cX9_make 12 = .ok (.bipush 10, 2) := by decide +kernel
theorem dX9_make_14 : decode cX9_make 14 = .ok (.invokestatic 96, 3) := by decide +kernel
theorem dX9_make_17 : decode cX9_make 17 = .ok (.ifCond .ne 5, 3) := by decide +kernel
theorem dX9_make_20 : decode cX9_make 20 = .ok (.iconst (-1), 1) := by decide +kernel
theorem dX9_make_21 : decode cX9_make 21 = .ok (.ireturn, 1) := by decide +kernel
theorem dX9_make_22 : decode cX9_make 22 = .ok (.iconst 0, 1) := by decide +kernel
theorem dX9_make_23 : decode cX9_make 23 = .ok (.istore 4, 2) := by decide +kernel
theorem dX9_make_25 : decode cX9_make 25 = .ok (.iload 4, 2) := by decide +kernel
theorem dX9_make_27 : decode cX9_make 27 = .ok (.iload_n 2, 1) := by decide +kernel
theorem dX9_make_28 : decode cX9_make 28 = .ok (.if_icmp .ge 43, 3) := by decide +kernel
theorem dX9_make_31 : decode cX9_make 31 = .ok (.iconst 0, 1) := by decide +kernel
theorem dX9_make_32 : decode cX9_make 32 = .ok (.istore 5, 2) := by decide +kernel
theorem dX9_make_34 : decode cX9_make 34 = .ok (.iload 5, 2) := by decide +kernel
theorem dX9_make_36 : decode cX9_make 36 = .ok (.iload_n 1, 1) := by decide +kernel
theorem dX9_make_37 : decode cX9_make 37 = .ok (.if_icmp .ge 28, 3) := by decide +kernel
theorem dX9_make_40 : decode cX9_make 40 = .ok (.aload_n 0, 1) := by decide +kernel
theorem dX9_make_41 : decode cX9_make 41 = .ok (.getfield 35, 3) := by decide +kernel
theorem dX9_make_44 : decode cX9_make 44 = .ok (.bipush 10, 2) := by decide +kernel
theorem dX9_make_46 : decode cX9_make 46 = .ok (.iload 4, 2) := by decide +kernel
theorem dX9_make_48 : decode cX9_make 48 = .ok (.imul, 1) := by decide +kernel
theorem dX9_make_49 : decode cX9_make 49 = .ok (.iload 5, 2) := by decide +kernel
theorem dX9_make_51 : decode cX9_make 51 = .ok (.iadd, 1) := by decide +kernel
theorem dX9_make_52 : decode cX9_make 52 = .ok (.iaload, 1) := by decide +kernel
theorem dX9_make_53 : decode cX9_make 53 = .ok (.iload_n 3, 1) := by decide +kernel
theorem dX9_make_54 : decode cX9_make 54 = .ok (.if_icmp .le 5, 3) := by decide +kernel
theorem dX9_make_57 : decode cX9_make 57 = .ok (.iconst (-1), 1) := by decide +kernel
theorem dX9_make_58 : decode cX9_make 58 = .ok (.ireturn, 1) := by decide +kernel
theorem dX9_make_59 : decode cX9_make 59 = .ok (.iinc 5 1, 3) := by decide +kernel
theorem dX9_make_62 : decode cX9_make 62 = .ok (.goto (-28), 3) := by decide +kernel
theorem dX9_make_65 : decode cX9_make 65 = .ok (.iinc 4 1, 3) := by decide +kernel
theorem dX9_make_68 : decode cX9_make 68 = .ok (.goto (-43), 3) := by decide +kernel
theorem dX9_make_71 : decode cX9_make 71 = .ok (.aload_n 0, 1) := by decide +kernel
theorem dX9_make_72 : decode cX9_make 72 = .ok (.iload_n 1, 1) := by decide +kernel
theorem dX9_make_73 : decode cX9_make 73 = .ok (.iload_n 2, 1) := by decide +kernel
theorem dX9_make_74 : decode cX9_make 74 = .ok (.iload_n 3, 1) := by decide +kernel
theorem dX9_make_75 : decode cX9_make 75 = .ok (.invokevirtual 198, 3) := by decide +kernel
theorem dX9_make_78 : decode cX9_make 78 = .ok (.istore 4, 2) := by decide +kernel
theorem dX9_make_80 : decode cX9_make 80 = .ok (.iload 4, 2) := by decide +kernel
theorem dX9_make_82 : decode cX9_make 82 = .ok (.iconst (-1), 1) := by decide +kernel
theorem dX9_make_83 : decode cX9_make 83 = .ok (.if_icmp .ne 5, 3) := by decide +kernel
theorem dX9_make_86 : decode cX9_make 86 = .ok (.iconst (-1), 1) := by decide +kernel
theorem dX9_make_87 : decode cX9_make 87 = .ok (.ireturn, 1) := by decide +kernel
theorem dX9_make_88 : decode cX9_make 88 = .ok (.iconst 0, 1) := by decide +kernel
theorem dX9_make_89 : decode cX9_make 89 = .ok (.istore 5, 2) := by decide +kernel
theorem dX9_make_91 : decode cX9_make 91 = .ok (.iload 5, 2) := by decide +kernel
theorem dX9_make_93 : decode cX9_make 93 = .ok (.aload_n 0, 1) := by decide +kernel
theorem dX9_make_94 : decode cX9_make 94 = .ok (.iload 4, 2) := by decide +kernel
theorem dX9_make_96 : decode cX9_make 96 = .ok (.invokevirtual 104, 3) := by decide +kernel
theorem dX9_make_99 : decode cX9_make 99 = .ok (.if_icmp .ge 145, 3) := by decide +kernel
theorem dX9_make_102 : decode cX9_make 102 = .ok (.iconst 0, 1) := by decide +kernel
theorem dX9_make_103 : decode cX9_make 103 = .ok (.istore 6, 2) := by decide +kernel
theorem dX9_make_105 : decode cX9_make 105 = .ok (.iconst 0, 1) := by decide +kernel
theorem dX9_make_106 : decode cX9_make 106 = .ok (.istore 7, 2) := by decide +kernel
theorem dX9_make_108 : decode cX9_make 108 = .ok (.iconst 0, 1) := by decide +kernel
theorem dX9_make_109 : decode cX9_make 109 = .ok (.istore 8, 2) := by decide +kernel
theorem dX9_make_111 : decode cX9_make 111 = .ok (.iload 8, 2) := by decide +kernel
theorem dX9_make_113 : decode cX9_make 113 = .ok (.aload_n 0, 1) := by decide +kernel
theorem dX9_make_114 : decode cX9_make 114 = .ok (.iload 4, 2) := by decide +kernel
theorem dX9_make_116 : decode cX9_make 116 = .ok (.iload 5, 2) := by decide +kernel
theorem dX9_make_118 : decode cX9_make 118 = .ok (.invokevirtual 125, 3) := by decide +kernel
theorem dX9_make_121 : decode cX9_make 121 = .ok (.if_icmp .ge 102, 3) := by decide +kernel
theorem dX9_make_124 : decode cX9_make 124 = .ok (.aload_n 0, 1) := by decide +kernel
theorem dX9_make_125 : decode cX9_make 125 = .ok (.iload 4, 2) := by decide +kernel
theorem dX9_make_127 : decode cX9_make 127 = .ok (.iload 5, 2) := by decide +kernel
theorem dX9_make_129 : decode cX9_make 129 = .ok (.iload 8, 2) := by decide +kernel
theorem dX9_make_131 : decode cX9_make 131 = .ok (.invokevirtual 201, 3) := by decide +kernel
theorem dX9_make_134 : decode cX9_make 134 = .ok (.istore 9, 2) := by decide +kernel
theorem dX9_make_136 : decode cX9_make 136 = .ok (.iload 9, 2) := by decide +kernel
theorem dX9_make_138 : decode cX9_make 138 = .ok (.ifCond .le 48, 3) := by decide +kernel
theorem dX9_make_141 : decode cX9_make 141 = .ok (.iload 9, 2) := by decide +kernel
theorem dX9_make_143 : decode cX9_make 143 = .ok (.iload 7, 2) := by decide +kernel
theorem dX9_make_145 : decode cX9_make 145 = .ok (.if_icmp .eq 41, 3) := by decide +kernel
theorem dX9_make_148 : decode cX9_make 148 = .ok (.aload_n 0, 1) := by decide +kernel
theorem dX9_make_149 : decode cX9_make 149 = .ok (.getfield 26, 3) := by decide +kernel
theorem dX9_make_152 : decode cX9_make 152 = .ok (.aload_n 0, 1) := by decide +kernel
theorem dX9_make_153 : decode cX9_make 153 = .ok (.iload 4, 2) := by decide +kernel
theorem dX9_make_155 : decode cX9_make 155 = .ok (.iload 5, 2) := by decide +kernel
theorem dX9_make_157 : decode cX9_make 157 = .ok (.invokevirtual 121, 3) := by decide +kernel
theorem dX9_make_160 : decode cX9_make 160 = .ok (.iload 6, 2) := by decide +kernel
theorem dX9_make_162 : decode cX9_make 162 = .ok (.iadd, 1) := by decide +kernel
theorem dX9_make_163 : decode cX9_make 163 = .ok (.iload 9, 2) := by decide +kernel
theorem dX9_make_165 : decode cX9_make 165 = .ok (.iastore, 1) := by decide +kernel
theorem dX9_make_166 : decode cX9_make 166 = .ok (.aload_n 0, 1) := by decide +kernel
theorem dX9_make_167 : decode cX9_make 167 = .ok (.getfield 29, 3) := by decide +kernel
theorem dX9_make_170 : decode cX9_make 170 = .ok (.aload_n 0, 1) := by decide +kernel
theorem dX9_make_171 : decode cX9_make 171 = .ok (.iload 4, 2) := by decide +kernel
theorem dX9_make_173 : decode cX9_make 173 = .ok (.iload 5, 2) := by decide +kernel
theorem dX9_make_175 : decode cX9_make 175 = .ok (.invokevirtual 121, 3) := by decide +kernel
theorem dX9_make_178 : decode cX9_make 178 = .ok (.iload 6, 2) := by decide +kernel
theorem dX9_make_180 : decode cX9_make 180 = .ok (.iadd, 1) := by decide +kernel
theorem dX9_make_181 : decode cX9_make 181 = .ok (.iconst 0, 1) := by decide +kernel
theorem dX9_make_182 : decode cX9_make 182 = .ok (.iastore, 1) := by decide +kernel
theorem dX9_make_183 : decode cX9_make 183 = .ok (.iinc 6 1, 3) := by decide +kernel
theorem dX9_make_186 : decode cX9_make 186 = .ok (.iload 9, 2) := by decide +kernel
theorem dX9_make_188 : decode cX9_make 188 = .ok (.ifCond .le 25, 3) := by decide +kernel
theorem dX9_make_191 : decode cX9_make 191 = .ok (.aload_n 0, 1) := by decide +kernel
theorem dX9_make_192 : decode cX9_make 192 = .ok (.getfield 29, 3) := by decide +kernel
theorem dX9_make_195 : decode cX9_make 195 = .ok (.aload_n 0, 1) := by decide +kernel
theorem dX9_make_196 : decode cX9_make 196 = .ok (.iload 4, 2) := by decide +kernel
theorem dX9_make_198 : decode cX9_make 198 = .ok (.iload 5, 2) := by decide +kernel
theorem dX9_make_200 : decode cX9_make 200 = .ok (.invokevirtual 121, 3) := by decide +kernel
theorem dX9_make_203 : decode cX9_make 203 = .ok (.iload 6, 2) := by decide +kernel
theorem dX9_make_205 : decode cX9_make 205 = .ok (.iadd, 1) := by decide +kernel
theorem dX9_make_206 : decode cX9_make 206 = .ok (.iconst 1, 1) := by decide +kernel
theorem dX9_make_207 : decode cX9_make 207 = .ok (.isub, 1) := by decide +kernel
theorem dX9_make_208 : decode cX9_make 208 = .ok (.dup2, 1) := by decide +kernel
theorem dX9_make_209 : decode cX9_make 209 = .ok (.iaload, 1) := by decide +kernel
theorem dX9_make_210 : decode cX9_make 210 = .ok (.iconst 1, 1) := by decide +kernel
theorem dX9_make_211 : decode cX9_make 211 = .ok (.iadd, 1) := by decide +kernel
theorem dX9_make_212 : decode cX9_make 212 = .ok (.iastore, 1) := by decide +kernel
theorem dX9_make_213 : decode cX9_make 213 = .ok (.iload 9, 2) := by decide +kernel
theorem dX9_make_215 : decode cX9_make 215 = .ok (.istore 7, 2) := by decide +kernel
theorem dX9_make_217 : decode cX9_make 217 = .ok (.iinc 8 1, 3) := by decide +kernel
theorem dX9_make_220 : decode cX9_make 220 = .ok (.goto (-109), 3) := by decide +kernel
theorem dX9_make_223 : decode cX9_make 223 = .ok (.aload_n 0, 1) := by decide +kernel
theorem dX9_make_224 : decode cX9_make 224 = .ok (.getfield 23, 3) := by decide +kernel
theorem dX9_make_227 : decode cX9_make 227 = .ok (.bipush 20, 2) := by decide +kernel
theorem dX9_make_229 : decode cX9_make 229 = .ok (.iload 4, 2) := by decide +kernel
theorem dX9_make_231 : decode cX9_make 231 = .ok (.imul, 1) := by decide +kernel
theorem dX9_make_232 : decode cX9_make 232 = .ok (.iload 5, 2) := by decide +kernel
theorem dX9_make_234 : decode cX9_make 234 = .ok (.iadd, 1) := by decide +kernel
theorem dX9_make_235 : decode cX9_make 235 = .ok (.iload 6, 2) := by decide +kernel
theorem dX9_make_237 : decode cX9_make 237 = .ok (.iastore, 1) := by decide +kernel
theorem dX9_make_238 : decode cX9_make 238 = .ok (.iinc 5 1, 3) := by decide +kernel
theorem dX9_make_241 : decode cX9_make 241 = .ok (.goto (-150), 3) := by decide +kernel
theorem dX9_make_244 : decode cX9_make 244 = .ok (.iload 4, 2) := by decide +kernel
theorem dX9_make_246 : decode cX9_make 246 = .ok (.ireturn, 1) := by decide +kernel
theorem dX9_source_0 : decode cX9_source 0 = .ok (.iload_n 2, 1) := by decide +kernel
theorem dX9_source_1 : decode cX9_source 1 = .ok (.iconst 4, 1) := by decide +kernel
theorem dX9_source_2 : decode cX9_source 2 = .ok (.iand, 1) := by decide +kernel
theorem dX9_source_3 : decode cX9_source 3 = .ok (.ifCond .eq 7, 3) := by decide +kernel
theorem dX9_source_6 : decode cX9_source 6 = .ok (.iconst 1, 1) := by decide +kernel
theorem dX9_source_7 : decode cX9_source 7 = .ok (.goto 4, 3) := by decide +kernel
theorem dX9_source_10 : decode cX9_source 10 = .ok (.iconst 0, 1) := by decide +kernel
theorem dX9_source_11 : decode cX9_source 11 = .ok (.istore 4, 2) := by decide +kernel
theorem dX9_source_13 : decode cX9_source 13 = .ok (.iload 4, 2) := by decide +kernel
theorem dX9_source_15 : decode cX9_source 15 = .ok (.ifCond .eq 12, 3) := by decide +kernel
theorem dX9_source_18 : decode cX9_source 18 = .ok (.aload_n 0, 1) := by decide +kernel
theorem dX9_source_19 : decode cX9_source 19 = .ok (.getfield 9, 3) := by decide +kernel
theorem dX9_source_22 : decode cX9_source 22 = .ok (.iload_n 1, 1) := by decide +kernel
theorem dX9_source_23 : decode cX9_source 23 = .ok (.iaload, 1) := by decide +kernel
theorem dX9_source_24 : decode cX9_source 24 = .ok (.goto 9, 3) := by decide +kernel
theorem dX9_source_27 : decode cX9_source 27 = .ok (.aload_n 0, 1) := by decide +kernel
theorem dX9_source_28 : decode cX9_source 28 = .ok (.getfield 13, 3) := by decide +kernel
theorem dX9_source_31 : decode cX9_source 31 = .ok (.iload_n 1, 1) := by decide +kernel
theorem dX9_source_32 : decode cX9_source 32 = .ok (.iaload, 1) := by decide +kernel
theorem dX9_source_33 : decode cX9_source 33 = .ok (.istore 5, 2) := by decide +kernel
theorem dX9_source_35 : decode cX9_source 35 = .ok (.iload_n 3, 1) := by decide +kernel
theorem dX9_source_36 : decode cX9_source 36 = .ok (.iload 5, 2) := by decide +kernel
theorem dX9_source_38 : decode cX9_source 38 = .ok (.if_icmp .ge 7, 3) := by decide +kernel
theorem dX9_source_41 : decode cX9_source 41 = .ok (.iconst 1, 1) := by decide +kernel
theorem dX9_source_42 : decode cX9_source 42 = .ok (.goto 4, 3) := by decide +kernel
theorem dX9_source_45 : decode cX9_source 45 = .ok (.iconst 0, 1) := by decide +kernel
theorem dX9_source_46 : decode cX9_source 46 = .ok (.iload 4, 2) := by decide +kernel
theorem dX9_source_48 : decode cX9_source 48 = .ok (.if_icmp .eq 7, 3) := by decide +kernel
theorem dX9_source_51 : decode cX9_source 51 = .ok (.iconst 1, 1) := by decide +kernel
theorem dX9_source_52 : decode cX9_source 52 = .ok (.goto 4, 3) := by decide +kernel
theorem dX9_source_55 : decode cX9_source 55 = .ok (.iconst 0, 1) := by decide +kernel
theorem dX9_source_56 : decode cX9_source 56 = .ok (.istore 6, 2) := by decide +kernel
theorem dX9_source_58 : decode cX9_source 58 = .ok (.iload_n 3, 1) := by decide +kernel
theorem dX9_source_59 : decode cX9_source 59 = .ok (.iload 5, 2) := by decide +kernel
theorem dX9_source_61 : decode cX9_source 61 = .ok (.if_icmp .ge 7, 3) := by decide +kernel
theorem dX9_source_64 : decode cX9_source 64 = .ok (.iload_n 3, 1) := by decide +kernel
theorem dX9_source_65 : decode cX9_source 65 = .ok (.goto 7, 3) := by decide +kernel
theorem dX9_source_68 : decode cX9_source 68 = .ok (.iload_n 3, 1) := by decide +kernel
theorem dX9_source_69 : decode cX9_source 69 = .ok (.iload 5, 2) := by decide +kernel
theorem dX9_source_71 : decode cX9_source 71 = .ok (.isub, 1) := by decide +kernel
theorem dX9_source_72 : decode cX9_source 72 = .ok (.istore 7, 2) := by decide +kernel
theorem dX9_source_74 : decode cX9_source 74 = .ok (.iload 6, 2) := by decide +kernel
theorem dX9_source_76 : decode cX9_source 76 = .ok (.ifCond .eq 26, 3) := by decide +kernel
theorem dX9_source_79 : decode cX9_source 79 = .ok (.iload_n 2, 1) := by decide +kernel
theorem dX9_source_80 : decode cX9_source 80 = .ok (.iconst 2, 1) := by decide +kernel
theorem dX9_source_81 : decode cX9_source 81 = .ok (.iand, 1) := by decide +kernel
theorem dX9_source_82 : decode cX9_source 82 = .ok (.ifCond .eq 17, 3) := by decide +kernel
theorem dX9_source_85 : decode cX9_source 85 = .ok (.aload_n 0, 1) := by decide +kernel
theorem dX9_source_86 : decode cX9_source 86 = .ok (.getfield 13, 3) := by decide +kernel
theorem dX9_source_89 : decode cX9_source 89 = .ok (.iload_n 1, 1) := by decide +kernel
theorem dX9_source_90 : decode cX9_source 90 = .ok (.iaload, 1) := by decide +kernel
theorem dX9_source_91 : decode cX9_source 91 = .ok (.iconst 1, 1) := by decide +kernel
theorem dX9_source_92 : decode cX9_source 92 = .ok (.isub, 1) := by decide +kernel
theorem dX9_source_93 : decode cX9_source 93 = .ok (.iload 7, 2) := by decide +kernel
theorem dX9_source_95 : decode cX9_source 95 = .ok (.isub, 1) := by decide +kernel
theorem dX9_source_96 : decode cX9_source 96 = .ok (.goto 5, 3) := by decide +kernel
theorem dX9_source_99 : decode cX9_source 99 = .ok (.iload 7, 2) := by decide +kernel
theorem dX9_source_101 : decode cX9_source 101 = .ok (.ireturn, 1) := by decide +kernel
theorem dX9_source_102 : decode cX9_source 102 = .ok (.aload_n 0, 1) := by decide +kernel
theorem dX9_source_103 : decode cX9_source 103 = .ok (.getfield 13, 3) := by decide +kernel
theorem dX9_source_106 : decode cX9_source 106 = .ok (.iload_n 1, 1) := by decide +kernel
theorem dX9_source_107 : decode cX9_source 107 = .ok (.iaload, 1) := by decide +kernel
theorem dX9_source_108 : decode cX9_source 108 = .ok (.iload_n 2, 1) := by decide +kernel
theorem dX9_source_109 : decode cX9_source 109 = .ok (.iconst 1, 1) := by decide +kernel
theorem dX9_source_110 : decode cX9_source 110 = .ok (.iand, 1) := by decide +kernel
theorem dX9_source_111 : decode cX9_source 111 = .ok (.ifCond .eq 17, 3) := by decide +kernel
theorem dX9_source_114 : decode cX9_source 114 = .ok (.aload_n 0, 1) := by decide +kernel
theorem dX9_source_115 : decode cX9_source 115 = .ok (.getfield 9, 3) := by decide +kernel
theorem dX9_source_118 : decode cX9_source 118 = .ok (.iload_n 1, 1) := by decide +kernel
theorem dX9_source_119 : decode cX9_source 119 = .ok (.iaload, 1) := by decide +kernel
theorem dX9_source_120 : decode cX9_source 120 = .ok (.iconst 1, 1) := by decide +kernel
theorem dX9_source_121 : decode cX9_source 121 = .ok (.isub, 1) := by decide +kernel
theorem dX9_source_122 : decode cX9_source 122 = .ok (.iload 7, 2) := by decide +kernel
theorem dX9_source_124 : decode cX9_source 124 = .ok (.isub, 1) := by decide +kernel
theorem dX9_source_125 : decode cX9_source 125 = .ok (.goto 5, 3) := by decide +kernel
theorem dX9_source_128 : decode cX9_source 128 = .ok (.iload 7, 2) := by decide +kernel
theorem dX9_source_130 : decode cX9_source 130 = .ok (.iadd, 1) := by decide +kernel
theorem dX9_source_131 : decode cX9_source 131 = .ok (.ireturn, 1) := by decide +kernel
theorem dX9_isRound_0 : decode cX9_isRound 0 = .ok (.iload_n 3, 1) := by decide +kernel
theorem dX9_isRound_1 : decode cX9_isRound 1 = .ok (.aload_n 0, 1) := by decide +kernel
theorem dX9_isRound_2 : decode cX9_isRound 2 = .ok (.getfield 13, 3) := by decide +kernel
theorem dX9_isRound_5 : decode cX9_isRound 5 = .ok (.iload_n 1, 1) := by decide +kernel
theorem dX9_isRound_6 : decode cX9_isRound 6 = .ok (.iaload, 1) := by decide +kernel
theorem dX9_isRound_7 : decode cX9_isRound 7 = .ok (.if_icmp .ge 17, 3) := by decide +kernel
theorem dX9_isRound_10 : decode cX9_isRound 10 = .ok (.iload_n 2, 1) := by decide +kernel
theorem dX9_isRound_11 : decode cX9_isRound 11 = .ok (.iconst 1, 1) := by decide +kernel
theorem dX9_isRound_12 : decode cX9_isRound 12 = .ok (.iand, 1) := by decide +kernel
theorem dX9_isRound_13 : decode cX9_isRound 13 = .ok (.ifCond .eq 7, 3) := by decide +kernel
theorem dX9_isRound_16 : decode cX9_isRound 16 = .ok (.iconst 1, 1) := by decide +kernel
theorem dX9_isRound_17 : decode cX9_isRound 17 = .ok (.goto 18, 3) := by decide +kernel
theorem dX9_isRound_20 : decode cX9_isRound 20 = .ok (.iconst 0, 1) := by decide +kernel
theorem dX9_isRound_21 : decode cX9_isRound 21 = .ok (.goto 14, 3) := by decide +kernel
theorem dX9_isRound_24 : decode cX9_isRound 24 = .ok (.iload_n 2, 1) := by decide +kernel
theorem dX9_isRound_25 : decode cX9_isRound 25 = .ok (.iconst 2, 1) := by decide +kernel
theorem dX9_isRound_26 : decode cX9_isRound 26 = .ok (.iand, 1) := by decide +kernel
theorem dX9_isRound_27 : decode cX9_isRound 27 = .ok (.ifCond .eq 7, 3) := by decide +kernel
theorem dX9_isRound_30 : decode cX9_isRound 30 = .ok (.iconst 1, 1) := by decide +kernel
theorem dX9_isRound_31 : decode cX9_isRound 31 = .ok (.goto 4, 3) := by decide +kernel
theorem dX9_isRound_34 : decode cX9_isRound 34 = .ok (.iconst 0, 1) := by decide +kernel
theorem dX9_isRound_35 : decode cX9_isRound 35 = .ok (.ireturn, 1) := by decide +kernel
theorem dX9_turn_0 : decode cX9_turn 0 = .ok (.aload_n 0, 1) := by decide +kernel
theorem dX9_turn_1 : decode cX9_turn 1 = .ok (.iload_n 1, 1) := by decide +kernel
theorem dX9_turn_2 : decode cX9_turn 2 = .ok (.invokevirtual 100, 3) := by decide +kernel
theorem dX9_turn_5 : decode cX9_turn 5 = .ok (.ifCond .eq 13, 3) := by decide +kernel
theorem dX9_turn_8 : decode cX9_turn 8 = .ok (.iload_n 2, 1) := by decide +kernel
theorem dX9_turn_9 : decode cX9_turn 9 = .ok (.iconst 0, 1) := by decide +kernel
theorem dX9_turn_10 : decode cX9_turn 10 = .ok (.bipush 7, 2) := by decide +kernel
theorem dX9_turn_12 : decode cX9_turn 12 = .ok (.invokestatic 96, 3) := by decide +kernel
theorem dX9_turn_15 : decode cX9_turn 15 = .ok (.ifCond .ne 5, 3) := by decide +kernel
theorem dX9_turn_18 : decode cX9_turn 18 = .ok (.iconst (-1), 1) := by decide +kernel
theorem dX9_turn_19 : decode cX9_turn 19 = .ok (.ireturn, 1) := by decide +kernel
theorem dX9_turn_20 : decode cX9_turn 20 = .ok (.iload_n 2, 1) := by decide +kernel
theorem dX9_turn_21 : decode cX9_turn 21 = .ok (.iconst 4, 1) := by decide +kernel
theorem dX9_turn_22 : decode cX9_turn 22 = .ok (.iand, 1) := by decide +kernel
theorem dX9_turn_23 : decode cX9_turn 23 = .ok (.ifCond .eq 7, 3) := by decide +kernel
theorem dX9_turn_26 : decode cX9_turn 26 = .ok (.iconst 1, 1) := by decide +kernel
theorem dX9_turn_27 : decode cX9_turn 27 = .ok (.goto 4, 3) := by decide +kernel
theorem dX9_turn_30 : decode cX9_turn 30 = .ok (.iconst 0, 1) := by decide +kernel
theorem dX9_turn_31 : decode cX9_turn 31 = .ok (.istore_n 3, 1) := by decide +kernel
theorem dX9_turn_32 : decode cX9_turn 32 = .ok (.aload_n 0, 1) := by decide +kernel
theorem dX9_turn_33 : decode cX9_turn 33 = .ok (.iload_n 3, 1) := by decide +kernel
theorem dX9_turn_34 : decode cX9_turn 34 = .ok (.ifCond .eq 12, 3) := by decide +kernel
theorem dX9_turn_37 : decode cX9_turn 37 = .ok (.aload_n 0, 1) := by decide +kernel
theorem dX9_turn_38 : decode cX9_turn 38 = .ok (.getfield 13, 3) := by decide +kernel
theorem dX9_turn_41 : decode cX9_turn 41 = .ok (.iload_n 1, 1) := by decide +kernel
theorem dX9_turn_42 : decode cX9_turn 42 = .ok (.iaload, 1) := by decide +kernel
theorem dX9_turn_43 : decode cX9_turn 43 = .ok (.goto 9, 3) := by decide +kernel
theorem dX9_turn_46 : decode cX9_turn 46 = .ok (.aload_n 0, 1) := by decide +kernel
theorem dX9_turn_47 : decode cX9_turn 47 = .ok (.getfield 9, 3) := by decide +kernel
theorem dX9_turn_50 : decode cX9_turn 50 = .ok (.iload_n 1, 1) := by decide +kernel
theorem dX9_turn_51 : decode cX9_turn 51 = .ok (.iaload, 1) := by decide +kernel
theorem dX9_turn_52 : decode cX9_turn 52 = .ok (.iload_n 3, 1) := by decide +kernel
theorem dX9_turn_53 : decode cX9_turn 53 = .ok (.ifCond .eq 12, 3) := by decide +kernel
theorem dX9_turn_56 : decode cX9_turn 56 = .ok (.aload_n 0, 1) := by decide +kernel
theorem dX9_turn_57 : decode cX9_turn 57 = .ok (.getfield 9, 3) := by decide +kernel
theorem dX9_turn_60 : decode cX9_turn 60 = .ok (.iload_n 1, 1) := by decide +kernel
theorem dX9_turn_61 : decode cX9_turn 61 = .ok (.iaload, 1) := by decide +kernel
theorem dX9_turn_62 : decode cX9_turn 62 = .ok (.goto 9, 3) := by decide +kernel
theorem dX9_turn_65 : decode cX9_turn 65 = .ok (.aload_n 0, 1) := by decide +kernel
theorem dX9_turn_66 : decode cX9_turn 66 = .ok (.getfield 13, 3) := by decide +kernel
theorem dX9_turn_69 : decode cX9_turn 69 = .ok (.iload_n 1, 1) := by decide +kernel
theorem dX9_turn_70 : decode cX9_turn 70 = .ok (.iaload, 1) := by decide +kernel
theorem dX9_turn_71 : decode cX9_turn 71 = .ok (.aload_n 0, 1) := by decide +kernel
theorem dX9_turn_72 : decode cX9_turn 72 = .ok (.getfield 16, 3) := by decide +kernel
theorem dX9_turn_75 : decode cX9_turn 75 = .ok (.iload_n 1, 1) := by decide +kernel
theorem dX9_turn_76 : decode cX9_turn 76 = .ok (.iaload, 1) := by decide +kernel
theorem dX9_turn_77 : decode cX9_turn 77 = .ok (.invokevirtual 198, 3) := by decide +kernel
theorem dX9_turn_80 : decode cX9_turn 80 = .ok (.istore 4, 2) := by decide +kernel
theorem dX9_turn_82 : decode cX9_turn 82 = .ok (.iload 4, 2) := by decide +kernel
theorem dX9_turn_84 : decode cX9_turn 84 = .ok (.iconst (-1), 1) := by decide +kernel
theorem dX9_turn_85 : decode cX9_turn 85 = .ok (.if_icmp .ne 5, 3) := by decide +kernel
theorem dX9_turn_88 : decode cX9_turn 88 = .ok (.iconst (-1), 1) := by decide +kernel
theorem dX9_turn_89 : decode cX9_turn 89 = .ok (.ireturn, 1) := by decide +kernel
theorem dX9_turn_90 : decode cX9_turn 90 = .ok (.iconst 0, 1) := by decide +kernel
theorem dX9_turn_91 : decode cX9_turn 91 = .ok (.istore 5, 2) := by decide +kernel
theorem dX9_turn_93 : decode cX9_turn 93 = .ok (.iload 5, 2) := by decide +kernel
theorem dX9_turn_95 : decode cX9_turn 95 = .ok (.aload_n 0, 1) := by decide +kernel
theorem dX9_turn_96 : decode cX9_turn 96 = .ok (.iload 4, 2) := by decide +kernel
theorem dX9_turn_98 : decode cX9_turn 98 = .ok (.invokevirtual 104, 3) := by decide +kernel
theorem dX9_turn_101 : decode cX9_turn 101 = .ok (.if_icmp .ge 143, 3) := by decide +kernel
theorem dX9_turn_104 : decode cX9_turn 104 = .ok (.aload_n 0, 1) := by decide +kernel
theorem dX9_turn_105 : decode cX9_turn 105 = .ok (.iload_n 1, 1) := by decide +kernel
theorem dX9_turn_106 : decode cX9_turn 106 = .ok (.iload_n 2, 1) := by decide +kernel
theorem dX9_turn_107 : decode cX9_turn 107 = .ok (.iload 5, 2) := by decide +kernel
theorem dX9_turn_109 : decode cX9_turn 109 = .ok (.invokevirtual 204, 3) := by decide +kernel
theorem dX9_turn_112 : decode cX9_turn 112 = .ok (.istore 6, 2) := by decide +kernel
theorem dX9_turn_114 : decode cX9_turn 114 = .ok (.aload_n 0, 1) := by decide +kernel
theorem dX9_turn_115 : decode cX9_turn 115 = .ok (.getfield 23, 3) := by decide +kernel
theorem dX9_turn_118 : decode cX9_turn 118 = .ok (.bipush 20, 2) := by decide +kernel
theorem dX9_turn_120 : decode cX9_turn 120 = .ok (.iload_n 1, 1) := by decide +kernel
theorem dX9_turn_121 : decode cX9_turn 121 = .ok (.imul, 1) := by decide +kernel
theorem dX9_turn_122 : decode cX9_turn 122 = .ok (.iload 6, 2) := by decide +kernel
theorem dX9_turn_124 : decode cX9_turn 124 = .ok (.iadd, 1) := by decide +kernel
theorem dX9_turn_125 : decode cX9_turn 125 = .ok (.iaload, 1) := by decide +kernel
theorem dX9_turn_126 : decode cX9_turn 126 = .ok (.istore 7, 2) := by decide +kernel
theorem dX9_turn_128 : decode cX9_turn 128 = .ok (.aload_n 0, 1) := by decide +kernel
theorem dX9_turn_129 : decode cX9_turn 129 = .ok (.getfield 23, 3) := by decide +kernel
theorem dX9_turn_132 : decode cX9_turn 132 = .ok (.bipush 20, 2) := by decide +kernel
theorem dX9_turn_134 : decode cX9_turn 134 = .ok (.iload 4, 2) := by decide +kernel
theorem dX9_turn_136 : decode cX9_turn 136 = .ok (.imul, 1) := by decide +kernel
theorem dX9_turn_137 : decode cX9_turn 137 = .ok (.iload 5, 2) := by decide +kernel
theorem dX9_turn_139 : decode cX9_turn 139 = .ok (.iadd, 1) := by decide +kernel
theorem dX9_turn_140 : decode cX9_turn 140 = .ok (.iload 7, 2) := by decide +kernel
theorem dX9_turn_142 : decode cX9_turn 142 = .ok (.iastore, 1) := by decide +kernel
theorem dX9_turn_143 : decode cX9_turn 143 = .ok (.iconst 0, 1) := by decide +kernel
theorem dX9_turn_144 : decode cX9_turn 144 = .ok (.istore 8, 2) := by decide +kernel
theorem dX9_turn_146 : decode cX9_turn 146 = .ok (.iload 8, 2) := by decide +kernel
theorem dX9_turn_148 : decode cX9_turn 148 = .ok (.iload 7, 2) := by decide +kernel
theorem dX9_turn_150 : decode cX9_turn 150 = .ok (.if_icmp .ge 88, 3) := by decide +kernel
theorem dX9_turn_153 : decode cX9_turn 153 = .ok (.aload_n 0, 1) := by decide +kernel
theorem dX9_turn_154 : decode cX9_turn 154 = .ok (.iload_n 1, 1) := by decide +kernel
theorem dX9_turn_155 : decode cX9_turn 155 = .ok (.iload 6, 2) := by decide +kernel
theorem dX9_turn_157 : decode cX9_turn 157 = .ok (.invokevirtual 121, 3) := by decide +kernel
theorem dX9_turn_160 : decode cX9_turn 160 = .ok (.aload_n 0, 1) := by decide +kernel
theorem dX9_turn_161 : decode cX9_turn 161 = .ok (.iload_n 1, 1) := by decide +kernel
theorem dX9_turn_162 : decode cX9_turn 162 = .ok (.iload_n 2, 1) := by decide +kernel
theorem dX9_turn_163 : decode cX9_turn 163 = .ok (.iload 6, 2) := by decide +kernel
theorem dX9_turn_165 : decode cX9_turn 165 = .ok (.invokevirtual 207, 3) := by decide +kernel
theorem dX9_turn_168 : decode cX9_turn 168 = .ok (.ifCond .eq 13, 3) := by decide +kernel
theorem dX9_turn_171 : decode cX9_turn 171 = .ok (.iload 7, 2) := by decide +kernel
theorem dX9_turn_173 : decode cX9_turn 173 = .ok (.iconst 1, 1) := by decide +kernel
theorem dX9_turn_174 : decode cX9_turn 174 = .ok (.isub, 1) := by decide +kernel
theorem dX9_turn_175 : decode cX9_turn 175 = .ok (.iload 8, 2) := by decide +kernel
theorem dX9_turn_177 : decode cX9_turn 177 = .ok (.isub, 1) := by decide +kernel
theorem dX9_turn_178 : decode cX9_turn 178 = .ok (.goto 5, 3) := by decide +kernel
theorem dX9_turn_181 : decode cX9_turn 181 = .ok (.iload 8, 2) := by decide +kernel
theorem dX9_turn_183 : decode cX9_turn 183 = .ok (.iadd, 1) := by decide +kernel
theorem dX9_turn_184 : decode cX9_turn 184 = .ok (.istore 9, 2) := by decide +kernel
theorem dX9_turn_186 : decode cX9_turn 186 = .ok (.aload_n 0, 1) := by decide +kernel
theorem dX9_turn_187 : decode cX9_turn 187 = .ok (.getfield 26, 3) := by decide +kernel
theorem dX9_turn_190 : decode cX9_turn 190 = .ok (.aload_n 0, 1) := by decide +kernel
theorem dX9_turn_191 : decode cX9_turn 191 = .ok (.iload 4, 2) := by decide +kernel
theorem dX9_turn_193 : decode cX9_turn 193 = .ok (.iload 5, 2) := by decide +kernel
theorem dX9_turn_195 : decode cX9_turn 195 = .ok (.invokevirtual 121, 3) := by decide +kernel
theorem dX9_turn_198 : decode cX9_turn 198 = .ok (.iload 8, 2) := by decide +kernel
theorem dX9_turn_200 : decode cX9_turn 200 = .ok (.iadd, 1) := by decide +kernel
theorem dX9_turn_201 : decode cX9_turn 201 = .ok (.aload_n 0, 1) := by decide +kernel
theorem dX9_turn_202 : decode cX9_turn 202 = .ok (.getfield 26, 3) := by decide +kernel
theorem dX9_turn_205 : decode cX9_turn 205 = .ok (.iload 9, 2) := by decide +kernel
theorem dX9_turn_207 : decode cX9_turn 207 = .ok (.iaload, 1) := by decide +kernel
theorem dX9_turn_208 : decode cX9_turn 208 = .ok (.iastore, 1) := by decide +kernel
theorem dX9_turn_209 : decode cX9_turn 209 = .ok (.aload_n 0, 1) := by decide +kernel
theorem dX9_turn_210 : decode cX9_turn 210 = .ok (.getfield 29, 3) := by decide +kernel
theorem dX9_turn_213 : decode cX9_turn 213 = .ok (.aload_n 0, 1) := by decide +kernel
theorem dX9_turn_214 : decode cX9_turn 214 = .ok (.iload 4, 2) := by decide +kernel
theorem dX9_turn_216 : decode cX9_turn 216 = .ok (.iload 5, 2) := by decide +kernel
theorem dX9_turn_218 : decode cX9_turn 218 = .ok (.invokevirtual 121, 3) := by decide +kernel
theorem dX9_turn_221 : decode cX9_turn 221 = .ok (.iload 8, 2) := by decide +kernel
theorem dX9_turn_223 : decode cX9_turn 223 = .ok (.iadd, 1) := by decide +kernel
theorem dX9_turn_224 : decode cX9_turn 224 = .ok (.aload_n 0, 1) := by decide +kernel
theorem dX9_turn_225 : decode cX9_turn 225 = .ok (.getfield 29, 3) := by decide +kernel
theorem dX9_turn_228 : decode cX9_turn 228 = .ok (.iload 9, 2) := by decide +kernel
theorem dX9_turn_230 : decode cX9_turn 230 = .ok (.iaload, 1) := by decide +kernel
theorem dX9_turn_231 : decode cX9_turn 231 = .ok (.iastore, 1) := by decide +kernel
theorem dX9_turn_232 : decode cX9_turn 232 = .ok (.iinc 8 1, 3) := by decide +kernel
theorem dX9_turn_235 : decode cX9_turn 235 = .ok (.goto (-89), 3) := by decide +kernel
theorem dX9_turn_238 : decode cX9_turn 238 = .ok (.iinc 5 1, 3) := by decide +kernel
theorem dX9_turn_241 : decode cX9_turn 241 = .ok (.goto (-148), 3) := by decide +kernel
theorem dX9_turn_244 : decode cX9_turn 244 = .ok (.iload 4, 2) := by decide +kernel
theorem dX9_turn_246 : decode cX9_turn 246 = .ok (.ireturn, 1) := by decide +kernel
theorem dX9_isSame_0 : decode cX9_isSame 0 = .ok (.iload_n 3, 1) := by decide +kernel
theorem dX9_isSame_1 : decode cX9_isSame 1 = .ok (.iconst 4, 1) := by decide +kernel
theorem dX9_isSame_2 : decode cX9_isSame 2 = .ok (.iand, 1) := by decide +kernel
theorem dX9_isSame_3 : decode cX9_isSame 3 = .ok (.ifCond .eq 7, 3) := by decide +kernel
theorem dX9_isSame_6 : decode cX9_isSame 6 = .ok (.iconst 1, 1) := by decide +kernel
theorem dX9_isSame_7 : decode cX9_isSame 7 = .ok (.goto 4, 3) := by decide +kernel
theorem dX9_isSame_10 : decode cX9_isSame 10 = .ok (.iconst 0, 1) := by decide +kernel
theorem dX9_isSame_11 : decode cX9_isSame 11 = .ok (.istore 4, 2) := by decide +kernel
theorem dX9_isSame_13 : decode cX9_isSame 13 = .ok (.aload_n 0, 1) := by decide +kernel
theorem dX9_isSame_14 : decode cX9_isSame 14 = .ok (.getfield 9, 3) := by decide +kernel
theorem dX9_isSame_17 : decode cX9_isSame 17 = .ok (.iload_n 2, 1) := by decide +kernel
theorem dX9_isSame_18 : decode cX9_isSame 18 = .ok (.iaload, 1) := by decide +kernel
theorem dX9_isSame_19 : decode cX9_isSame 19 = .ok (.iload 4, 2) := by decide +kernel
theorem dX9_isSame_21 : decode cX9_isSame 21 = .ok (.ifCond .eq 12, 3) := by decide +kernel
theorem dX9_isSame_24 : decode cX9_isSame 24 = .ok (.aload_n 0, 1) := by decide +kernel
theorem dX9_isSame_25 : decode cX9_isSame 25 = .ok (.getfield 13, 3) := by decide +kernel
theorem dX9_isSame_28 : decode cX9_isSame 28 = .ok (.iload_n 1, 1) := by decide +kernel
theorem dX9_isSame_29 : decode cX9_isSame 29 = .ok (.iaload, 1) := by decide +kernel
theorem dX9_isSame_30 : decode cX9_isSame 30 = .ok (.goto 9, 3) := by decide +kernel
theorem dX9_isSame_33 : decode cX9_isSame 33 = .ok (.aload_n 0, 1) := by decide +kernel
theorem dX9_isSame_34 : decode cX9_isSame 34 = .ok (.getfield 9, 3) := by decide +kernel
theorem dX9_isSame_37 : decode cX9_isSame 37 = .ok (.iload_n 1, 1) := by decide +kernel
theorem dX9_isSame_38 : decode cX9_isSame 38 = .ok (.iaload, 1) := by decide +kernel
theorem dX9_isSame_39 : decode cX9_isSame 39 = .ok (.if_icmp .ne 47, 3) := by decide +kernel
theorem dX9_isSame_42 : decode cX9_isSame 42 = .ok (.aload_n 0, 1) := by decide +kernel
theorem dX9_isSame_43 : decode cX9_isSame 43 = .ok (.getfield 13, 3) := by decide +kernel
theorem dX9_isSame_46 : decode cX9_isSame 46 = .ok (.iload_n 2, 1) := by decide +kernel
theorem dX9_isSame_47 : decode cX9_isSame 47 = .ok (.iaload, 1) := by decide +kernel
theorem dX9_isSame_48 : decode cX9_isSame 48 = .ok (.iload 4, 2) := by decide +kernel
theorem dX9_isSame_50 : decode cX9_isSame 50 = .ok (.ifCond .eq 12, 3) := by decide +kernel
theorem dX9_isSame_53 : decode cX9_isSame 53 = .ok (.aload_n 0, 1) := by decide +kernel
theorem dX9_isSame_54 : decode cX9_isSame 54 = .ok (.getfield 9, 3) := by decide +kernel
theorem dX9_isSame_57 : decode cX9_isSame 57 = .ok (.iload_n 1, 1) := by decide +kernel
theorem dX9_isSame_58 : decode cX9_isSame 58 = .ok (.iaload, 1) := by decide +kernel
theorem dX9_isSame_59 : decode cX9_isSame 59 = .ok (.goto 9, 3) := by decide +kernel
theorem dX9_isSame_62 : decode cX9_isSame 62 = .ok (.aload_n 0, 1) := by decide +kernel
theorem dX9_isSame_63 : decode cX9_isSame 63 = .ok (.getfield 13, 3) := by decide +kernel
theorem dX9_isSame_66 : decode cX9_isSame 66 = .ok (.iload_n 1, 1) := by decide +kernel
theorem dX9_isSame_67 : decode cX9_isSame 67 = .ok (.iaload, 1) := by decide +kernel
theorem dX9_isSame_68 : decode cX9_isSame 68 = .ok (.if_icmp .ne 18, 3) := by decide +kernel
theorem dX9_isSame_71 : decode cX9_isSame 71 = .ok (.aload_n 0, 1) := by decide +kernel
theorem dX9_isSame_72 : decode cX9_isSame 72 = .ok (.getfield 16, 3) := by decide +kernel
theorem dX9_isSame_75 : decode cX9_isSame 75 = .ok (.iload_n 1, 1) := by decide +kernel
theorem dX9_isSame_76 : decode cX9_isSame 76 = .ok (.iaload, 1) := by decide +kernel
theorem dX9_isSame_77 : decode cX9_isSame 77 = .ok (.aload_n 0, 1) := by decide +kernel
theorem dX9_isSame_78 : decode cX9_isSame 78 = .ok (.getfield 16, 3) := by decide +kernel
theorem dX9_isSame_81 : decode cX9_isSame 81 = .ok (.iload_n 2, 1) := by decide +kernel
theorem dX9_isSame_82 : decode cX9_isSame 82 = .ok (.iaload, 1) := by decide +kernel
theorem dX9_isSame_83 : decode cX9_isSame 83 = .ok (.if_icmp .eq 5, 3) := by decide +kernel
theorem dX9_isSame_86 : decode cX9_isSame 86 = .ok (.iconst 0, 1) := by decide +kernel
theorem dX9_isSame_87 : decode cX9_isSame 87 = .ok (.ireturn, 1) := by decide +kernel
theorem dX9_isSame_88 : decode cX9_isSame 88 = .ok (.iconst 0, 1) := by decide +kernel
theorem dX9_isSame_89 : decode cX9_isSame 89 = .ok (.istore 5, 2) := by decide +kernel
theorem dX9_isSame_91 : decode cX9_isSame 91 = .ok (.iload 5, 2) := by decide +kernel
theorem dX9_isSame_93 : decode cX9_isSame 93 = .ok (.aload_n 0, 1) := by decide +kernel
theorem dX9_isSame_94 : decode cX9_isSame 94 = .ok (.iload_n 2, 1) := by decide +kernel
theorem dX9_isSame_95 : decode cX9_isSame 95 = .ok (.invokevirtual 104, 3) := by decide +kernel
theorem dX9_isSame_98 : decode cX9_isSame 98 = .ok (.if_icmp .ge 153, 3) := by decide +kernel
theorem dX9_isSame_101 : decode cX9_isSame 101 = .ok (.aload_n 0, 1) := by decide +kernel
theorem dX9_isSame_102 : decode cX9_isSame 102 = .ok (.iload_n 1, 1) := by decide +kernel
theorem dX9_isSame_103 : decode cX9_isSame 103 = .ok (.iload_n 3, 1) := by decide +kernel
theorem dX9_isSame_104 : decode cX9_isSame 104 = .ok (.iload 5, 2) := by decide +kernel
theorem dX9_isSame_106 : decode cX9_isSame 106 = .ok (.invokevirtual 204, 3) := by decide +kernel
theorem dX9_isSame_109 : decode cX9_isSame 109 = .ok (.istore 6, 2) := by decide +kernel
theorem dX9_isSame_111 : decode cX9_isSame 111 = .ok (.aload_n 0, 1) := by decide +kernel
theorem dX9_isSame_112 : decode cX9_isSame 112 = .ok (.getfield 23, 3) := by decide +kernel
theorem dX9_isSame_115 : decode cX9_isSame 115 = .ok (.bipush 20, 2) := by decide +kernel
theorem dX9_isSame_117 : decode cX9_isSame 117 = .ok (.iload_n 1, 1) := by decide +kernel
theorem dX9_isSame_118 : decode cX9_isSame 118 = .ok (.imul, 1) := by decide +kernel
theorem dX9_isSame_119 : decode cX9_isSame 119 = .ok (.iload 6, 2) := by decide +kernel
theorem dX9_isSame_121 : decode cX9_isSame 121 = .ok (.iadd, 1) := by decide +kernel
theorem dX9_isSame_122 : decode cX9_isSame 122 = .ok (.iaload, 1) := by decide +kernel
theorem dX9_isSame_123 : decode cX9_isSame 123 = .ok (.istore 7, 2) := by decide +kernel
theorem dX9_isSame_125 : decode cX9_isSame 125 = .ok (.aload_n 0, 1) := by decide +kernel
theorem dX9_isSame_126 : decode cX9_isSame 126 = .ok (.getfield 23, 3) := by decide +kernel
theorem dX9_isSame_129 : decode cX9_isSame 129 = .ok (.bipush 20, 2) := by decide +kernel
theorem dX9_isSame_131 : decode cX9_isSame 131 = .ok (.iload_n 2, 1) := by decide +kernel
theorem dX9_isSame_132 : decode cX9_isSame 132 = .ok (.imul, 1) := by decide +kernel
theorem dX9_isSame_133 : decode cX9_isSame 133 = .ok (.iload 5, 2) := by decide +kernel
theorem dX9_isSame_135 : decode cX9_isSame 135 = .ok (.iadd, 1) := by decide +kernel
theorem dX9_isSame_136 : decode cX9_isSame 136 = .ok (.iaload, 1) := by decide +kernel
theorem dX9_isSame_137 : decode cX9_isSame 137 = .ok (.iload 7, 2) := by decide +kernel
theorem dX9_isSame_139 : decode cX9_isSame 139 = .ok (.if_icmp .eq 5, 3) := by decide +kernel
theorem dX9_isSame_142 : decode cX9_isSame 142 = .ok (.iconst 0, 1) := by decide +kernel
theorem dX9_isSame_143 : decode cX9_isSame 143 = .ok (.ireturn, 1) := by decide +kernel
theorem dX9_isSame_144 : decode cX9_isSame 144 = .ok (.iconst 0, 1) := by decide +kernel
theorem dX9_isSame_145 : decode cX9_isSame 145 = .ok (.istore 8, 2) := by decide +kernel
theorem dX9_isSame_147 : decode cX9_isSame 147 = .ok (.iload 8, 2) := by decide +kernel
theorem dX9_isSame_149 : decode cX9_isSame 149 = .ok (.iload 7, 2) := by decide +kernel
theorem dX9_isSame_151 : decode cX9_isSame 151 = .ok (.if_icmp .ge 94, 3) := by decide +kernel
theorem dX9_isSame_154 : decode cX9_isSame 154 = .ok (.aload_n 0, 1) := by decide +kernel
theorem dX9_isSame_155 : decode cX9_isSame 155 = .ok (.iload_n 1, 1) := by decide +kernel
theorem dX9_isSame_156 : decode cX9_isSame 156 = .ok (.iload 6, 2) := by decide +kernel
theorem dX9_isSame_158 : decode cX9_isSame 158 = .ok (.invokevirtual 121, 3) := by decide +kernel
theorem dX9_isSame_161 : decode cX9_isSame 161 = .ok (.aload_n 0, 1) := by decide +kernel
theorem dX9_isSame_162 : decode cX9_isSame 162 = .ok (.iload_n 1, 1) := by decide +kernel
theorem dX9_isSame_163 : decode cX9_isSame 163 = .ok (.iload_n 3, 1) := by decide +kernel
theorem dX9_isSame_164 : decode cX9_isSame 164 = .ok (.iload 6, 2) := by decide +kernel
theorem dX9_isSame_166 : decode cX9_isSame 166 = .ok (.invokevirtual 207, 3) := by decide +kernel
theorem dX9_isSame_169 : decode cX9_isSame 169 = .ok (.ifCond .eq 13, 3) := by decide +kernel
theorem dX9_isSame_172 : decode cX9_isSame 172 = .ok (.iload 7, 2) := by decide +kernel
theorem dX9_isSame_174 : decode cX9_isSame 174 = .ok (.iconst 1, 1) := by decide +kernel
theorem dX9_isSame_175 : decode cX9_isSame 175 = .ok (.isub, 1) := by decide +kernel
theorem dX9_isSame_176 : decode cX9_isSame 176 = .ok (.iload 8, 2) := by decide +kernel
theorem dX9_isSame_178 : decode cX9_isSame 178 = .ok (.isub, 1) := by decide +kernel
theorem dX9_isSame_179 : decode cX9_isSame 179 = .ok (.goto 5, 3) := by decide +kernel
theorem dX9_isSame_182 : decode cX9_isSame 182 = .ok (.iload 8, 2) := by decide +kernel
theorem dX9_isSame_184 : decode cX9_isSame 184 = .ok (.iadd, 1) := by decide +kernel
theorem dX9_isSame_185 : decode cX9_isSame 185 = .ok (.istore 9, 2) := by decide +kernel
theorem dX9_isSame_187 : decode cX9_isSame 187 = .ok (.aload_n 0, 1) := by decide +kernel
theorem dX9_isSame_188 : decode cX9_isSame 188 = .ok (.getfield 26, 3) := by decide +kernel
theorem dX9_isSame_191 : decode cX9_isSame 191 = .ok (.aload_n 0, 1) := by decide +kernel
theorem dX9_isSame_192 : decode cX9_isSame 192 = .ok (.iload_n 2, 1) := by decide +kernel
theorem dX9_isSame_193 : decode cX9_isSame 193 = .ok (.iload 5, 2) := by decide +kernel
theorem dX9_isSame_195 : decode cX9_isSame 195 = .ok (.invokevirtual 121, 3) := by decide +kernel
theorem dX9_isSame_198 : decode cX9_isSame 198 = .ok (.iload 8, 2) := by decide +kernel
theorem dX9_isSame_200 : decode cX9_isSame 200 = .ok (.iadd, 1) := by decide +kernel
theorem dX9_isSame_201 : decode cX9_isSame 201 = .ok (.iaload, 1) := by decide +kernel
theorem dX9_isSame_202 : decode cX9_isSame 202 = .ok (.aload_n 0, 1) := by decide +kernel
theorem dX9_isSame_203 : decode cX9_isSame 203 = .ok (.getfield 26, 3) := by decide +kernel
theorem dX9_isSame_206 : decode cX9_isSame 206 = .ok (.iload 9, 2) := by decide +kernel
theorem dX9_isSame_208 : decode cX9_isSame 208 = .ok (.iaload, 1) := by decide +kernel
theorem dX9_isSame_209 : decode cX9_isSame 209 = .ok (.if_icmp .ne 28, 3) := by decide +kernel
theorem dX9_isSame_212 : decode cX9_isSame 212 = .ok (.aload_n 0, 1) := by decide +kernel
theorem dX9_isSame_213 : decode cX9_isSame 213 = .ok (.getfield 29, 3) := by decide +kernel
theorem dX9_isSame_216 : decode cX9_isSame 216 = .ok (.aload_n 0, 1) := by decide +kernel
theorem dX9_isSame_217 : decode cX9_isSame 217 = .ok (.iload_n 2, 1) := by decide +kernel
theorem dX9_isSame_218 : decode cX9_isSame 218 = .ok (.iload 5, 2) := by decide +kernel
theorem dX9_isSame_220 : decode cX9_isSame 220 = .ok (.invokevirtual 121, 3) := by decide +kernel
theorem dX9_isSame_223 : decode cX9_isSame 223 = .ok (.iload 8, 2) := by decide +kernel
theorem dX9_isSame_225 : decode cX9_isSame 225 = .ok (.iadd, 1) := by decide +kernel
theorem dX9_isSame_226 : decode cX9_isSame 226 = .ok (.iaload, 1) := by decide +kernel
theorem dX9_isSame_227 : decode cX9_isSame 227 = .ok (.aload_n 0, 1) := by decide +kernel
theorem dX9_isSame_228 : decode cX9_isSame 228 = .ok (.getfield 29, 3) := by decide +kernel
theorem dX9_isSame_231 : decode cX9_isSame 231 = .ok (.iload 9, 2) := by decide +kernel
theorem dX9_isSame_233 : decode cX9_isSame 233 = .ok (.iaload, 1) := by decide +kernel
theorem dX9_isSame_234 : decode cX9_isSame 234 = .ok (.if_icmp .eq 5, 3) := by decide +kernel
theorem dX9_isSame_237 : decode cX9_isSame 237 = .ok (.iconst 0, 1) := by decide +kernel
theorem dX9_isSame_238 : decode cX9_isSame 238 = .ok (.ireturn, 1) := by decide +kernel
theorem dX9_isSame_239 : decode cX9_isSame 239 = .ok (.iinc 8 1, 3) := by decide +kernel
theorem dX9_isSame_242 : decode cX9_isSame 242 = .ok (.goto (-95), 3) := by decide +kernel
theorem dX9_isSame_245 : decode cX9_isSame 245 = .ok (.iinc 5 1, 3) := by decide +kernel
theorem dX9_isSame_248 : decode cX9_isSame 248 = .ok (.goto (-157), 3) := by decide +kernel
theorem dX9_isSame_251 : decode cX9_isSame 251 = .ok (.iconst 1, 1) := by decide +kernel
theorem dX9_isSame_252 : decode cX9_isSame 252 = .ok (.ireturn, 1) := by decide +kernel
theorem dX9_same_0 : decode cX9_same 0 = .ok (.aload_n 0, 1) := by decide +kernel
theorem dX9_same_1 : decode cX9_same 1 = .ok (.iload_n 1, 1) := by decide +kernel
theorem dX9_same_2 : decode cX9_same 2 = .ok (.invokevirtual 100, 3) := by decide +kernel
theorem dX9_same_5 : decode cX9_same 5 = .ok (.ifCond .eq 11, 3) := by decide +kernel
theorem dX9_same_8 : decode cX9_same 8 = .ok (.aload_n 0, 1) := by decide +kernel
theorem dX9_same_9 : decode cX9_same 9 = .ok (.iload_n 2, 1) := by decide +kernel
theorem dX9_same_10 : decode cX9_same 10 = .ok (.invokevirtual 100, 3) := by decide +kernel
theorem dX9_same_13 : decode cX9_same 13 = .ok (.ifCond .ne 5, 3) := by decide +kernel
theorem dX9_same_16 : decode cX9_same 16 = .ok (.iconst (-1), 1) := by decide +kernel
theorem dX9_same_17 : decode cX9_same 17 = .ok (.ireturn, 1) := by decide +kernel
theorem dX9_same_18 : decode cX9_same 18 = .ok (.iconst 0, 1) := by decide +kernel
theorem dX9_same_19 : decode cX9_same 19 = .ok (.istore_n 3, 1) := by decide +kernel
theorem dX9_same_20 : decode cX9_same 20 = .ok (.iload_n 3, 1) := by decide +kernel
theorem dX9_same_21 : decode cX9_same 21 = .ok (.bipush 8, 2) := by decide +kernel
theorem dX9_same_23 : decode cX9_same 23 = .ok (.if_icmp .ge 21, 3) := by decide +kernel
theorem dX9_same_26 : decode cX9_same 26 = .ok (.aload_n 0, 1) := by decide +kernel
theorem dX9_same_27 : decode cX9_same 27 = .ok (.iload_n 1, 1) := by decide +kernel
theorem dX9_same_28 : decode cX9_same 28 = .ok (.iload_n 2, 1) := by decide +kernel
theorem dX9_same_29 : decode cX9_same 29 = .ok (.iload_n 3, 1) := by decide +kernel
theorem dX9_same_30 : decode cX9_same 30 = .ok (.invokevirtual 210, 3) := by decide +kernel
theorem dX9_same_33 : decode cX9_same 33 = .ok (.ifCond .eq 5, 3) := by decide +kernel
theorem dX9_same_36 : decode cX9_same 36 = .ok (.iload_n 3, 1) := by decide +kernel
theorem dX9_same_37 : decode cX9_same 37 = .ok (.ireturn, 1) := by decide +kernel
theorem dX9_same_38 : decode cX9_same 38 = .ok (.iinc 3 1, 3) := by decide +kernel
theorem dX9_same_41 : decode cX9_same 41 = .ok (.goto (-21), 3) := by decide +kernel
theorem dX9_same_44 : decode cX9_same 44 = .ok (.iconst (-1), 1) := by decide +kernel
theorem dX9_same_45 : decode cX9_same 45 = .ok (.ireturn, 1) := by decide +kernel
theorem dX9_isGame_0 : decode cX9_isGame 0 = .ok (.iload_n 1, 1) := by decide +kernel
theorem dX9_isGame_1 : decode cX9_isGame 1 = .ok (.iconst 0, 1) := by decide +kernel
theorem dX9_isGame_2 : decode cX9_isGame 2 = .ok (.aload_n 0, 1) := by decide +kernel
theorem dX9_isGame_3 : decode cX9_isGame 3 = .ok (.getfield 213, 3) := by decide +kernel
theorem dX9_isGame_6 : decode cX9_isGame 6 = .ok (.iconst 1, 1) := by decide +kernel
theorem dX9_isGame_7 : decode cX9_isGame 7 = .ok (.isub, 1) := by decide +kernel
theorem dX9_isGame_8 : decode cX9_isGame 8 = .ok (.invokestatic 96, 3) := by decide +kernel
theorem dX9_isGame_11 : decode cX9_isGame 11 = .ok (.ireturn, 1) := by decide +kernel
theorem dX9_game_0 : decode cX9_game 0 = .ok (.aload_n 0, 1) := by decide +kernel
theorem dX9_game_1 : decode cX9_game 1 = .ok (.iload_n 1, 1) := by decide +kernel
theorem dX9_game_2 : decode cX9_game 2 = .ok (.invokevirtual 100, 3) := by decide +kernel
theorem dX9_game_5 : decode cX9_game 5 = .ok (.ifCond .eq 12, 3) := by decide +kernel
theorem dX9_game_8 : decode cX9_game 8 = .ok (.aload_n 0, 1) := by decide +kernel
theorem dX9_game_9 : decode cX9_game 9 = .ok (.getfield 213, 3) := by decide +kernel
theorem dX9_game_12 : decode cX9_game 12 = .ok (.bipush 20, 2) := by decide +kernel
theorem dX9_game_14 : decode cX9_game 14 = .ok (.if_icmp .ne 5, 3) := by decide +kernel
theorem dX9_game_17 : decode cX9_game 17 = .ok (.iconst (-1), 1) := by decide +kernel
theorem dX9_game_18 : decode cX9_game 18 = .ok (.ireturn, 1) := by decide +kernel
theorem dX9_game_19 : decode cX9_game 19 = .ok (.aload_n 0, 1) := by decide +kernel
theorem dX9_game_20 : decode cX9_game 20 = .ok (.getfield 65, 3) := by decide +kernel
theorem dX9_game_23 : decode cX9_game 23 = .ok (.aload_n 0, 1) := by decide +kernel
theorem dX9_game_24 : decode cX9_game 24 = .ok (.getfield 213, 3) := by decide +kernel
theorem dX9_game_27 : decode cX9_game 27 = .ok (.iload_n 1, 1) := by decide +kernel
theorem dX9_game_28 : decode cX9_game 28 = .ok (.iastore, 1) := by decide +kernel
theorem dX9_game_29 : decode cX9_game 29 = .ok (.aload_n 0, 1) := by decide +kernel
theorem dX9_game_30 : decode cX9_game 30 = .ok (.getfield 19, 3) := by decide +kernel
theorem dX9_game_33 : decode cX9_game 33 = .ok (.iload_n 1, 1) := by decide +kernel
theorem dX9_game_34 : decode cX9_game 34 = .ok (.iconst 1, 1) := by decide +kernel
theorem dX9_game_35 : decode cX9_game 35 = .ok (.bastore, 1) := by decide +kernel
theorem dX9_game_36 : decode cX9_game 36 = .ok (.iconst 0, 1) := by decide +kernel
theorem dX9_game_37 : decode cX9_game 37 = .ok (.istore_n 2, 1) := by decide +kernel
theorem dX9_game_38 : decode cX9_game 38 = .ok (.iload_n 2, 1) := by decide +kernel
theorem dX9_game_39 : decode cX9_game 39 = .ok (.bipush 100, 2) := by decide +kernel
theorem dX9_game_41 : decode cX9_game 41 = .ok (.if_icmp .ge 24, 3) := by decide +kernel
theorem dX9_game_44 : decode cX9_game 44 = .ok (.aload_n 0, 1) := by decide +kernel
theorem dX9_game_45 : decode cX9_game 45 = .ok (.getfield 68, 3) := by decide +kernel
theorem dX9_game_48 : decode cX9_game 48 = .ok (.bipush 100, 2) := by decide +kernel
theorem dX9_game_50 : decode cX9_game 50 = .ok (.aload_n 0, 1) := by decide +kernel
theorem dX9_game_51 : decode cX9_game 51 = .ok (.getfield 213, 3) := by decide +kernel
theorem dX9_game_54 : decode cX9_game 54 = .ok (.imul, 1) := by decide +kernel
theorem dX9_game_55 : decode cX9_game 55 = .ok (.iload_n 2, 1) := by decide +kernel
theorem dX9_game_56 : decode cX9_game 56 = .ok (.iadd, 1) := by decide +kernel
theorem dX9_game_57 : decode cX9_game 57 = .ok (.iconst (-1), 1) := by decide +kernel
theorem dX9_game_58 : decode cX9_game 58 = .ok (.iastore, 1) := by decide +kernel
theorem dX9_game_59 : decode cX9_game 59 = .ok (.iinc 2 1, 3) := by decide +kernel
theorem dX9_game_62 : decode cX9_game 62 = .ok (.goto (-24), 3) := by decide +kernel
theorem dX9_game_65 : decode cX9_game 65 = .ok (.aload_n 0, 1) := by decide +kernel
theorem dX9_game_66 : decode cX9_game 66 = .ok (.dup, 1) := by decide +kernel
theorem dX9_game_67 : decode cX9_game 67 = .ok (.getfield 213, 3) := by decide +kernel
theorem dX9_game_70 : decode cX9_game 70 = .ok (.iconst 1, 1) := by decide +kernel
theorem dX9_game_71 : decode cX9_game 71 = .ok (.iadd, 1) := by decide +kernel
theorem dX9_game_72 : decode cX9_game 72 = .ok (.putfield 213, 3) := by decide +kernel
theorem dX9_game_75 : decode cX9_game 75 = .ok (.aload_n 0, 1) := by decide +kernel
theorem dX9_game_76 : decode cX9_game 76 = .ok (.getfield 213, 3) := by decide +kernel
theorem dX9_game_79 : decode cX9_game 79 = .ok (.iconst 1, 1) := by decide +kernel
theorem dX9_game_80 : decode cX9_game 80 = .ok (.isub, 1) := by decide +kernel
theorem dX9_game_81 : decode cX9_game 81 = .ok (.ireturn, 1) := by decide +kernel
theorem dX9_mark_0 : decode cX9_mark 0 = .ok (.aload_n 0, 1) := by decide +kernel
theorem dX9_mark_1 : decode cX9_mark 1 = .ok (.iload_n 1, 1) := by decide +kernel
theorem dX9_mark_2 : decode cX9_mark 2 = .ok (.invokevirtual 216, 3) := by decide +kernel
theorem dX9_mark_5 : decode cX9_mark 5 = .ok (.ifCond .eq 36, 3) := by decide +kernel
theorem dX9_mark_8 : decode cX9_mark 8 = .ok (.aload_n 0, 1) := by decide +kernel
theorem dX9_mark_9 : decode cX9_mark 9 = .ok (.aload_n 0, 1) := by decide +kernel
theorem dX9_mark_10 : decode cX9_mark 10 = .ok (.getfield 65, 3) := by decide +kernel
theorem dX9_mark_13 : decode cX9_mark 13 = .ok (.iload_n 1, 1) := by decide +kernel
theorem dX9_mark_14 : decode cX9_mark 14 = .ok (.iaload, 1) := by decide +kernel
theorem dX9_mark_15 : decode cX9_mark 15 = .ok (.iload_n 2, 1) := by decide +kernel
theorem dX9_mark_16 : decode cX9_mark 16 = .ok (.invokevirtual 131, 3) := by decide +kernel
theorem dX9_mark_19 : decode cX9_mark 19 = .ok (.ifCond .eq 22, 3) := by decide +kernel
theorem dX9_mark_22 : decode cX9_mark 22 = .ok (.iload_n 3, 1) := by decide +kernel
theorem dX9_mark_23 : decode cX9_mark 23 = .ok (.iconst (-1), 1) := by decide +kernel
theorem dX9_mark_24 : decode cX9_mark 24 = .ok (.aload_n 0, 1) := by decide +kernel
theorem dX9_mark_25 : decode cX9_mark 25 = .ok (.getfield 16, 3) := by decide +kernel
theorem dX9_mark_28 : decode cX9_mark 28 = .ok (.aload_n 0, 1) := by decide +kernel
theorem dX9_mark_29 : decode cX9_mark 29 = .ok (.getfield 65, 3) := by decide +kernel
theorem dX9_mark_32 : decode cX9_mark 32 = .ok (.iload_n 1, 1) := by decide +kernel
theorem dX9_mark_33 : decode cX9_mark 33 = .ok (.iaload, 1) := by decide +kernel
theorem dX9_mark_34 : decode cX9_mark 34 = .ok (.iaload, 1) := by decide +kernel
theorem dX9_mark_35 : decode cX9_mark 35 = .ok (.invokestatic 96, 3) := by decide +kernel
theorem dX9_mark_38 : decode cX9_mark 38 = .ok (.ifCond .ne 5, 3) := by decide +kernel
theorem dX9_mark_41 : decode cX9_mark 41 = .ok (.iconst 0, 1) := by decide +kernel
theorem dX9_mark_42 : decode cX9_mark 42 = .ok (.ireturn, 1) := by decide +kernel
theorem dX9_mark_43 : decode cX9_mark 43 = .ok (.aload_n 0, 1) := by decide +kernel
theorem dX9_mark_44 : decode cX9_mark 44 = .ok (.getfield 68, 3) := by decide +kernel
theorem dX9_mark_47 : decode cX9_mark 47 = .ok (.bipush 100, 2) := by decide +kernel
theorem dX9_mark_49 : decode cX9_mark 49 = .ok (.iload_n 1, 1) := by decide +kernel
theorem dX9_mark_50 : decode cX9_mark 50 = .ok (.imul, 1) := by decide +kernel
theorem dX9_mark_51 : decode cX9_mark 51 = .ok (.iload_n 2, 1) := by decide +kernel
theorem dX9_mark_52 : decode cX9_mark 52 = .ok (.iadd, 1) := by decide +kernel
theorem dX9_mark_53 : decode cX9_mark 53 = .ok (.iaload, 1) := by decide +kernel
theorem dX9_mark_54 : decode cX9_mark 54 = .ok (.iload_n 3, 1) := by decide +kernel
theorem dX9_mark_55 : decode cX9_mark 55 = .ok (.if_icmp .eq 15, 3) := by decide +kernel
theorem dX9_mark_58 : decode cX9_mark 58 = .ok (.aload_n 0, 1) := by decide +kernel
theorem dX9_mark_59 : decode cX9_mark 59 = .ok (.getfield 71, 3) := by decide +kernel
theorem dX9_mark_62 : decode cX9_mark 62 = .ok (.iload_n 1, 1) := by decide +kernel
theorem dX9_mark_63 : decode cX9_mark 63 = .ok (.iaload, 1) := by decide +kernel
theorem dX9_mark_64 : decode cX9_mark 64 = .ok (.sipush 200, 3) := by decide +kernel
theorem dX9_mark_67 : decode cX9_mark 67 = .ok (.if_icmp .ne 5, 3) := by decide +kernel
theorem dX9_mark_70 : decode cX9_mark 70 = .ok (.iconst 0, 1) := by decide +kernel
theorem dX9_mark_71 : decode cX9_mark 71 = .ok (.ireturn, 1) := by decide +kernel
theorem dX9_mark_72 : decode cX9_mark 72 = .ok (.sipush 200, 3) := by decide +kernel
theorem dX9_mark_75 : decode cX9_mark 75 = .ok (.iload_n 1, 1) := by decide +kernel
theorem dX9_mark_76 : decode cX9_mark 76 = .ok (.imul, 1) := by decide +kernel
theorem dX9_mark_77 : decode cX9_mark 77 = .ok (.aload_n 0, 1) := by decide +kernel
theorem dX9_mark_78 : decode cX9_mark 78 = .ok (.getfield 71, 3) := by decide +kernel
theorem dX9_mark_81 : decode cX9_mark 81 = .ok (.iload_n 1, 1) := by decide +kernel
theorem dX9_mark_82 : decode cX9_mark 82 = .ok (.iaload, 1) := by decide +kernel
theorem dX9_mark_83 : decode cX9_mark 83 = .ok (.iadd, 1) := by decide +kernel
theorem dX9_mark_84 : decode cX9_mark 84 = .ok (.istore 4, 2) := by decide +kernel
theorem dX9_mark_86 : decode cX9_mark 86 = .ok (.aload_n 0, 1) := by decide +kernel
theorem dX9_mark_87 : decode cX9_mark 87 = .ok (.getfield 80, 3) := by decide +kernel
theorem dX9_mark_90 : decode cX9_mark 90 = .ok (.iload 4, 2) := by decide +kernel
theorem dX9_mark_92 : decode cX9_mark 92 = .ok (.iload_n 2, 1) := by decide +kernel
theorem dX9_mark_93 : decode cX9_mark 93 = .ok (.iastore, 1) := by decide +kernel
theorem dX9_mark_94 : decode cX9_mark 94 = .ok (.aload_n 0, 1) := by decide +kernel
theorem dX9_mark_95 : decode cX9_mark 95 = .ok (.getfield 83, 3) := by decide +kernel
theorem dX9_mark_98 : decode cX9_mark 98 = .ok (.iload 4, 2) := by decide +kernel
theorem dX9_mark_100 : decode cX9_mark 100 = .ok (.aload_n 0, 1) := by decide +kernel
theorem dX9_mark_101 : decode cX9_mark 101 = .ok (.getfield 68, 3) := by decide +kernel
theorem dX9_mark_104 : decode cX9_mark 104 = .ok (.bipush 100, 2) := by decide +kernel
theorem dX9_mark_106 : decode cX9_mark 106 = .ok (.iload_n 1, 1) := by decide +kernel
theorem dX9_mark_107 : decode cX9_mark 107 = .ok (.imul, 1) := by decide +kernel
theorem dX9_mark_108 : decode cX9_mark 108 = .ok (.iload_n 2, 1) := by decide +kernel
theorem dX9_mark_109 : decode cX9_mark 109 = .ok (.iadd, 1) := by decide +kernel
theorem dX9_mark_110 : decode cX9_mark 110 = .ok (.iaload, 1) := by decide +kernel
theorem dX9_mark_111 : decode cX9_mark 111 = .ok (.iastore, 1) := by decide +kernel
theorem dX9_mark_112 : decode cX9_mark 112 = .ok (.aload_n 0, 1) := by decide +kernel
theorem dX9_mark_113 : decode cX9_mark 113 = .ok (.getfield 86, 3) := by decide +kernel
theorem dX9_mark_116 : decode cX9_mark 116 = .ok (.iload 4, 2) := by decide +kernel
theorem dX9_mark_118 : decode cX9_mark 118 = .ok (.iload_n 3, 1) := by decide +kernel
theorem dX9_mark_119 : decode cX9_mark 119 = .ok (.iastore, 1) := by decide +kernel
theorem dX9_mark_120 : decode cX9_mark 120 = .ok (.aload_n 0, 1) := by decide +kernel
theorem dX9_mark_121 : decode cX9_mark 121 = .ok (.getfield 71, 3) := by decide +kernel
theorem dX9_mark_124 : decode cX9_mark 124 = .ok (.iload_n 1, 1) := by decide +kernel
theorem dX9_mark_125 : decode cX9_mark 125 = .ok (.dup2, 1) := by decide +kernel
theorem dX9_mark_126 : decode cX9_mark 126 = .ok (.iaload, 1) := by decide +kernel
theorem dX9_mark_127 : decode cX9_mark 127 = .ok (.iconst 1, 1) := by decide +kernel
theorem dX9_mark_128 : decode cX9_mark 128 = .ok (.iadd, 1) := by decide +kernel
theorem dX9_mark_129 : decode cX9_mark 129 = .ok (.iastore, 1) := by decide +kernel
theorem dX9_mark_130 : decode cX9_mark 130 = .ok (.aload_n 0, 1) := by decide +kernel
theorem dX9_mark_131 : decode cX9_mark 131 = .ok (.getfield 74, 3) := by decide +kernel
theorem dX9_mark_134 : decode cX9_mark 134 = .ok (.iload_n 1, 1) := by decide +kernel
theorem dX9_mark_135 : decode cX9_mark 135 = .ok (.aload_n 0, 1) := by decide +kernel
theorem dX9_mark_136 : decode cX9_mark 136 = .ok (.getfield 71, 3) := by decide +kernel
theorem dX9_mark_139 : decode cX9_mark 139 = .ok (.iload_n 1, 1) := by decide +kernel
theorem dX9_mark_140 : decode cX9_mark 140 = .ok (.iaload, 1) := by decide +kernel
theorem dX9_mark_141 : decode cX9_mark 141 = .ok (.iastore, 1) := by decide +kernel
theorem dX9_mark_142 : decode cX9_mark 142 = .ok (.aload_n 0, 1) := by decide +kernel
theorem dX9_mark_143 : decode cX9_mark 143 = .ok (.getfield 68, 3) := by decide +kernel
theorem dX9_mark_146 : decode cX9_mark 146 = .ok (.bipush 100, 2) := by decide +kernel
theorem dX9_mark_148 : decode cX9_mark 148 = .ok (.iload_n 1, 1) := by decide +kernel
theorem dX9_mark_149 : decode cX9_mark 149 = .ok (.imul, 1) := by decide +kernel
theorem dX9_mark_150 : decode cX9_mark 150 = .ok (.iload_n 2, 1) := by decide +kernel
theorem dX9_mark_151 : decode cX9_mark 151 = .ok (.iadd, 1) := by decide +kernel
theorem dX9_mark_152 : decode cX9_mark 152 = .ok (.iload_n 3, 1) := by decide +kernel
theorem dX9_mark_153 : decode cX9_mark 153 = .ok (.iastore, 1) := by decide +kernel
theorem dX9_mark_154 : decode cX9_mark 154 = .ok (.iconst 1, 1) := by decide +kernel
theorem dX9_mark_155 : decode cX9_mark 155 = .ok (.ireturn, 1) := by decide +kernel
theorem dX9_marked_0 : decode cX9_marked 0 = .ok (.aload_n 0, 1) := by decide +kernel
theorem dX9_marked_1 : decode cX9_marked 1 = .ok (.iload_n 1, 1) := by decide +kernel
theorem dX9_marked_2 : decode cX9_marked 2 = .ok (.invokevirtual 216, 3) := by decide +kernel
theorem dX9_marked_5 : decode cX9_marked 5 = .ok (.ifCond .eq 31, 3) := by decide +kernel
theorem dX9_marked_8 : decode cX9_marked 8 = .ok (.aload_n 0, 1) := by decide +kernel
theorem dX9_marked_9 : decode cX9_marked 9 = .ok (.aload_n 0, 1) := by decide +kernel
theorem dX9_marked_10 : decode cX9_marked 10 = .ok (.getfield 65, 3) := by decide +kernel
theorem dX9_marked_13 : decode cX9_marked 13 = .ok (.iload_n 1, 1) := by decide +kernel
theorem dX9_marked_14 : decode cX9_marked 14 = .ok (.iaload, 1) := by decide +kernel
theorem dX9_marked_15 : decode cX9_marked 15 = .ok (.iload_n 2, 1) := by decide +kernel
theorem dX9_marked_16 : decode cX9_marked 16 = .ok (.invokevirtual 131, 3) := by decide +kernel
theorem dX9_marked_19 : decode cX9_marked 19 = .ok (.ifCond .eq 17, 3) := by decide +kernel
theorem dX9_marked_22 : decode cX9_marked 22 = .ok (.aload_n 0, 1) := by decide +kernel
theorem dX9_marked_23 : decode cX9_marked 23 = .ok (.getfield 68, 3) := by decide +kernel
theorem dX9_marked_26 : decode cX9_marked 26 = .ok (.bipush 100, 2) := by decide +kernel
theorem dX9_marked_28 : decode cX9_marked 28 = .ok (.iload_n 1, 1) := by decide +kernel
theorem dX9_marked_29 : decode cX9_marked 29 = .ok (.imul, 1) := by decide +kernel
theorem dX9_marked_30 : decode cX9_marked 30 = .ok (.iload_n 2, 1) := by decide +kernel
theorem dX9_marked_31 : decode cX9_marked 31 = .ok (.iadd, 1) := by decide +kernel
theorem dX9_marked_32 : decode cX9_marked 32 = .ok (.iaload, 1) := by decide +kernel
theorem dX9_marked_33 : decode cX9_marked 33 = .ok (.goto 4, 3) := by decide +kernel
theorem dX9_marked_36 : decode cX9_marked 36 = .ok (.iconst (-1), 1) := by decide +kernel
theorem dX9_marked_37 : decode cX9_marked 37 = .ok (.ireturn, 1) := by decide +kernel
theorem dX9_undo_0 : decode cX9_undo 0 = .ok (.aload_n 0, 1) := by decide +kernel
theorem dX9_undo_1 : decode cX9_undo 1 = .ok (.iload_n 1, 1) := by decide +kernel
theorem dX9_undo_2 : decode cX9_undo 2 = .ok (.invokevirtual 216, 3) := by decide +kernel
theorem dX9_undo_5 : decode cX9_undo 5 = .ok (.ifCond .eq 12, 3) := by decide +kernel
theorem dX9_undo_8 : decode cX9_undo 8 = .ok (.aload_n 0, 1) := by decide +kernel
theorem dX9_undo_9 : decode cX9_undo 9 = .ok (.getfield 71, 3) := by decide +kernel
theorem dX9_undo_12 : decode cX9_undo 12 = .ok (.iload_n 1, 1) := by decide +kernel
theorem dX9_undo_13 : decode cX9_undo 13 = .ok (.iaload, 1) := by decide +kernel
theorem dX9_undo_14 : decode cX9_undo 14 = .ok (.ifCond .ne 5, 3) := by decide +kernel
theorem dX9_undo_17 : decode cX9_undo 17 = .ok (.iconst (-1), 1) := by decide +kernel
theorem dX9_undo_18 : decode cX9_undo 18 = .ok (.ireturn, 1) := by decide +kernel
theorem dX9_undo_19 : decode cX9_undo 19 = .ok (.aload_n 0, 1) := by decide +kernel
theorem dX9_undo_20 : decode cX9_undo 20 = .ok (.getfield 71, 3) := by decide +kernel
theorem dX9_undo_23 : decode cX9_undo 23 = .ok (.iload_n 1, 1) := by decide +kernel
theorem dX9_undo_24 : decode cX9_undo 24 = .ok (.dup2, 1) := by decide +kernel
theorem dX9_undo_25 : decode cX9_undo 25 = .ok (.iaload, 1) := by decide +kernel
theorem dX9_undo_26 : decode cX9_undo 26 = .ok (.iconst 1, 1) := by decide +kernel
theorem dX9_undo_27 : decode cX9_undo 27 = .ok (.isub, 1) := by decide +kernel
theorem dX9_undo_28 : decode cX9_undo 28 = .ok (.iastore, 1) := by decide +kernel
theorem dX9_undo_29 : decode cX9_undo 29 = .ok (.sipush 200, 3) := by decide +kernel
theorem dX9_undo_32 : decode cX9_undo 32 = .ok (.iload_n 1, 1) := by decide +kernel
theorem dX9_undo_33 : decode cX9_undo 33 = .ok (.imul, 1) := by decide +kernel
theorem dX9_undo_34 : decode cX9_undo 34 = .ok (.aload_n 0, 1) := by decide +kernel
theorem dX9_undo_35 : decode cX9_undo 35 = .ok (.getfield 71, 3) := by decide +kernel
theorem dX9_undo_38 : decode cX9_undo 38 = .ok (.iload_n 1, 1) := by decide +kernel
theorem dX9_undo_39 : decode cX9_undo 39 = .ok (.iaload, 1) := by decide +kernel
theorem dX9_undo_40 : decode cX9_undo 40 = .ok (.iadd, 1) := by decide +kernel
theorem dX9_undo_41 : decode cX9_undo 41 = .ok (.istore_n 2, 1) := by decide +kernel
theorem dX9_undo_42 : decode cX9_undo 42 = .ok (.aload_n 0, 1) := by decide +kernel
theorem dX9_undo_43 : decode cX9_undo 43 = .ok (.getfield 68, 3) := by decide +kernel
theorem dX9_undo_46 : decode cX9_undo 46 = .ok (.bipush 100, 2) := by decide +kernel
theorem dX9_undo_48 : decode cX9_undo 48 = .ok (.iload_n 1, 1) := by decide +kernel
theorem dX9_undo_49 : decode cX9_undo 49 = .ok (.imul, 1) := by decide +kernel
theorem dX9_undo_50 : decode cX9_undo 50 = .ok (.aload_n 0, 1) := by decide +kernel
theorem dX9_undo_51 : decode cX9_undo 51 = .ok (.getfield 80, 3) := by decide +kernel
theorem dX9_undo_54 : decode cX9_undo 54 = .ok (.iload_n 2, 1) := by decide +kernel
theorem dX9_undo_55 : decode cX9_undo 55 = .ok (.iaload, 1) := by decide +kernel
theorem dX9_undo_56 : decode cX9_undo 56 = .ok (.iadd, 1) := by decide +kernel
theorem dX9_undo_57 : decode cX9_undo 57 = .ok (.aload_n 0, 1) := by decide +kernel
theorem dX9_undo_58 : decode cX9_undo 58 = .ok (.getfield 83, 3) := by decide +kernel
theorem dX9_undo_61 : decode cX9_undo 61 = .ok (.iload_n 2, 1) := by decide +kernel
theorem dX9_undo_62 : decode cX9_undo 62 = .ok (.iaload, 1) := by decide +kernel
theorem dX9_undo_63 : decode cX9_undo 63 = .ok (.iastore, 1) := by decide +kernel
theorem dX9_undo_64 : decode cX9_undo 64 = .ok (.aload_n 0, 1) := by decide +kernel
theorem dX9_undo_65 : decode cX9_undo 65 = .ok (.getfield 80, 3) := by decide +kernel
theorem dX9_undo_68 : decode cX9_undo 68 = .ok (.iload_n 2, 1) := by decide +kernel
theorem dX9_undo_69 : decode cX9_undo 69 = .ok (.iaload, 1) := by decide +kernel
theorem dX9_undo_70 : decode cX9_undo 70 = .ok (.ireturn, 1) := by decide +kernel
theorem dX9_redo_0 : decode cX9_redo 0 = .ok (.aload_n 0, 1) := by decide +kernel
theorem dX9_redo_1 : decode cX9_redo 1 = .ok (.iload_n 1, 1) := by decide +kernel
theorem dX9_redo_2 : decode cX9_redo 2 = .ok (.invokevirtual 216, 3) := by decide +kernel
theorem dX9_redo_5 : decode cX9_redo 5 = .ok (.ifCond .eq 18, 3) := by decide +kernel
theorem dX9_redo_8 : decode cX9_redo 8 = .ok (.aload_n 0, 1) := by decide +kernel
theorem dX9_redo_9 : decode cX9_redo 9 = .ok (.getfield 71, 3) := by decide +kernel
theorem dX9_redo_12 : decode cX9_redo 12 = .ok (.iload_n 1, 1) := by decide +kernel
theorem dX9_redo_13 : decode cX9_redo 13 = .ok (.iaload, 1) := by decide +kernel
theorem dX9_redo_14 : decode cX9_redo 14 = .ok (.aload_n 0, 1) := by decide +kernel
theorem dX9_redo_15 : decode cX9_redo 15 = .ok (.getfield 74, 3) := by decide +kernel
theorem dX9_redo_18 : decode cX9_redo 18 = .ok (.iload_n 1, 1) := by decide +kernel
theorem dX9_redo_19 : decode cX9_redo 19 = .ok (.iaload, 1) := by decide +kernel
theorem dX9_redo_20 : decode cX9_redo 20 = .ok (.if_icmp .ne 5, 3) := by decide +kernel
theorem dX9_redo_23 : decode cX9_redo 23 = .ok (.iconst (-1), 1) := by decide +kernel
theorem dX9_redo_24 : decode cX9_redo 24 = .ok (.ireturn, 1) := by decide +kernel
theorem dX9_redo_25 : decode cX9_redo 25 = .ok (.sipush 200, 3) := by decide +kernel
theorem dX9_redo_28 : decode cX9_redo 28 = .ok (.iload_n 1, 1) := by decide +kernel
theorem dX9_redo_29 : decode cX9_redo 29 = .ok (.imul, 1) := by decide +kernel
theorem dX9_redo_30 : decode cX9_redo 30 = .ok (.aload_n 0, 1) := by decide +kernel
theorem dX9_redo_31 : decode cX9_redo 31 = .ok (.getfield 71, 3) := by decide +kernel
theorem dX9_redo_34 : decode cX9_redo 34 = .ok (.iload_n 1, 1) := by decide +kernel
theorem dX9_redo_35 : decode cX9_redo 35 = .ok (.iaload, 1) := by decide +kernel
theorem dX9_redo_36 : decode cX9_redo 36 = .ok (.iadd, 1) := by decide +kernel
theorem dX9_redo_37 : decode cX9_redo 37 = .ok (.istore_n 2, 1) := by decide +kernel
theorem dX9_redo_38 : decode cX9_redo 38 = .ok (.aload_n 0, 1) := by decide +kernel
theorem dX9_redo_39 : decode cX9_redo 39 = .ok (.getfield 71, 3) := by decide +kernel
theorem dX9_redo_42 : decode cX9_redo 42 = .ok (.iload_n 1, 1) := by decide +kernel
theorem dX9_redo_43 : decode cX9_redo 43 = .ok (.dup2, 1) := by decide +kernel
theorem dX9_redo_44 : decode cX9_redo 44 = .ok (.iaload, 1) := by decide +kernel
theorem dX9_redo_45 : decode cX9_redo 45 = .ok (.iconst 1, 1) := by decide +kernel
theorem dX9_redo_46 : decode cX9_redo 46 = .ok (.iadd, 1) := by decide +kernel
theorem dX9_redo_47 : decode cX9_redo 47 = .ok (.iastore, 1) := by decide +kernel
theorem dX9_redo_48 : decode cX9_redo 48 = .ok (.aload_n 0, 1) := by decide +kernel
theorem dX9_redo_49 : decode cX9_redo 49 = .ok (.getfield 68, 3) := by decide +kernel
theorem dX9_redo_52 : decode cX9_redo 52 = .ok (.bipush 100, 2) := by decide +kernel
theorem dX9_redo_54 : decode cX9_redo 54 = .ok (.iload_n 1, 1) := by decide +kernel
theorem dX9_redo_55 : decode cX9_redo 55 = .ok (.imul, 1) := by decide +kernel
theorem dX9_redo_56 : decode cX9_redo 56 = .ok (.aload_n 0, 1) := by decide +kernel
theorem dX9_redo_57 : decode cX9_redo 57 = .ok (.getfield 80, 3) := by decide +kernel
theorem dX9_redo_60 : decode cX9_redo 60 = .ok (.iload_n 2, 1) := by decide +kernel
theorem dX9_redo_61 : decode cX9_redo 61 = .ok (.iaload, 1) := by decide +kernel
theorem dX9_redo_62 : decode cX9_redo 62 = .ok (.iadd, 1) := by decide +kernel
theorem dX9_redo_63 : decode cX9_redo 63 = .ok (.aload_n 0, 1) := by decide +kernel
theorem dX9_redo_64 : decode cX9_redo 64 = .ok (.getfield 86, 3) := by decide +kernel
theorem dX9_redo_67 : decode cX9_redo 67 = .ok (.iload_n 2, 1) := by decide +kernel
theorem dX9_redo_68 : decode cX9_redo 68 = .ok (.iaload, 1) := by decide +kernel
theorem dX9_redo_69 : decode cX9_redo 69 = .ok (.iastore, 1) := by decide +kernel
theorem dX9_redo_70 : decode cX9_redo 70 = .ok (.aload_n 0, 1) := by decide +kernel
theorem dX9_redo_71 : decode cX9_redo 71 = .ok (.getfield 80, 3) := by decide +kernel
theorem dX9_redo_74 : decode cX9_redo 74 = .ok (.iload_n 2, 1) := by decide +kernel
theorem dX9_redo_75 : decode cX9_redo 75 = .ok (.iaload, 1) := by decide +kernel
theorem dX9_redo_76 : decode cX9_redo 76 = .ok (.ireturn, 1) := by decide +kernel
theorem dX9_marksAsSets_0 : decode cX9_marksAsSets 0 = .ok (.aload_n 0, 1) := by decide +kernel
theorem dX9_marksAsSets_1 : decode cX9_marksAsSets 1 = .ok (.getfield 65, 3) := by decide +kernel
theorem dX9_marksAsSets_4 : decode cX9_marksAsSets 4 = .ok (.iload_n 1, 1) := by decide +kernel
theorem dX9_marksAsSets_5 : decode cX9_marksAsSets 5 = .ok (.iaload, 1) := by decide +kernel
theorem dX9_marksAsSets_6 : decode cX9_marksAsSets 6 = .ok (.istore_n 2, 1) := by decide +kernel
theorem dX9_marksAsSets_7 : decode cX9_marksAsSets 7 = .ok (.iconst 0, 1) := by decide +kernel
theorem dX9_marksAsSets_8 : decode cX9_marksAsSets 8 = .ok (.istore_n 3, 1) := by decide +kernel
theorem dX9_marksAsSets_9 : decode cX9_marksAsSets 9 = .ok (.iload_n 3, 1) := by decide +kernel
theorem dX9_marksAsSets_10 : decode cX9_marksAsSets 10 = .ok (.aload_n 0, 1) := by decide +kernel
theorem dX9_marksAsSets_11 : decode cX9_marksAsSets 11 = .ok (.iload_n 2, 1) := by decide +kernel
theorem dX9_marksAsSets_12 : decode cX9_marksAsSets 12 = .ok (.invokevirtual 108, 3) := by decide +kernel
theorem dX9_marksAsSets_15 : decode cX9_marksAsSets 15 = .ok (.if_icmp .ge 46, 3) := by decide +kernel
theorem dX9_marksAsSets_18 : decode cX9_marksAsSets 18 = .ok (.aload_n 0, 1) := by decide +kernel
theorem dX9_marksAsSets_19 : decode cX9_marksAsSets 19 = .ok (.getfield 68, 3) := by decide +kernel
theorem dX9_marksAsSets_22 : decode cX9_marksAsSets 22 = .ok (.bipush 100, 2) := by decide +kernel
theorem dX9_marksAsSets_24 : decode cX9_marksAsSets 24 = .ok (.iload_n 1, 1) := by decide +kernel
theorem dX9_marksAsSets_25 : decode cX9_marksAsSets 25 = .ok (.imul, 1) := by decide +kernel
theorem dX9_marksAsSets_26 : decode cX9_marksAsSets 26 = .ok (.iload_n 3, 1) := by decide +kernel
theorem dX9_marksAsSets_27 : decode cX9_marksAsSets 27 = .ok (.iadd, 1) := by decide +kernel
theorem dX9_marksAsSets_28 : decode cX9_marksAsSets 28 = .ok (.iaload, 1) := by decide +kernel
theorem dX9_marksAsSets_29 : decode cX9_marksAsSets 29 = .ok (.istore 4, 2) := by decide +kernel
theorem dX9_marksAsSets_31 : decode cX9_marksAsSets 31 = .ok (.aload_n 0, 1) := by decide +kernel
theorem dX9_marksAsSets_32 : decode cX9_marksAsSets 32 = .ok (.getfield 38, 3) := by decide +kernel
theorem dX9_marksAsSets_35 : decode cX9_marksAsSets 35 = .ok (.iload_n 3, 1) := by decide +kernel
theorem dX9_marksAsSets_36 : decode cX9_marksAsSets 36 = .ok (.iload 4, 2) := by decide +kernel
theorem dX9_marksAsSets_38 : decode cX9_marksAsSets 38 = .ok (.iconst (-1), 1) := by decide +kernel
theorem dX9_marksAsSets_39 : decode cX9_marksAsSets 39 = .ok (.if_icmp .ne 11, 3) := by decide +kernel
theorem dX9_marksAsSets_42 : decode cX9_marksAsSets 42 = .ok (.aload_n 0, 1) := by decide +kernel
theorem dX9_marksAsSets_43 : decode cX9_marksAsSets 43 = .ok (.iload_n 2, 1) := by decide +kernel
theorem dX9_marksAsSets_44 : decode cX9_marksAsSets 44 = .ok (.invokevirtual 114, 3) := by decide +kernel
theorem dX9_marksAsSets_47 : decode cX9_marksAsSets 47 = .ok (.goto 7, 3) := by decide +kernel
theorem dX9_marksAsSets_50 : decode cX9_marksAsSets 50 = .ok (.iconst 1, 1) := by decide +kernel
theorem dX9_marksAsSets_51 : decode cX9_marksAsSets 51 = .ok (.iload 4, 2) := by decide +kernel
theorem dX9_marksAsSets_53 : decode cX9_marksAsSets 53 = .ok (.ishl, 1) := by decide +kernel
theorem dX9_marksAsSets_54 : decode cX9_marksAsSets 54 = .ok (.iastore, 1) := by decide +kernel
theorem dX9_marksAsSets_55 : decode cX9_marksAsSets 55 = .ok (.iinc 3 1, 3) := by decide +kernel
theorem dX9_marksAsSets_58 : decode cX9_marksAsSets 58 = .ok (.goto (-49), 3) := by decide +kernel
theorem dX9_marksAsSets_61 : decode cX9_marksAsSets 61 = .ok (.return_, 1) := by decide +kernel
theorem dX9_hint_0 : decode cX9_hint 0 = .ok (.aload_n 0, 1) := by decide +kernel
theorem dX9_hint_1 : decode cX9_hint 1 = .ok (.iload_n 1, 1) := by decide +kernel
theorem dX9_hint_2 : decode cX9_hint 2 = .ok (.invokevirtual 216, 3) := by decide +kernel
theorem dX9_hint_5 : decode cX9_hint 5 = .ok (.ifCond .ne 5, 3) := by decide +kernel
theorem dX9_hint_8 : decode cX9_hint 8 = .ok (.iconst (-1), 1) := by decide +kernel
theorem dX9_hint_9 : decode cX9_hint 9 = .ok (.ireturn, 1) := by decide +kernel
theorem dX9_hint_10 : decode cX9_hint 10 = .ok (.aload_n 0, 1) := by decide +kernel
theorem dX9_hint_11 : decode cX9_hint 11 = .ok (.getfield 65, 3) := by decide +kernel
theorem dX9_hint_14 : decode cX9_hint 14 = .ok (.iload_n 1, 1) := by decide +kernel
theorem dX9_hint_15 : decode cX9_hint 15 = .ok (.iaload, 1) := by decide +kernel
theorem dX9_hint_16 : decode cX9_hint 16 = .ok (.istore_n 2, 1) := by decide +kernel
theorem dX9_hint_17 : decode cX9_hint 17 = .ok (.aload_n 0, 1) := by decide +kernel
theorem dX9_hint_18 : decode cX9_hint 18 = .ok (.iload_n 1, 1) := by decide +kernel
theorem dX9_hint_19 : decode cX9_hint 19 = .ok (.invokevirtual 219, 3) := by decide +kernel
theorem dX9_hint_22 : decode cX9_hint 22 = .ok (.iconst 0, 1) := by decide +kernel
theorem dX9_hint_23 : decode cX9_hint 23 = .ok (.istore_n 3, 1) := by decide +kernel
theorem dX9_hint_24 : decode cX9_hint 24 = .ok (.iload_n 3, 1) := by decide +kernel
theorem dX9_hint_25 : decode cX9_hint 25 = .ok (.aload_n 0, 1) := by decide +kernel
theorem dX9_hint_26 : decode cX9_hint 26 = .ok (.iload_n 2, 1) := by decide +kernel
theorem dX9_hint_27 : decode cX9_hint 27 = .ok (.invokevirtual 104, 3) := by decide +kernel
theorem dX9_hint_30 : decode cX9_hint 30 = .ok (.if_icmp .ge 142, 3) := by decide +kernel
theorem dX9_hint_33 : decode cX9_hint 33 = .ok (.aload_n 0, 1) := by decide +kernel
theorem dX9_hint_34 : decode cX9_hint 34 = .ok (.iload_n 2, 1) := by decide +kernel
theorem dX9_hint_35 : decode cX9_hint 35 = .ok (.iload_n 3, 1) := by decide +kernel
theorem dX9_hint_36 : decode cX9_hint 36 = .ok (.iconst 0, 1) := by decide +kernel
theorem dX9_hint_37 : decode cX9_hint 37 = .ok (.invokevirtual 150, 3) := by decide +kernel
theorem dX9_hint_40 : decode cX9_hint 40 = .ok (.ifCond .ne 18, 3) := by decide +kernel
theorem dX9_hint_43 : decode cX9_hint 43 = .ok (.aload_n 0, 1) := by decide +kernel
theorem dX9_hint_44 : decode cX9_hint 44 = .ok (.getfield 77, 3) := by decide +kernel
theorem dX9_hint_47 : decode cX9_hint 47 = .ok (.iload_n 1, 1) := by decide +kernel
theorem dX9_hint_48 : decode cX9_hint 48 = .ok (.dup2, 1) := by decide +kernel
theorem dX9_hint_49 : decode cX9_hint 49 = .ok (.iaload, 1) := by decide +kernel
theorem dX9_hint_50 : decode cX9_hint 50 = .ok (.iconst 1, 1) := by decide +kernel
theorem dX9_hint_51 : decode cX9_hint 51 = .ok (.iadd, 1) := by decide +kernel
theorem dX9_hint_52 : decode cX9_hint 52 = .ok (.iastore, 1) := by decide +kernel
theorem dX9_hint_53 : decode cX9_hint 53 = .ok (.bipush (-2), 2) := by decide +kernel
theorem dX9_hint_55 : decode cX9_hint 55 = .ok (.iload_n 3, 1) := by decide +kernel
theorem dX9_hint_56 : decode cX9_hint 56 = .ok (.isub, 1) := by decide +kernel
theorem dX9_hint_57 : decode cX9_hint 57 = .ok (.ireturn, 1) := by decide +kernel
theorem dX9_hint_58 : decode cX9_hint 58 = .ok (.iconst 0, 1) := by decide +kernel
theorem dX9_hint_59 : decode cX9_hint 59 = .ok (.istore 4, 2) := by decide +kernel
theorem dX9_hint_61 : decode cX9_hint 61 = .ok (.iload 4, 2) := by decide +kernel
theorem dX9_hint_63 : decode cX9_hint 63 = .ok (.aload_n 0, 1) := by decide +kernel
theorem dX9_hint_64 : decode cX9_hint 64 = .ok (.getfield 134, 3) := by decide +kernel
theorem dX9_hint_67 : decode cX9_hint 67 = .ok (.if_icmp .ge 99, 3) := by decide +kernel
theorem dX9_hint_70 : decode cX9_hint 70 = .ok (.aload_n 0, 1) := by decide +kernel
theorem dX9_hint_71 : decode cX9_hint 71 = .ok (.getfield 47, 3) := by decide +kernel
theorem dX9_hint_74 : decode cX9_hint 74 = .ok (.iload 4, 2) := by decide +kernel
theorem dX9_hint_76 : decode cX9_hint 76 = .ok (.iaload, 1) := by decide +kernel
theorem dX9_hint_77 : decode cX9_hint 77 = .ok (.aload_n 0, 1) := by decide +kernel
theorem dX9_hint_78 : decode cX9_hint 78 = .ok (.getfield 44, 3) := by decide +kernel
theorem dX9_hint_81 : decode cX9_hint 81 = .ok (.iload 4, 2) := by decide +kernel
theorem dX9_hint_83 : decode cX9_hint 83 = .ok (.iaload, 1) := by decide +kernel
theorem dX9_hint_84 : decode cX9_hint 84 = .ok (.iand, 1) := by decide +kernel
theorem dX9_hint_85 : decode cX9_hint 85 = .ok (.istore 5, 2) := by decide +kernel
theorem dX9_hint_87 : decode cX9_hint 87 = .ok (.aload_n 0, 1) := by decide +kernel
theorem dX9_hint_88 : decode cX9_hint 88 = .ok (.getfield 68, 3) := by decide +kernel
theorem dX9_hint_91 : decode cX9_hint 91 = .ok (.bipush 100, 2) := by decide +kernel
theorem dX9_hint_93 : decode cX9_hint 93 = .ok (.iload_n 1, 1) := by decide +kernel
theorem dX9_hint_94 : decode cX9_hint 94 = .ok (.imul, 1) := by decide +kernel
theorem dX9_hint_95 : decode cX9_hint 95 = .ok (.aload_n 0, 1) := by decide +kernel
theorem dX9_hint_96 : decode cX9_hint 96 = .ok (.getfield 41, 3) := by decide +kernel
theorem dX9_hint_99 : decode cX9_hint 99 = .ok (.iload 4, 2) := by decide +kernel
theorem dX9_hint_101 : decode cX9_hint 101 = .ok (.iaload, 1) := by decide +kernel
theorem dX9_hint_102 : decode cX9_hint 102 = .ok (.iadd, 1) := by decide +kernel
theorem dX9_hint_103 : decode cX9_hint 103 = .ok (.iaload, 1) := by decide +kernel
theorem dX9_hint_104 : decode cX9_hint 104 = .ok (.iconst (-1), 1) := by decide +kernel
theorem dX9_hint_105 : decode cX9_hint 105 = .ok (.if_icmp .ne 55, 3) := by decide +kernel
theorem dX9_hint_108 : decode cX9_hint 108 = .ok (.iload 5, 2) := by decide +kernel
theorem dX9_hint_110 : decode cX9_hint 110 = .ok (.invokestatic 128, 3) := by decide +kernel
theorem dX9_hint_113 : decode cX9_hint 113 = .ok (.ifCond .ne 6, 3) := by decide +kernel
theorem dX9_hint_116 : decode cX9_hint 116 = .ok (.goto 44, 3) := by decide +kernel
theorem dX9_hint_119 : decode cX9_hint 119 = .ok (.iconst 0, 1) := by decide +kernel
theorem dX9_hint_120 : decode cX9_hint 120 = .ok (.istore 6, 2) := by decide +kernel
theorem dX9_hint_122 : decode cX9_hint 122 = .ok (.iload 5, 2) := by decide +kernel
theorem dX9_hint_124 : decode cX9_hint 124 = .ok (.iload 6, 2) := by decide +kernel
theorem dX9_hint_126 : decode cX9_hint 126 = .ok (.ishr, 1) := by decide +kernel
theorem dX9_hint_127 : decode cX9_hint 127 = .ok (.iconst 1, 1) := by decide +kernel
theorem dX9_hint_128 : decode cX9_hint 128 = .ok (.if_icmp .le 9, 3) := by decide +kernel
theorem dX9_hint_131 : decode cX9_hint 131 = .ok (.iinc 6 1, 3) := by decide +kernel
theorem dX9_hint_134 : decode cX9_hint 134 = .ok (.goto (-12), 3) := by decide +kernel
theorem dX9_hint_137 : decode cX9_hint 137 = .ok (.aload_n 0, 1) := by decide +kernel
theorem dX9_hint_138 : decode cX9_hint 138 = .ok (.getfield 77, 3) := by decide +kernel
theorem dX9_hint_141 : decode cX9_hint 141 = .ok (.iload_n 1, 1) := by decide +kernel
theorem dX9_hint_142 : decode cX9_hint 142 = .ok (.dup2, 1) := by decide +kernel
theorem dX9_hint_143 : decode cX9_hint 143 = .ok (.iaload, 1) := by decide +kernel
theorem dX9_hint_144 : decode cX9_hint 144 = .ok (.iconst 1, 1) := by decide +kernel
theorem dX9_hint_145 : decode cX9_hint 145 = .ok (.iadd, 1) := by decide +kernel
theorem dX9_hint_146 : decode cX9_hint 146 = .ok (.iastore, 1) := by decide +kernel
theorem dX9_hint_147 : decode cX9_hint 147 = .ok (.iconst 4, 1) := by decide +kernel
theorem dX9_hint_148 : decode cX9_hint 148 = .ok (.aload_n 0, 1) := by decide +kernel
theorem dX9_hint_149 : decode cX9_hint 149 = .ok (.getfield 41, 3) := by decide +kernel
theorem dX9_hint_152 : decode cX9_hint 152 = .ok (.iload 4, 2) := by decide +kernel
theorem dX9_hint_154 : decode cX9_hint 154 = .ok (.iaload, 1) := by decide +kernel
theorem dX9_hint_155 : decode cX9_hint 155 = .ok (.imul, 1) := by decide +kernel
theorem dX9_hint_156 : decode cX9_hint 156 = .ok (.iload 6, 2) := by decide +kernel
theorem dX9_hint_158 : decode cX9_hint 158 = .ok (.iadd, 1) := by decide +kernel
theorem dX9_hint_159 : decode cX9_hint 159 = .ok (.ireturn, 1) := by decide +kernel
theorem dX9_hint_160 : decode cX9_hint 160 = .ok (.iinc 4 1, 3) := by decide +kernel
theorem dX9_hint_163 : decode cX9_hint 163 = .ok (.goto (-102), 3) := by decide +kernel
theorem dX9_hint_166 : decode cX9_hint 166 = .ok (.iinc 3 1, 3) := by decide +kernel
theorem dX9_hint_169 : decode cX9_hint 169 = .ok (.goto (-145), 3) := by decide +kernel
theorem dX9_hint_172 : decode cX9_hint 172 = .ok (.iconst (-1), 1) := by decide +kernel
theorem dX9_hint_173 : decode cX9_hint 173 = .ok (.ireturn, 1) := by decide +kernel
theorem dX9_state_0 : decode cX9_state 0 = .ok (.aload_n 0, 1) := by decide +kernel
theorem dX9_state_1 : decode cX9_state 1 = .ok (.iload_n 1, 1) := by decide +kernel
theorem dX9_state_2 : decode cX9_state 2 = .ok (.invokevirtual 216, 3) := by decide +kernel
theorem dX9_state_5 : decode cX9_state 5 = .ok (.ifCond .ne 5, 3) := by decide +kernel
theorem dX9_state_8 : decode cX9_state 8 = .ok (.iconst (-1), 1) := by decide +kernel
theorem dX9_state_9 : decode cX9_state 9 = .ok (.ireturn, 1) := by decide +kernel
theorem dX9_state_10 : decode cX9_state 10 = .ok (.aload_n 0, 1) := by decide +kernel
theorem dX9_state_11 : decode cX9_state 11 = .ok (.getfield 65, 3) := by decide +kernel
theorem dX9_state_14 : decode cX9_state 14 = .ok (.iload_n 1, 1) := by decide +kernel
theorem dX9_state_15 : decode cX9_state 15 = .ok (.iaload, 1) := by decide +kernel
theorem dX9_state_16 : decode cX9_state 16 = .ok (.istore_n 3, 1) := by decide +kernel
theorem dX9_state_17 : decode cX9_state 17 = .ok (.iconst 0, 1) := by decide +kernel
theorem dX9_state_18 : decode cX9_state 18 = .ok (.istore 4, 2) := by decide +kernel
theorem dX9_state_20 : decode cX9_state 20 = .ok (.iconst 0, 1) := by decide +kernel
theorem dX9_state_21 : decode cX9_state 21 = .ok (.istore 5, 2) := by decide +kernel
theorem dX9_state_23 : decode cX9_state 23 = .ok (.iload 5, 2) := by decide +kernel
theorem dX9_state_25 : decode cX9_state 25 = .ok (.aload_n 0, 1) := by decide +kernel
theorem dX9_state_26 : decode cX9_state 26 = .ok (.iload_n 3, 1) := by decide +kernel
theorem dX9_state_27 : decode cX9_state 27 = .ok (.invokevirtual 108, 3) := by decide +kernel
theorem dX9_state_30 : decode cX9_state 30 = .ok (.if_icmp .ge 35, 3) := by decide +kernel
theorem dX9_state_33 : decode cX9_state 33 = .ok (.iload 4, 2) := by decide +kernel
theorem dX9_state_35 : decode cX9_state 35 = .ok (.aload_n 0, 1) := by decide +kernel
theorem dX9_state_36 : decode cX9_state 36 = .ok (.getfield 68, 3) := by decide +kernel
theorem dX9_state_39 : decode cX9_state 39 = .ok (.bipush 100, 2) := by decide +kernel
theorem dX9_state_41 : decode cX9_state 41 = .ok (.iload_n 1, 1) := by decide +kernel
theorem dX9_state_42 : decode cX9_state 42 = .ok (.imul, 1) := by decide +kernel
theorem dX9_state_43 : decode cX9_state 43 = .ok (.iload 5, 2) := by decide +kernel
theorem dX9_state_45 : decode cX9_state 45 = .ok (.iadd, 1) := by decide +kernel
theorem dX9_state_46 : decode cX9_state 46 = .ok (.iaload, 1) := by decide +kernel
theorem dX9_state_47 : decode cX9_state 47 = .ok (.iconst (-1), 1) := by decide +kernel
theorem dX9_state_48 : decode cX9_state 48 = .ok (.if_icmp .eq 7, 3) := by decide +kernel
theorem dX9_state_51 : decode cX9_state 51 = .ok (.iconst 1, 1) := by decide +kernel
theorem dX9_state_52 : decode cX9_state 52 = .ok (.goto 4, 3) := by decide +kernel
theorem dX9_state_55 : decode cX9_state 55 = .ok (.iconst 0, 1) := by decide +kernel
theorem dX9_state_56 : decode cX9_state 56 = .ok (.iadd, 1) := by decide +kernel
theorem dX9_state_57 : decode cX9_state 57 = .ok (.istore 4, 2) := by decide +kernel
theorem dX9_state_59 : decode cX9_state 59 = .ok (.iinc 5 1, 3) := by decide +kernel
theorem dX9_state_62 : decode cX9_state 62 = .ok (.goto (-39), 3) := by decide +kernel
theorem dX9_state_65 : decode cX9_state 65 = .ok (.iconst 0, 1) := by decide +kernel
theorem dX9_state_66 : decode cX9_state 66 = .ok (.istore 5, 2) := by decide +kernel
theorem dX9_state_68 : decode cX9_state 68 = .ok (.aload_n 0, 1) := by decide +kernel
theorem dX9_state_69 : decode cX9_state 69 = .ok (.iload_n 1, 1) := by decide +kernel
theorem dX9_state_70 : decode cX9_state 70 = .ok (.invokevirtual 219, 3) := by decide +kernel
theorem dX9_state_73 : decode cX9_state 73 = .ok (.iconst 0, 1) := by decide +kernel
theorem dX9_state_74 : decode cX9_state 74 = .ok (.istore 6, 2) := by decide +kernel
theorem dX9_state_76 : decode cX9_state 76 = .ok (.iload 6, 2) := by decide +kernel
theorem dX9_state_78 : decode cX9_state 78 = .ok (.aload_n 0, 1) := by decide +kernel
theorem dX9_state_79 : decode cX9_state 79 = .ok (.iload_n 3, 1) := by decide +kernel
theorem dX9_state_80 : decode cX9_state 80 = .ok (.invokevirtual 104, 3) := by decide +kernel
theorem dX9_state_83 : decode cX9_state 83 = .ok (.if_icmp .ge 30, 3) := by decide +kernel
theorem dX9_state_86 : decode cX9_state 86 = .ok (.iload 5, 2) := by decide +kernel
theorem dX9_state_88 : decode cX9_state 88 = .ok (.aload_n 0, 1) := by decide +kernel
theorem dX9_state_89 : decode cX9_state 89 = .ok (.iload_n 3, 1) := by decide +kernel
theorem dX9_state_90 : decode cX9_state 90 = .ok (.iload 6, 2) := by decide +kernel
theorem dX9_state_92 : decode cX9_state 92 = .ok (.iconst 0, 1) := by decide +kernel
theorem dX9_state_93 : decode cX9_state 93 = .ok (.invokevirtual 150, 3) := by decide +kernel
theorem dX9_state_96 : decode cX9_state 96 = .ok (.ifCond .ne 7, 3) := by decide +kernel
theorem dX9_state_99 : decode cX9_state 99 = .ok (.iconst 1, 1) := by decide +kernel
theorem dX9_state_100 : decode cX9_state 100 = .ok (.goto 4, 3) := by decide +kernel
theorem dX9_state_103 : decode cX9_state 103 = .ok (.iconst 0, 1) := by decide +kernel
theorem dX9_state_104 : decode cX9_state 104 = .ok (.iadd, 1) := by decide +kernel
theorem dX9_state_105 : decode cX9_state 105 = .ok (.istore 5, 2) := by decide +kernel
theorem dX9_state_107 : decode cX9_state 107 = .ok (.iinc 6 1, 3) := by decide +kernel
theorem dX9_state_110 : decode cX9_state 110 = .ok (.goto (-34), 3) := by decide +kernel
theorem dX9_state_113 : decode cX9_state 113 = .ok (.iload_n 2, 1) := by decide +kernel
theorem dX9_state_114 : decode cX9_state 114 = .ok (.tableswitch 99 0 6 #[42, 44, 47, 50, 71, 78, 92], 42) := by decide +kernel
theorem dX9_state_156 : decode cX9_state 156 = .ok (.iload_n 3, 1) := by decide +kernel
theorem dX9_state_157 : decode cX9_state 157 = .ok (.ireturn, 1) := by decide +kernel
theorem dX9_state_158 : decode cX9_state 158 = .ok (.iload 4, 2) := by decide +kernel
theorem dX9_state_160 : decode cX9_state 160 = .ok (.ireturn, 1) := by decide +kernel
theorem dX9_state_161 : decode cX9_state 161 = .ok (.iload 5, 2) := by decide +kernel
theorem dX9_state_163 : decode cX9_state 163 = .ok (.ireturn, 1) := by decide +kernel
theorem dX9_state_164 : decode cX9_state 164 = .ok (.iload 4, 2) := by decide +kernel
theorem dX9_state_166 : decode cX9_state 166 = .ok (.aload_n 0, 1) := by decide +kernel
theorem dX9_state_167 : decode cX9_state 167 = .ok (.iload_n 3, 1) := by decide +kernel
theorem dX9_state_168 : decode cX9_state 168 = .ok (.invokevirtual 108, 3) := by decide +kernel
theorem dX9_state_171 : decode cX9_state 171 = .ok (.if_icmp .ne 12, 3) := by decide +kernel
theorem dX9_state_174 : decode cX9_state 174 = .ok (.iload 5, 2) := by decide +kernel
theorem dX9_state_176 : decode cX9_state 176 = .ok (.ifCond .ne 7, 3) := by decide +kernel
theorem dX9_state_179 : decode cX9_state 179 = .ok (.iconst 1, 1) := by decide +kernel
theorem dX9_state_180 : decode cX9_state 180 = .ok (.goto 4, 3) := by decide +kernel
theorem dX9_state_183 : decode cX9_state 183 = .ok (.iconst 0, 1) := by decide +kernel
theorem dX9_state_184 : decode cX9_state 184 = .ok (.ireturn, 1) := by decide +kernel
theorem dX9_state_185 : decode cX9_state 185 = .ok (.aload_n 0, 1) := by decide +kernel
theorem dX9_state_186 : decode cX9_state 186 = .ok (.getfield 71, 3) := by decide +kernel
theorem dX9_state_189 : decode cX9_state 189 = .ok (.iload_n 1, 1) := by decide +kernel
theorem dX9_state_190 : decode cX9_state 190 = .ok (.iaload, 1) := by decide +kernel
theorem dX9_state_191 : decode cX9_state 191 = .ok (.ireturn, 1) := by decide +kernel
theorem dX9_state_192 : decode cX9_state 192 = .ok (.aload_n 0, 1) := by decide +kernel
theorem dX9_state_193 : decode cX9_state 193 = .ok (.getfield 74, 3) := by decide +kernel
theorem dX9_state_196 : decode cX9_state 196 = .ok (.iload_n 1, 1) := by decide +kernel
theorem dX9_state_197 : decode cX9_state 197 = .ok (.iaload, 1) := by decide +kernel
theorem dX9_state_198 : decode cX9_state 198 = .ok (.aload_n 0, 1) := by decide +kernel
theorem dX9_state_199 : decode cX9_state 199 = .ok (.getfield 71, 3) := by decide +kernel
theorem dX9_state_202 : decode cX9_state 202 = .ok (.iload_n 1, 1) := by decide +kernel
theorem dX9_state_203 : decode cX9_state 203 = .ok (.iaload, 1) := by decide +kernel
theorem dX9_state_204 : decode cX9_state 204 = .ok (.isub, 1) := by decide +kernel
theorem dX9_state_205 : decode cX9_state 205 = .ok (.ireturn, 1) := by decide +kernel
theorem dX9_state_206 : decode cX9_state 206 = .ok (.aload_n 0, 1) := by decide +kernel
theorem dX9_state_207 : decode cX9_state 207 = .ok (.getfield 77, 3) := by decide +kernel
theorem dX9_state_210 : decode cX9_state 210 = .ok (.iload_n 1, 1) := by decide +kernel
theorem dX9_state_211 : decode cX9_state 211 = .ok (.iaload, 1) := by decide +kernel
theorem dX9_state_212 : decode cX9_state 212 = .ok (.ireturn, 1) := by decide +kernel
theorem dX9_state_213 : decode cX9_state 213 = .ok (.iconst (-1), 1) := by decide +kernel
theorem dX9_state_214 : decode cX9_state 214 = .ok (.ireturn, 1) := by decide +kernel
theorem dX9_sign_0 : decode cX9_sign 0 = .ok (.aload_n 0, 1) := by decide +kernel
theorem dX9_sign_1 : decode cX9_sign 1 = .ok (.getfield 89, 3) := by decide +kernel
theorem dX9_sign_4 : decode cX9_sign 4 = .ok (.aload_n 0, 1) := by decide +kernel
theorem dX9_sign_5 : decode cX9_sign 5 = .ok (.getfield 223, 3) := by decide +kernel
theorem dX9_sign_8 : decode cX9_sign 8 = .ok (.iload_n 1, 1) := by decide +kernel
theorem dX9_sign_9 : decode cX9_sign 9 = .ok (.iastore, 1) := by decide +kernel
theorem dX9_sign_10 : decode cX9_sign 10 = .ok (.aload_n 0, 1) := by decide +kernel
theorem dX9_sign_11 : decode cX9_sign 11 = .ok (.dup, 1) := by decide +kernel
theorem dX9_sign_12 : decode cX9_sign 12 = .ok (.getfield 223, 3) := by decide +kernel
theorem dX9_sign_15 : decode cX9_sign 15 = .ok (.iconst 1, 1) := by decide +kernel
theorem dX9_sign_16 : decode cX9_sign 16 = .ok (.iadd, 1) := by decide +kernel
theorem dX9_sign_17 : decode cX9_sign 17 = .ok (.putfield 223, 3) := by decide +kernel
theorem dX9_sign_20 : decode cX9_sign 20 = .ok (.return_, 1) := by decide +kernel
theorem dX9_write_0 : decode cX9_write 0 = .ok (.aload_n 0, 1) := by decide +kernel
theorem dX9_write_1 : decode cX9_write 1 = .ok (.iload_n 1, 1) := by decide +kernel
theorem dX9_write_2 : decode cX9_write 2 = .ok (.iload_n 2, 1) := by decide +kernel
theorem dX9_write_3 : decode cX9_write 3 = .ok (.invokevirtual 117, 3) := by decide +kernel
theorem dX9_write_6 : decode cX9_write 6 = .ok (.ifCond .ne 5, 3) := by decide +kernel
theorem dX9_write_9 : decode cX9_write 9 = .ok (.iconst (-1), 1) := by decide +kernel
theorem dX9_write_10 : decode cX9_write 10 = .ok (.ireturn, 1) := by decide +kernel
theorem dX9_write_11 : decode cX9_write 11 = .ok (.aload_n 0, 1) := by decide +kernel
theorem dX9_write_12 : decode cX9_write 12 = .ok (.iconst 0, 1) := by decide +kernel
theorem dX9_write_13 : decode cX9_write 13 = .ok (.putfield 223, 3) := by decide +kernel
theorem dX9_write_16 : decode cX9_write 16 = .ok (.aload_n 0, 1) := by decide +kernel
theorem dX9_write_17 : decode cX9_write 17 = .ok (.getfield 23, 3) := by decide +kernel
theorem dX9_write_20 : decode cX9_write 20 = .ok (.bipush 20, 2) := by decide +kernel
theorem dX9_write_22 : decode cX9_write 22 = .ok (.iload_n 1, 1) := by decide +kernel
theorem dX9_write_23 : decode cX9_write 23 = .ok (.imul, 1) := by decide +kernel
theorem dX9_write_24 : decode cX9_write 24 = .ok (.iload_n 2, 1) := by decide +kernel
theorem dX9_write_25 : decode cX9_write 25 = .ok (.iadd, 1) := by decide +kernel
theorem dX9_write_26 : decode cX9_write 26 = .ok (.iaload, 1) := by decide +kernel
theorem dX9_write_27 : decode cX9_write 27 = .ok (.istore_n 3, 1) := by decide +kernel
theorem dX9_write_28 : decode cX9_write 28 = .ok (.iload_n 3, 1) := by decide +kernel
theorem dX9_write_29 : decode cX9_write 29 = .ok (.ifCond .ne 9, 3) := by decide +kernel
theorem dX9_write_32 : decode cX9_write 32 = .ok (.aload_n 0, 1) := by decide +kernel
theorem dX9_write_33 : decode cX9_write 33 = .ok (.bipush 48, 2) := by decide +kernel
theorem dX9_write_35 : decode cX9_write 35 = .ok (.invokevirtual 226, 3) := by decide +kernel
theorem dX9_write_38 : decode cX9_write 38 = .ok (.iconst 0, 1) := by decide +kernel
theorem dX9_write_39 : decode cX9_write 39 = .ok (.istore 4, 2) := by decide +kernel
theorem dX9_write_41 : decode cX9_write 41 = .ok (.iload 4, 2) := by decide +kernel
theorem dX9_write_43 : decode cX9_write 43 = .ok (.iload_n 3, 1) := by decide +kernel
theorem dX9_write_44 : decode cX9_write 44 = .ok (.if_icmp .ge 90, 3) := by decide +kernel
theorem dX9_write_47 : decode cX9_write 47 = .ok (.aload_n 0, 1) := by decide +kernel
theorem dX9_write_48 : decode cX9_write 48 = .ok (.getfield 29, 3) := by decide +kernel
theorem dX9_write_51 : decode cX9_write 51 = .ok (.aload_n 0, 1) := by decide +kernel
theorem dX9_write_52 : decode cX9_write 52 = .ok (.iload_n 1, 1) := by decide +kernel
theorem dX9_write_53 : decode cX9_write 53 = .ok (.iload_n 2, 1) := by decide +kernel
theorem dX9_write_54 : decode cX9_write 54 = .ok (.invokevirtual 121, 3) := by decide +kernel
theorem dX9_write_57 : decode cX9_write 57 = .ok (.iload 4, 2) := by decide +kernel
theorem dX9_write_59 : decode cX9_write 59 = .ok (.iadd, 1) := by decide +kernel
theorem dX9_write_60 : decode cX9_write 60 = .ok (.iaload, 1) := by decide +kernel
theorem dX9_write_61 : decode cX9_write 61 = .ok (.istore 5, 2) := by decide +kernel
theorem dX9_write_63 : decode cX9_write 63 = .ok (.iload 4, 2) := by decide +kernel
theorem dX9_write_65 : decode cX9_write 65 = .ok (.ifCond .le 9, 3) := by decide +kernel
theorem dX9_write_68 : decode cX9_write 68 = .ok (.aload_n 0, 1) := by decide +kernel
theorem dX9_write_69 : decode cX9_write 69 = .ok (.bipush 32, 2) := by decide +kernel
theorem dX9_write_71 : decode cX9_write 71 = .ok (.invokevirtual 226, 3) := by decide +kernel
theorem dX9_write_74 : decode cX9_write 74 = .ok (.iload 5, 2) := by decide +kernel
theorem dX9_write_76 : decode cX9_write 76 = .ok (.bipush 9, 2) := by decide +kernel
theorem dX9_write_78 : decode cX9_write 78 = .ok (.if_icmp .le 15, 3) := by decide +kernel
theorem dX9_write_81 : decode cX9_write 81 = .ok (.aload_n 0, 1) := by decide +kernel
theorem dX9_write_82 : decode cX9_write 82 = .ok (.bipush 48, 2) := by decide +kernel
theorem dX9_write_84 : decode cX9_write 84 = .ok (.iload 5, 2) := by decide +kernel
theorem dX9_write_86 : decode cX9_write 86 = .ok (.bipush 10, 2) := by decide +kernel
theorem dX9_write_88 : decode cX9_write 88 = .ok (.idiv, 1) := by decide +kernel
theorem dX9_write_89 : decode cX9_write 89 = .ok (.iadd, 1) := by decide +kernel
theorem dX9_write_90 : decode cX9_write 90 = .ok (.invokevirtual 226, 3) := by decide +kernel
theorem dX9_write_93 : decode cX9_write 93 = .ok (.aload_n 0, 1) := by decide +kernel
theorem dX9_write_94 : decode cX9_write 94 = .ok (.bipush 48, 2) := by decide +kernel
theorem dX9_write_96 : decode cX9_write 96 = .ok (.iload 5, 2) := by decide +kernel
theorem dX9_write_98 : decode cX9_write 98 = .ok (.bipush 10, 2) := by decide +kernel
theorem dX9_write_100 : decode cX9_write 100 = .ok (.irem, 1) := by decide +kernel
theorem dX9_write_101 : decode cX9_write 101 = .ok (.iadd, 1) := by decide +kernel
theorem dX9_write_102 : decode cX9_write 102 = .ok (.invokevirtual 226, 3) := by decide +kernel
theorem dX9_write_105 : decode cX9_write 105 = .ok (.aload_n 0, 1) := by decide +kernel
theorem dX9_write_106 : decode cX9_write 106 = .ok (.bipush 97, 2) := by decide +kernel
theorem dX9_write_108 : decode cX9_write 108 = .ok (.aload_n 0, 1) := by decide +kernel
theorem dX9_write_109 : decode cX9_write 109 = .ok (.getfield 26, 3) := by decide +kernel
theorem dX9_write_112 : decode cX9_write 112 = .ok (.aload_n 0, 1) := by decide +kernel
theorem dX9_write_113 : decode cX9_write 113 = .ok (.iload_n 1, 1) := by decide +kernel
theorem dX9_write_114 : decode cX9_write 114 = .ok (.iload_n 2, 1) := by decide +kernel
theorem dX9_write_115 : decode cX9_write 115 = .ok (.invokevirtual 121, 3) := by decide +kernel
theorem dX9_write_118 : decode cX9_write 118 = .ok (.iload 4, 2) := by decide +kernel
theorem dX9_write_120 : decode cX9_write 120 = .ok (.iadd, 1) := by decide +kernel
theorem dX9_write_121 : decode cX9_write 121 = .ok (.iaload, 1) := by decide +kernel
theorem dX9_write_122 : decode cX9_write 122 = .ok (.iadd, 1) := by decide +kernel
theorem dX9_write_123 : decode cX9_write 123 = .ok (.iconst 1, 1) := by decide +kernel
theorem dX9_write_124 : decode cX9_write 124 = .ok (.isub, 1) := by decide +kernel
theorem dX9_write_125 : decode cX9_write 125 = .ok (.invokevirtual 226, 3) := by decide +kernel
theorem dX9_write_128 : decode cX9_write 128 = .ok (.iinc 4 1, 3) := by decide +kernel
theorem dX9_write_131 : decode cX9_write 131 = .ok (.goto (-90), 3) := by decide +kernel
theorem dX9_write_134 : decode cX9_write 134 = .ok (.aload_n 0, 1) := by decide +kernel
theorem dX9_write_135 : decode cX9_write 135 = .ok (.getfield 223, 3) := by decide +kernel
theorem dX9_write_138 : decode cX9_write 138 = .ok (.ireturn, 1) := by decide +kernel
theorem dX9_out_0 : decode cX9_out 0 = .ok (.iload_n 1, 1) := by decide +kernel
theorem dX9_out_1 : decode cX9_out 1 = .ok (.iconst 0, 1) := by decide +kernel
theorem dX9_out_2 : decode cX9_out 2 = .ok (.aload_n 0, 1) := by decide +kernel
theorem dX9_out_3 : decode cX9_out 3 = .ok (.getfield 223, 3) := by decide +kernel
theorem dX9_out_6 : decode cX9_out 6 = .ok (.iconst 1, 1) := by decide +kernel
theorem dX9_out_7 : decode cX9_out 7 = .ok (.isub, 1) := by decide +kernel
theorem dX9_out_8 : decode cX9_out 8 = .ok (.invokestatic 96, 3) := by decide +kernel
theorem dX9_out_11 : decode cX9_out 11 = .ok (.ifCond .eq 12, 3) := by decide +kernel
theorem dX9_out_14 : decode cX9_out 14 = .ok (.aload_n 0, 1) := by decide +kernel
theorem dX9_out_15 : decode cX9_out 15 = .ok (.getfield 89, 3) := by decide +kernel
theorem dX9_out_18 : decode cX9_out 18 = .ok (.iload_n 1, 1) := by decide +kernel
theorem dX9_out_19 : decode cX9_out 19 = .ok (.iaload, 1) := by decide +kernel
theorem dX9_out_20 : decode cX9_out 20 = .ok (.goto 4, 3) := by decide +kernel
theorem dX9_out_23 : decode cX9_out 23 = .ok (.iconst (-1), 1) := by decide +kernel
theorem dX9_out_24 : decode cX9_out 24 = .ok (.ireturn, 1) := by decide +kernel
theorem dX9_count_0 : decode cX9_count 0 = .ok (.iload_n 1, 1) := by decide +kernel
theorem dX9_count_1 : decode cX9_count 1 = .ok (.ifCond .ne 10, 3) := by decide +kernel
theorem dX9_count_4 : decode cX9_count 4 = .ok (.aload_n 0, 1) := by decide +kernel
theorem dX9_count_5 : decode cX9_count 5 = .ok (.getfield 92, 3) := by decide +kernel
theorem dX9_count_8 : decode cX9_count 8 = .ok (.goto 16, 3) := by decide +kernel
theorem dX9_count_11 : decode cX9_count 11 = .ok (.iload_n 1, 1) := by decide +kernel
theorem dX9_count_12 : decode cX9_count 12 = .ok (.iconst 1, 1) := by decide +kernel
theorem dX9_count_13 : decode cX9_count 13 = .ok (.if_icmp .ne 10, 3) := by decide +kernel
theorem dX9_count_16 : decode cX9_count 16 = .ok (.aload_n 0, 1) := by decide +kernel
theorem dX9_count_17 : decode cX9_count 17 = .ok (.getfield 213, 3) := by decide +kernel
theorem dX9_count_20 : decode cX9_count 20 = .ok (.goto 4, 3) := by decide +kernel
theorem dX9_count_23 : decode cX9_count 23 = .ok (.iconst (-1), 1) := by decide +kernel
theorem dX9_count_24 : decode cX9_count 24 = .ok (.ireturn, 1) := by decide +kernel
