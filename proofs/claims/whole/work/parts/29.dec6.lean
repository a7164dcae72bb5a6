theorem dX6_init_0 : decode cX6_init 0 = .ok (.aload_n 0, 1) := by decide +kernel
theorem dX6_init_1 : decode cX6_init 1 = .ok (.invokespecial 1, 3) := by decide +kernel
theorem dX6_init_4 : decode cX6_init 4 = .ok (.aload_n 0, 1) := by decide +kernel
theorem dX6_init_5 : decode cX6_init 5 = .ok (.bipush 12, 2) := by decide +kernel
theorem dX6_init_7 : decode cX6_init 7 = .ok (.newarray .int, 2) := by decide +kernel
theorem dX6_init_9 : decode cX6_init 9 = .ok (.putfield 7, 3) := by decide +kernel
theorem dX6_init_12 : decode cX6_init 12 = .ok (.aload_n 0, 1) := by decide +kernel
theorem dX6_init_13 : decode cX6_init 13 = .ok (.bipush 12, 2) := by decide +kernel
theorem dX6_init_15 : decode cX6_init 15 = .ok (.newarray .int, 2) := by decide +kernel
theorem dX6_init_17 : decode cX6_init 17 = .ok (.putfield 13, 3) := by decide +kernel
theorem dX6_init_20 : decode cX6_init 20 = .ok (.aload_n 0, 1) := by decide +kernel
theorem dX6_init_21 : decode cX6_init 21 = .ok (.bipush 16, 2) := by decide +kernel
theorem dX6_init_23 : decode cX6_init 23 = .ok (.newarray .int, 2) := by decide +kernel
theorem dX6_init_25 : decode cX6_init 25 = .ok (.putfield 16, 3) := by decide +kernel
theorem dX6_init_28 : decode cX6_init 28 = .ok (.aload_n 0, 1) := by decide +kernel
theorem dX6_init_29 : decode cX6_init 29 = .ok (.sipush 192, 3) := by decide +kernel
theorem dX6_init_32 : decode cX6_init 32 = .ok (.newarray .int, 2) := by decide +kernel
theorem dX6_init_34 : decode cX6_init 34 = .ok (.putfield 19, 3) := by decide +kernel
theorem dX6_init_37 : decode cX6_init 37 = .ok (.aload_n 0, 1) := by decide +kernel
theorem dX6_init_38 : decode cX6_init 38 = .ok (.sipush 192, 3) := by decide +kernel
theorem dX6_init_41 : decode cX6_init 41 = .ok (.newarray .int, 2) := by decide +kernel
theorem dX6_init_43 : decode cX6_init 43 = .ok (.putfield 22, 3) := by decide +kernel
theorem dX6_init_46 : decode cX6_init 46 = .ok (.aload_n 0, 1) := by decide +kernel
theorem dX6_init_47 : decode cX6_init 47 = .ok (.bipush 16, 2) := by decide +kernel
theorem dX6_init_49 : decode cX6_init 49 = .ok (.newarray .int, 2) := by decide +kernel
theorem dX6_init_51 : decode cX6_init 51 = .ok (.putfield 25, 3) := by decide +kernel
theorem dX6_init_54 : decode cX6_init 54 = .ok (.aload_n 0, 1) := by decide +kernel
theorem dX6_init_55 : decode cX6_init 55 = .ok (.bipush 16, 2) := by decide +kernel
theorem dX6_init_57 : decode cX6_init 57 = .ok (.newarray .int, 2) := by decide +kernel
theorem dX6_init_59 : decode cX6_init 59 = .ok (.putfield 28, 3) := by decide +kernel
theorem dX6_init_62 : decode cX6_init 62 = .ok (.aload_n 0, 1) := by decide +kernel
theorem dX6_init_63 : decode cX6_init 63 = .ok (.bipush 16, 2) := by decide +kernel
theorem dX6_init_65 : decode cX6_init 65 = .ok (.newarray .int, 2) := by decide +kernel
theorem dX6_init_67 : decode cX6_init 67 = .ok (.putfield 31, 3) := by decide +kernel
theorem dX6_init_70 : decode cX6_init 70 = .ok (.aload_n 0, 1) := by decide +kernel
theorem dX6_init_71 : decode cX6_init 71 = .ok (.bipush 16, 2) := by decide +kernel
theorem dX6_init_73 : decode cX6_init 73 = .ok (.newarray .int, 2) := by decide +kernel
theorem dX6_init_75 : decode cX6_init 75 = .ok (.putfield 34, 3) := by decide +kernel
theorem dX6_init_78 : decode cX6_init 78 = .ok (.aload_n 0, 1) := by decide +kernel
theorem dX6_init_79 : decode cX6_init 79 = .ok (.bipush 16, 2) := by decide +kernel
theorem dX6_init_81 : decode cX6_init 81 = .ok (.newarray .int, 2) := by decide +kernel
theorem dX6_init_83 : decode cX6_init 83 = .ok (.putfield 37, 3) := by decide +kernel
theorem dX6_init_86 : decode cX6_init 86 = .ok (.aload_n 0, 1) := by decide +kernel
theorem dX6_init_87 : decode cX6_init 87 = .ok (.bipush 64, 2) := by decide +kernel
theorem dX6_init_89 : decode cX6_init 89 = .ok (.newarray .int, 2) := by decide +kernel
theorem dX6_init_91 : decode cX6_init 91 = .ok (.putfield 40, 3) := by decide +kernel
theorem dX6_init_94 : decode cX6_init 94 = .ok (.aload_n 0, 1) := by decide +kernel
theorem dX6_init_95 : decode cX6_init 95 = .ok (.bipush 64, 2) := by decide +kernel
theorem dX6_init_97 : decode cX6_init 97 = .ok (.newarray .int, 2) := by decide +kernel
theorem dX6_init_99 : decode cX6_init 99 = .ok (.putfield 43, 3) := by decide +kernel
theorem dX6_init_102 : decode cX6_init 102 = .ok (.aload_n 0, 1) := by decide +kernel
theorem dX6_init_103 : decode cX6_init 103 = .ok (.bipush 16, 2) := by decide +kernel
theorem dX6_init_105 : decode cX6_init 105 = .ok (.newarray .int, 2) := by decide +kernel
theorem dX6_init_107 : decode cX6_init 107 = .ok (.putfield 46, 3) := by decide +kernel
theorem dX6_init_110 : decode cX6_init 110 = .ok (.aload_n 0, 1) := by decide +kernel
theorem dX6_init_111 : decode cX6_init 111 = .ok (.bipush 16, 2) := by decide +kernel
theorem dX6_init_113 : decode cX6_init 113 = .ok (.newarray .int, 2) := by decide +kernel
theorem dX6_init_115 : decode cX6_init 115 = .ok (.putfield 49, 3) := by decide +kernel
theorem dX6_init_118 : decode cX6_init 118 = .ok (.aload_n 0, 1) := by decide +kernel
theorem dX6_init_119 : decode cX6_init 119 = .ok (.sipush 256, 3) := by decide +kernel
theorem dX6_init_122 : decode cX6_init 122 = .ok (.newarray .int, 2) := by decide +kernel
theorem dX6_init_124 : decode cX6_init 124 = .ok (.putfield 52, 3) := by decide +kernel
theorem dX6_init_127 : decode cX6_init 127 = .ok (.aload_n 0, 1) := by decide +kernel
theorem dX6_init_128 : decode cX6_init 128 = .ok (.bipush 16, 2) := by decide +kernel
theorem dX6_init_130 : decode cX6_init 130 = .ok (.newarray .int, 2) := by decide +kernel
theorem dX6_init_132 : decode cX6_init 132 = .ok (.putfield 55, 3) := by decide +kernel
theorem dX6_init_135 : decode cX6_init 135 = .ok (.aload_n 0, 1) := by decide +kernel
theorem dX6_init_136 : decode cX6_init 136 = .ok (.bipush 16, 2) := by decide +kernel
theorem dX6_init_138 : decode cX6_init 138 = .ok (.newarray .int, 2) := by decide +kernel
theorem dX6_init_140 : decode cX6_init 140 = .ok (.putfield 58, 3) := by decide +kernel
theorem dX6_init_143 : decode cX6_init 143 = .ok (.aload_n 0, 1) := by decide +kernel
theorem dX6_init_144 : decode cX6_init 144 = .ok (.bipush 16, 2) := by decide +kernel
theorem dX6_init_146 : decode cX6_init 146 = .ok (.newarray .int, 2) := by decide +kernel
theorem dX6_init_148 : decode cX6_init 148 = .ok (.putfield 61, 3) := by decide +kernel
theorem dX6_init_151 : decode cX6_init 151 = .ok (.aload_n 0, 1) := by decide +kernel
theorem dX6_init_152 : decode cX6_init 152 = .ok (.bipush 16, 2) := by decide +kernel
theorem dX6_init_154 : decode cX6_init 154 = .ok (.newarray .int, 2) := by decide +kernel
theorem dX6_init_156 : decode cX6_init 156 = .ok (.putfield 64, 3) := by decide +kernel
theorem dX6_init_159 : decode cX6_init 159 = .ok (.aload_n 0, 1) := by decide +kernel
theorem dX6_init_160 : decode cX6_init 160 = .ok (.bipush 16, 2) := by decide +kernel
theorem dX6_init_162 : decode cX6_init 162 = .ok (.newarray .int, 2) := by decide +kernel
theorem dX6_init_164 : decode cX6_init 164 = .ok (.putfield 67, 3) := by decide +kernel
theorem dX6_init_167 : decode cX6_init 167 = .ok (.aload_n 0, 1) := by decide +kernel
theorem dX6_init_168 : decode cX6_init 168 = .ok (.bipush 16, 2) := by decide +kernel
theorem dX6_init_170 : decode cX6_init 170 = .ok (.newarray .int, 2) := by decide +kernel
theorem dX6_init_172 : decode cX6_init 172 = .ok (.putfield 70, 3) := by decide +kernel
theorem dX6_init_175 : decode cX6_init 175 = .ok (.aload_n 0, 1) := by decide +kernel
theorem dX6_init_176 : decode cX6_init 176 = .ok (.bipush 16, 2) := by decide +kernel
theorem dX6_init_178 : decode cX6_init 178 = .ok (.newarray .boolean, 2) := by decide +kernel
theorem dX6_init_180 : decode cX6_init 180 = .ok (.putfield 73, 3) := by decide +kernel
theorem dX6_init_183 : decode cX6_init 183 = .ok (.aload_n 0, 1) := by decide +kernel
theorem dX6_init_184 : decode cX6_init 184 = .ok (.bipush 16, 2) := by decide +kernel
theorem dX6_init_186 : decode cX6_init 186 = .ok (.newarray .int, 2) := by decide +kernel
theorem dX6_init_188 : decode cX6_init 188 = .ok (.putfield 77, 3) := by decide +kernel
theorem dX6_init_191 : decode cX6_init 191 = .ok (.aload_n 0, 1) := by decide +kernel
theorem dX6_init_192 : decode cX6_init 192 = .ok (.bipush 12, 2) := by decide +kernel
theorem dX6_init_194 : decode cX6_init 194 = .ok (.newarray .int, 2) := by decide +kernel
theorem dX6_init_196 : decode cX6_init 196 = .ok (.putfield 80, 3) := by decide +kernel
theorem dX6_init_199 : decode cX6_init 199 = .ok (.aload_n 0, 1) := by decide +kernel
theorem dX6_init_200 : decode cX6_init 200 = .ok (.bipush 16, 2) := by decide +kernel
theorem dX6_init_202 : decode cX6_init 202 = .ok (.newarray .int, 2) := by decide +kernel
theorem dX6_init_204 : decode cX6_init 204 = .ok (.putfield 83, 3) := by decide +kernel
theorem dX6_init_207 : decode cX6_init 207 = .ok (.iconst 0, 1) := by decide +kernel
theorem dX6_init_208 : decode cX6_init 208 = .ok (.istore_n 1, 1) := by decide +kernel
theorem dX6_init_209 : decode cX6_init 209 = .ok (.iload_n 1, 1) := by decide +kernel
theorem dX6_init_210 : decode cX6_init 210 = .ok (.bipush 16, 2) := by decide +kernel
theorem dX6_init_212 : decode cX6_init 212 = .ok (.if_icmp .ge 30, 3) := by decide +kernel
theorem dX6_init_215 : decode cX6_init 215 = .ok (.aload_n 0, 1) := by decide +kernel
theorem dX6_init_216 : decode cX6_init 216 = .ok (.getfield 61, 3) := by decide +kernel
theorem dX6_init_219 : decode cX6_init 219 = .ok (.iload_n 1, 1) := by decide +kernel
theorem dX6_init_220 : decode cX6_init 220 = .ok (.iconst (-1), 1) := by decide +kernel
theorem dX6_init_221 : decode cX6_init 221 = .ok (.iastore, 1) := by decide +kernel
theorem dX6_init_222 : decode cX6_init 222 = .ok (.aload_n 0, 1) := by decide +kernel
theorem dX6_init_223 : decode cX6_init 223 = .ok (.getfield 67, 3) := by decide +kernel
theorem dX6_init_226 : decode cX6_init 226 = .ok (.iload_n 1, 1) := by decide +kernel
theorem dX6_init_227 : decode cX6_init 227 = .ok (.iload_n 1, 1) := by decide +kernel
theorem dX6_init_228 : decode cX6_init 228 = .ok (.iastore, 1) := by decide +kernel
theorem dX6_init_229 : decode cX6_init 229 = .ok (.aload_n 0, 1) := by decide +kernel
theorem dX6_init_230 : decode cX6_init 230 = .ok (.getfield 55, 3) := by decide +kernel
theorem dX6_init_233 : decode cX6_init 233 = .ok (.iload_n 1, 1) := by decide +kernel
theorem dX6_init_234 : decode cX6_init 234 = .ok (.iconst (-1), 1) := by decide +kernel
theorem dX6_init_235 : decode cX6_init 235 = .ok (.iastore, 1) := by decide +kernel
theorem dX6_init_236 : decode cX6_init 236 = .ok (.iinc 1 1, 3) := by decide +kernel
theorem dX6_init_239 : decode cX6_init 239 = .ok (.goto (-30), 3) := by decide +kernel
theorem dX6_init_242 : decode cX6_init 242 = .ok (.return_, 1) := by decide +kernel
theorem dX6_thrown_0 : decode cX6_thrown 0 = .ok (.aload_n 0, 1) := by decide +kernel
theorem dX6_thrown_1 : decode cX6_thrown 1 = .ok (.getfield 86, 3) := by decide +kernel
theorem dX6_thrown_4 : decode cX6_thrown 4 = .ok (.ireturn, 1) := by decide +kernel
theorem dX6_fails_0 : decode cX6_fails 0 = .ok (.aload_n 0, 1) := by decide +kernel
theorem dX6_fails_1 : decode cX6_fails 1 = .ok (.iload_n 1, 1) := by decide +kernel
theorem dX6_fails_2 : decode cX6_fails 2 = .ok (.putfield 86, 3) := by decide +kernel
theorem dX6_fails_5 : decode cX6_fails 5 = .ok (.iconst 0, 1) := by decide +kernel
theorem dX6_fails_6 : decode cX6_fails 6 = .ok (.ireturn, 1) := by decide +kernel
theorem dX6_in_0 : decode cX6_in 0 = .ok (.iload_n 0, 1) := by decide +kernel
theorem dX6_in_1 : decode cX6_in 1 = .ok (.iload_n 1, 1) := by decide +kernel
theorem dX6_in_2 : decode cX6_in 2 = .ok (.if_icmp .lt 12, 3) := by decide +kernel
theorem dX6_in_5 : decode cX6_in 5 = .ok (.iload_n 0, 1) := by decide +kernel
theorem dX6_in_6 : decode cX6_in 6 = .ok (.iload_n 2, 1) := by decide +kernel
theorem dX6_in_7 : decode cX6_in 7 = .ok (.if_icmp .gt 7, 3) := by decide +kernel
theorem dX6_in_10 : decode cX6_in 10 = .ok (.iconst 1, 1) := by decide +kernel
theorem dX6_in_11 : decode cX6_in 11 = .ok (.goto 4, 3) := by decide +kernel
theorem dX6_in_14 : decode cX6_in 14 = .ok (.iconst 0, 1) := by decide +kernel
theorem dX6_in_15 : decode cX6_in 15 = .ok (.ireturn, 1) := by decide +kernel
theorem dX6_isCell_0 : decode cX6_isCell 0 = .ok (.iload_n 0, 1) := by decide +kernel
theorem dX6_isCell_1 : decode cX6_isCell 1 = .ok (.iconst 0, 1) := by decide +kernel
theorem dX6_isCell_2 : decode cX6_isCell 2 = .ok (.bipush 15, 2) := by decide +kernel
theorem dX6_isCell_4 : decode cX6_isCell 4 = .ok (.invokestatic 90, 3) := by decide +kernel
theorem dX6_isCell_7 : decode cX6_isCell 7 = .ok (.ireturn, 1) := by decide +kernel
theorem dX6_adds_0 : decode cX6_adds 0 = .ok (.aload_n 0, 1) := by decide +kernel
theorem dX6_adds_1 : decode cX6_adds 1 = .ok (.getfield 7, 3) := by decide +kernel
theorem dX6_adds_4 : decode cX6_adds 4 = .ok (.aload_n 0, 1) := by decide +kernel
theorem dX6_adds_5 : decode cX6_adds 5 = .ok (.getfield 94, 3) := by decide +kernel
theorem dX6_adds_8 : decode cX6_adds 8 = .ok (.iload_n 1, 1) := by decide +kernel
theorem dX6_adds_9 : decode cX6_adds 9 = .ok (.iastore, 1) := by decide +kernel
theorem dX6_adds_10 : decode cX6_adds 10 = .ok (.aload_n 0, 1) := by decide +kernel
theorem dX6_adds_11 : decode cX6_adds 11 = .ok (.getfield 13, 3) := by decide +kernel
theorem dX6_adds_14 : decode cX6_adds 14 = .ok (.aload_n 0, 1) := by decide +kernel
theorem dX6_adds_15 : decode cX6_adds 15 = .ok (.getfield 94, 3) := by decide +kernel
theorem dX6_adds_18 : decode cX6_adds 18 = .ok (.iload_n 2, 1) := by decide +kernel
theorem dX6_adds_19 : decode cX6_adds 19 = .ok (.iastore, 1) := by decide +kernel
theorem dX6_adds_20 : decode cX6_adds 20 = .ok (.aload_n 0, 1) := by decide +kernel
theorem dX6_adds_21 : decode cX6_adds 21 = .ok (.dup, 1) := by decide +kernel
theorem dX6_adds_22 : decode cX6_adds 22 = .ok (.getfield 94, 3) := by decide +kernel
theorem dX6_adds_25 : decode cX6_adds 25 = .ok (.iconst 1, 1) := by decide +kernel
theorem dX6_adds_26 : decode cX6_adds 26 = .ok (.iadd, 1) := by decide +kernel
theorem dX6_adds_27 : decode cX6_adds 27 = .ok (.putfield 94, 3) := by decide +kernel
theorem dX6_adds_30 : decode cX6_adds 30 = .ok (.aload_n 0, 1) := by decide +kernel
theorem dX6_adds_31 : decode cX6_adds 31 = .ok (.dup, 1) := by decide +kernel
theorem dX6_adds_32 : decode cX6_adds 32 = .ok (.getfield 97, 3) := by decide +kernel
theorem dX6_adds_35 : decode cX6_adds 35 = .ok (.iload_n 3, 1) := by decide +kernel
theorem dX6_adds_36 : decode cX6_adds 36 = .ok (.iadd, 1) := by decide +kernel
theorem dX6_adds_37 : decode cX6_adds 37 = .ok (.putfield 97, 3) := by decide +kernel
theorem dX6_adds_40 : decode cX6_adds 40 = .ok (.aload_n 0, 1) := by decide +kernel
theorem dX6_adds_41 : decode cX6_adds 41 = .ok (.getfield 97, 3) := by decide +kernel
theorem dX6_adds_44 : decode cX6_adds 44 = .ok (.ireturn, 1) := by decide +kernel
theorem dX6_number_0 : decode cX6_number 0 = .ok (.aload_n 0, 1) := by decide +kernel
theorem dX6_number_1 : decode cX6_number 1 = .ok (.aload_n 0, 1) := by decide +kernel
theorem dX6_number_2 : decode cX6_number 2 = .ok (.getfield 94, 3) := by decide +kernel
theorem dX6_number_5 : decode cX6_number 5 = .ok (.bipush 12, 2) := by decide +kernel
theorem dX6_number_7 : decode cX6_number 7 = .ok (.if_icmp .ne 7, 3) := by decide +kernel
theorem dX6_number_10 : decode cX6_number 10 = .ok (.iconst 1, 1) := by decide +kernel
theorem dX6_number_11 : decode cX6_number 11 = .ok (.goto 4, 3) := by decide +kernel
theorem dX6_number_14 : decode cX6_number 14 = .ok (.iconst 0, 1) := by decide +kernel
theorem dX6_number_15 : decode cX6_number 15 = .ok (.putfield 86, 3) := by decide +kernel
theorem dX6_number_18 : decode cX6_number 18 = .ok (.aload_n 0, 1) := by decide +kernel
theorem dX6_number_19 : decode cX6_number 19 = .ok (.getfield 86, 3) := by decide +kernel
theorem dX6_number_22 : decode cX6_number 22 = .ok (.ifCond .le 7, 3) := by decide +kernel
theorem dX6_number_25 : decode cX6_number 25 = .ok (.iconst 0, 1) := by decide +kernel
theorem dX6_number_26 : decode cX6_number 26 = .ok (.goto 10, 3) := by decide +kernel
theorem dX6_number_29 : decode cX6_number 29 = .ok (.aload_n 0, 1) := by decide +kernel
theorem dX6_number_30 : decode cX6_number 30 = .ok (.iconst 0, 1) := by decide +kernel
theorem dX6_number_31 : decode cX6_number 31 = .ok (.iload_n 1, 1) := by decide +kernel
theorem dX6_number_32 : decode cX6_number 32 = .ok (.iconst 1, 1) := by decide +kernel
theorem dX6_number_33 : decode cX6_number 33 = .ok (.invokevirtual 100, 3) := by decide +kernel
theorem dX6_number_36 : decode cX6_number 36 = .ok (.ireturn, 1) := by decide +kernel
theorem dX6_cell_0 : decode cX6_cell 0 = .ok (.aload_n 0, 1) := by decide +kernel
theorem dX6_cell_1 : decode cX6_cell 1 = .ok (.iload_n 1, 1) := by decide +kernel
theorem dX6_cell_2 : decode cX6_cell 2 = .ok (.invokestatic 104, 3) := by decide +kernel
theorem dX6_cell_5 : decode cX6_cell 5 = .ok (.ifCond .ne 7, 3) := by decide +kernel
theorem dX6_cell_8 : decode cX6_cell 8 = .ok (.iconst 1, 1) := by decide +kernel
theorem dX6_cell_9 : decode cX6_cell 9 = .ok (.goto 17, 3) := by decide +kernel
theorem dX6_cell_12 : decode cX6_cell 12 = .ok (.aload_n 0, 1) := by decide +kernel
theorem dX6_cell_13 : decode cX6_cell 13 = .ok (.getfield 94, 3) := by decide +kernel
theorem dX6_cell_16 : decode cX6_cell 16 = .ok (.bipush 12, 2) := by decide +kernel
theorem dX6_cell_18 : decode cX6_cell 18 = .ok (.if_icmp .ne 7, 3) := by decide +kernel
theorem dX6_cell_21 : decode cX6_cell 21 = .ok (.iconst 2, 1) := by decide +kernel
theorem dX6_cell_22 : decode cX6_cell 22 = .ok (.goto 4, 3) := by decide +kernel
theorem dX6_cell_25 : decode cX6_cell 25 = .ok (.iconst 0, 1) := by decide +kernel
theorem dX6_cell_26 : decode cX6_cell 26 = .ok (.putfield 86, 3) := by decide +kernel
theorem dX6_cell_29 : decode cX6_cell 29 = .ok (.aload_n 0, 1) := by decide +kernel
theorem dX6_cell_30 : decode cX6_cell 30 = .ok (.getfield 86, 3) := by decide +kernel
theorem dX6_cell_33 : decode cX6_cell 33 = .ok (.ifCond .le 7, 3) := by decide +kernel
theorem dX6_cell_36 : decode cX6_cell 36 = .ok (.iconst 0, 1) := by decide +kernel
theorem dX6_cell_37 : decode cX6_cell 37 = .ok (.goto 10, 3) := by decide +kernel
theorem dX6_cell_40 : decode cX6_cell 40 = .ok (.aload_n 0, 1) := by decide +kernel
theorem dX6_cell_41 : decode cX6_cell 41 = .ok (.iconst 1, 1) := by decide +kernel
theorem dX6_cell_42 : decode cX6_cell 42 = .ok (.iload_n 1, 1) := by decide +kernel
theorem dX6_cell_43 : decode cX6_cell 43 = .ok (.iconst 1, 1) := by decide +kernel
theorem dX6_cell_44 : decode cX6_cell 44 = .ok (.invokevirtual 100, 3) := by decide +kernel
theorem dX6_cell_47 : decode cX6_cell 47 = .ok (.ireturn, 1) := by decide +kernel
theorem dX6_apply_0 : decode cX6_apply 0 = .ok (.aload_n 0, 1) := by decide +kernel
theorem dX6_apply_1 : decode cX6_apply 1 = .ok (.iload_n 1, 1) := by decide +kernel
theorem dX6_apply_2 : decode cX6_apply 2 = .ok (.iconst 0, 1) := by decide +kernel
theorem dX6_apply_3 : decode cX6_apply 3 = .ok (.bipush 11, 2) := by decide +kernel
theorem dX6_apply_5 : decode cX6_apply 5 = .ok (.invokestatic 90, 3) := by decide +kernel
theorem dX6_apply_8 : decode cX6_apply 8 = .ok (.ifCond .ne 7, 3) := by decide +kernel
theorem dX6_apply_11 : decode cX6_apply 11 = .ok (.iconst 1, 1) := by decide +kernel
theorem dX6_apply_12 : decode cX6_apply 12 = .ok (.goto 25, 3) := by decide +kernel
theorem dX6_apply_15 : decode cX6_apply 15 = .ok (.aload_n 0, 1) := by decide +kernel
theorem dX6_apply_16 : decode cX6_apply 16 = .ok (.getfield 97, 3) := by decide +kernel
theorem dX6_apply_19 : decode cX6_apply 19 = .ok (.iconst 2, 1) := by decide +kernel
theorem dX6_apply_20 : decode cX6_apply 20 = .ok (.if_icmp .lt 12, 3) := by decide +kernel
theorem dX6_apply_23 : decode cX6_apply 23 = .ok (.aload_n 0, 1) := by decide +kernel
theorem dX6_apply_24 : decode cX6_apply 24 = .ok (.getfield 94, 3) := by decide +kernel
theorem dX6_apply_27 : decode cX6_apply 27 = .ok (.bipush 12, 2) := by decide +kernel
theorem dX6_apply_29 : decode cX6_apply 29 = .ok (.if_icmp .ne 7, 3) := by decide +kernel
theorem dX6_apply_32 : decode cX6_apply 32 = .ok (.iconst 2, 1) := by decide +kernel
theorem dX6_apply_33 : decode cX6_apply 33 = .ok (.goto 4, 3) := by decide +kernel
theorem dX6_apply_36 : decode cX6_apply 36 = .ok (.iconst 0, 1) := by decide +kernel
theorem dX6_apply_37 : decode cX6_apply 37 = .ok (.putfield 86, 3) := by decide +kernel
theorem dX6_apply_40 : decode cX6_apply 40 = .ok (.aload_n 0, 1) := by decide +kernel
theorem dX6_apply_41 : decode cX6_apply 41 = .ok (.getfield 86, 3) := by decide +kernel
theorem dX6_apply_44 : decode cX6_apply 44 = .ok (.ifCond .le 7, 3) := by decide +kernel
theorem dX6_apply_47 : decode cX6_apply 47 = .ok (.iconst 0, 1) := by decide +kernel
theorem dX6_apply_48 : decode cX6_apply 48 = .ok (.goto 10, 3) := by decide +kernel
theorem dX6_apply_51 : decode cX6_apply 51 = .ok (.aload_n 0, 1) := by decide +kernel
theorem dX6_apply_52 : decode cX6_apply 52 = .ok (.iconst 2, 1) := by decide +kernel
theorem dX6_apply_53 : decode cX6_apply 53 = .ok (.iload_n 1, 1) := by decide +kernel
theorem dX6_apply_54 : decode cX6_apply 54 = .ok (.iconst (-1), 1) := by decide +kernel
theorem dX6_apply_55 : decode cX6_apply 55 = .ok (.invokevirtual 100, 3) := by decide +kernel
theorem dX6_apply_58 : decode cX6_apply 58 = .ok (.ireturn, 1) := by decide +kernel
theorem dX6_wipe_0 : decode cX6_wipe 0 = .ok (.aload_n 0, 1) := by decide +kernel
theorem dX6_wipe_1 : decode cX6_wipe 1 = .ok (.iconst 0, 1) := by decide +kernel
theorem dX6_wipe_2 : decode cX6_wipe 2 = .ok (.putfield 86, 3) := by decide +kernel
theorem dX6_wipe_5 : decode cX6_wipe 5 = .ok (.aload_n 0, 1) := by decide +kernel
theorem dX6_wipe_6 : decode cX6_wipe 6 = .ok (.getfield 94, 3) := by decide +kernel
theorem dX6_wipe_9 : decode cX6_wipe 9 = .ok (.istore_n 1, 1) := by decide +kernel
theorem dX6_wipe_10 : decode cX6_wipe 10 = .ok (.aload_n 0, 1) := by decide +kernel
theorem dX6_wipe_11 : decode cX6_wipe 11 = .ok (.iconst 0, 1) := by decide +kernel
theorem dX6_wipe_12 : decode cX6_wipe 12 = .ok (.putfield 94, 3) := by decide +kernel
theorem dX6_wipe_15 : decode cX6_wipe 15 = .ok (.aload_n 0, 1) := by decide +kernel
theorem dX6_wipe_16 : decode cX6_wipe 16 = .ok (.iconst 0, 1) := by decide +kernel
theorem dX6_wipe_17 : decode cX6_wipe 17 = .ok (.putfield 97, 3) := by decide +kernel
theorem dX6_wipe_20 : decode cX6_wipe 20 = .ok (.iload_n 1, 1) := by decide +kernel
theorem dX6_wipe_21 : decode cX6_wipe 21 = .ok (.ireturn, 1) := by decide +kernel
theorem dX6_readBy_0 : decode cX6_readBy 0 = .ok (.iconst 0, 1) := by decide +kernel
theorem dX6_readBy_1 : decode cX6_readBy 1 = .ok (.istore_n 2, 1) := by decide +kernel
theorem dX6_readBy_2 : decode cX6_readBy 2 = .ok (.iconst 0, 1) := by decide +kernel
theorem dX6_readBy_3 : decode cX6_readBy 3 = .ok (.istore_n 3, 1) := by decide +kernel
theorem dX6_readBy_4 : decode cX6_readBy 4 = .ok (.iload_n 3, 1) := by decide +kernel
theorem dX6_readBy_5 : decode cX6_readBy 5 = .ok (.aload_n 0, 1) := by decide +kernel
theorem dX6_readBy_6 : decode cX6_readBy 6 = .ok (.getfield 16, 3) := by decide +kernel
theorem dX6_readBy_9 : decode cX6_readBy 9 = .ok (.iload_n 1, 1) := by decide +kernel
theorem dX6_readBy_10 : decode cX6_readBy 10 = .ok (.iaload, 1) := by decide +kernel
theorem dX6_readBy_11 : decode cX6_readBy 11 = .ok (.if_icmp .ge 44, 3) := by decide +kernel
theorem dX6_readBy_14 : decode cX6_readBy 14 = .ok (.iload_n 2, 1) := by decide +kernel
theorem dX6_readBy_15 : decode cX6_readBy 15 = .ok (.aload_n 0, 1) := by decide +kernel
theorem dX6_readBy_16 : decode cX6_readBy 16 = .ok (.getfield 19, 3) := by decide +kernel
theorem dX6_readBy_19 : decode cX6_readBy 19 = .ok (.bipush 12, 2) := by decide +kernel
theorem dX6_readBy_21 : decode cX6_readBy 21 = .ok (.iload_n 1, 1) := by decide +kernel
theorem dX6_readBy_22 : decode cX6_readBy 22 = .ok (.imul, 1) := by decide +kernel
theorem dX6_readBy_23 : decode cX6_readBy 23 = .ok (.iload_n 3, 1) := by decide +kernel
theorem dX6_readBy_24 : decode cX6_readBy 24 = .ok (.iadd, 1) := by decide +kernel
theorem dX6_readBy_25 : decode cX6_readBy 25 = .ok (.iaload, 1) := by decide +kernel
theorem dX6_readBy_26 : decode cX6_readBy 26 = .ok (.iconst 1, 1) := by decide +kernel
theorem dX6_readBy_27 : decode cX6_readBy 27 = .ok (.if_icmp .ne 19, 3) := by decide +kernel
theorem dX6_readBy_30 : decode cX6_readBy 30 = .ok (.iconst 1, 1) := by decide +kernel
theorem dX6_readBy_31 : decode cX6_readBy 31 = .ok (.aload_n 0, 1) := by decide +kernel
theorem dX6_readBy_32 : decode cX6_readBy 32 = .ok (.getfield 22, 3) := by decide +kernel
theorem dX6_readBy_35 : decode cX6_readBy 35 = .ok (.bipush 12, 2) := by decide +kernel
theorem dX6_readBy_37 : decode cX6_readBy 37 = .ok (.iload_n 1, 1) := by decide +kernel
theorem dX6_readBy_38 : decode cX6_readBy 38 = .ok (.imul, 1) := by decide +kernel
theorem dX6_readBy_39 : decode cX6_readBy 39 = .ok (.iload_n 3, 1) := by decide +kernel
theorem dX6_readBy_40 : decode cX6_readBy 40 = .ok (.iadd, 1) := by decide +kernel
theorem dX6_readBy_41 : decode cX6_readBy 41 = .ok (.iaload, 1) := by decide +kernel
theorem dX6_readBy_42 : decode cX6_readBy 42 = .ok (.ishl, 1) := by decide +kernel
theorem dX6_readBy_43 : decode cX6_readBy 43 = .ok (.goto 4, 3) := by decide +kernel
theorem dX6_readBy_46 : decode cX6_readBy 46 = .ok (.iconst 0, 1) := by decide +kernel
theorem dX6_readBy_47 : decode cX6_readBy 47 = .ok (.ior, 1) := by decide +kernel
theorem dX6_readBy_48 : decode cX6_readBy 48 = .ok (.istore_n 2, 1) := by decide +kernel
theorem dX6_readBy_49 : decode cX6_readBy 49 = .ok (.iinc 3 1, 3) := by decide +kernel
theorem dX6_readBy_52 : decode cX6_readBy 52 = .ok (.goto (-48), 3) := by decide +kernel
theorem dX6_readBy_55 : decode cX6_readBy 55 = .ok (.iload_n 2, 1) := by decide +kernel
theorem dX6_readBy_56 : decode cX6_readBy 56 = .ok (.ireturn, 1) := by decide +kernel
theorem dX6_under_0 : decode cX6_under 0 = .ok (.iload_n 1, 1) := by decide +kernel
theorem dX6_under_1 : decode cX6_under 1 = .ok (.istore_n 2, 1) := by decide +kernel
theorem dX6_under_2 : decode cX6_under 2 = .ok (.iconst 0, 1) := by decide +kernel
theorem dX6_under_3 : decode cX6_under 3 = .ok (.istore_n 3, 1) := by decide +kernel
theorem dX6_under_4 : decode cX6_under 4 = .ok (.iload_n 3, 1) := by decide +kernel
theorem dX6_under_5 : decode cX6_under 5 = .ok (.bipush 16, 2) := by decide +kernel
theorem dX6_under_7 : decode cX6_under 7 = .ok (.if_icmp .ge 48, 3) := by decide +kernel
theorem dX6_under_10 : decode cX6_under 10 = .ok (.iconst 0, 1) := by decide +kernel
theorem dX6_under_11 : decode cX6_under 11 = .ok (.istore 4, 2) := by decide +kernel
theorem dX6_under_13 : decode cX6_under 13 = .ok (.iload 4, 2) := by decide +kernel
theorem dX6_under_15 : decode cX6_under 15 = .ok (.bipush 16, 2) := by decide +kernel
theorem dX6_under_17 : decode cX6_under 17 = .ok (.if_icmp .ge 32, 3) := by decide +kernel
theorem dX6_under_20 : decode cX6_under 20 = .ok (.iload_n 2, 1) := by decide +kernel
theorem dX6_under_21 : decode cX6_under 21 = .ok (.iload_n 2, 1) := by decide +kernel
theorem dX6_under_22 : decode cX6_under 22 = .ok (.iload 4, 2) := by decide +kernel
theorem dX6_under_24 : decode cX6_under 24 = .ok (.ishr, 1) := by decide +kernel
theorem dX6_under_25 : decode cX6_under 25 = .ok (.iconst 1, 1) := by decide +kernel
theorem dX6_under_26 : decode cX6_under 26 = .ok (.iand, 1) := by decide +kernel
theorem dX6_under_27 : decode cX6_under 27 = .ok (.iconst 1, 1) := by decide +kernel
theorem dX6_under_28 : decode cX6_under 28 = .ok (.if_icmp .ne 12, 3) := by decide +kernel
theorem dX6_under_31 : decode cX6_under 31 = .ok (.aload_n 0, 1) := by decide +kernel
theorem dX6_under_32 : decode cX6_under 32 = .ok (.iload 4, 2) := by decide +kernel
theorem dX6_under_34 : decode cX6_under 34 = .ok (.invokevirtual 108, 3) := by decide +kernel
theorem dX6_under_37 : decode cX6_under 37 = .ok (.goto 4, 3) := by decide +kernel
theorem dX6_under_40 : decode cX6_under 40 = .ok (.iconst 0, 1) := by decide +kernel
theorem dX6_under_41 : decode cX6_under 41 = .ok (.ior, 1) := by decide +kernel
theorem dX6_under_42 : decode cX6_under 42 = .ok (.istore_n 2, 1) := by decide +kernel
theorem dX6_under_43 : decode cX6_under 43 = .ok (.iinc 4 1, 3) := by decide +kernel
theorem dX6_under_46 : decode cX6_under 46 = .ok (.goto (-33), 3) := by decide +kernel
theorem dX6_under_49 : decode cX6_under 49 = .ok (.iinc 3 1, 3) := by decide +kernel
theorem dX6_under_52 : decode cX6_under 52 = .ok (.goto (-48), 3) := by decide +kernel
theorem dX6_under_55 : decode cX6_under 55 = .ok (.iload_n 2, 1) := by decide +kernel
theorem dX6_under_56 : decode cX6_under 56 = .ok (.ireturn, 1) := by decide +kernel
theorem dX6_orders_0 : decode cX6_orders 0 = .ok (.iconst 0, 1) := by decide +kernel
theorem dX6_orders_1 : decode cX6_orders 1 = .ok (.istore_n 1, 1) := by decide +kernel
theorem dX6_orders_2 : decode cX6_orders 2 = .ok (.iconst 0, 1) := by decide +kernel
theorem dX6_orders_3 : decode cX6_orders 3 = .ok (.istore_n 2, 1) := by decide +kernel
theorem dX6_orders_4 : decode cX6_orders 4 = .ok (.iload_n 2, 1) := by decide +kernel
theorem dX6_orders_5 : decode cX6_orders 5 = .ok (.bipush 16, 2) := by decide +kernel
theorem dX6_orders_7 : decode cX6_orders 7 = .ok (.if_icmp .ge 68, 3) := by decide +kernel
theorem dX6_orders_10 : decode cX6_orders 10 = .ok (.iconst (-1), 1) := by decide +kernel
theorem dX6_orders_11 : decode cX6_orders 11 = .ok (.istore_n 3, 1) := by decide +kernel
theorem dX6_orders_12 : decode cX6_orders 12 = .ok (.bipush 15, 2) := by decide +kernel
theorem dX6_orders_14 : decode cX6_orders 14 = .ok (.istore 4, 2) := by decide +kernel
theorem dX6_orders_16 : decode cX6_orders 16 = .ok (.iload 4, 2) := by decide +kernel
theorem dX6_orders_18 : decode cX6_orders 18 = .ok (.ifCond .lt 38, 3) := by decide +kernel
theorem dX6_orders_21 : decode cX6_orders 21 = .ok (.iload_n 1, 1) := by decide +kernel
theorem dX6_orders_22 : decode cX6_orders 22 = .ok (.iload 4, 2) := by decide +kernel
theorem dX6_orders_24 : decode cX6_orders 24 = .ok (.ishr, 1) := by decide +kernel
theorem dX6_orders_25 : decode cX6_orders 25 = .ok (.iconst 1, 1) := by decide +kernel
theorem dX6_orders_26 : decode cX6_orders 26 = .ok (.iand, 1) := by decide +kernel
theorem dX6_orders_27 : decode cX6_orders 27 = .ok (.ifCond .ne 21, 3) := by decide +kernel
theorem dX6_orders_30 : decode cX6_orders 30 = .ok (.aload_n 0, 1) := by decide +kernel
theorem dX6_orders_31 : decode cX6_orders 31 = .ok (.iload 4, 2) := by decide +kernel
theorem dX6_orders_33 : decode cX6_orders 33 = .ok (.invokevirtual 108, 3) := by decide +kernel
theorem dX6_orders_36 : decode cX6_orders 36 = .ok (.iload_n 1, 1) := by decide +kernel
theorem dX6_orders_37 : decode cX6_orders 37 = .ok (.iconst (-1), 1) := by decide +kernel
theorem dX6_orders_38 : decode cX6_orders 38 = .ok (.ixor, 1) := by decide +kernel
theorem dX6_orders_39 : decode cX6_orders 39 = .ok (.iand, 1) := by decide +kernel
theorem dX6_orders_40 : decode cX6_orders 40 = .ok (.ifCond .ne 8, 3) := by decide +kernel
theorem dX6_orders_43 : decode cX6_orders 43 = .ok (.iload 4, 2) := by decide +kernel
theorem dX6_orders_45 : decode cX6_orders 45 = .ok (.goto 4, 3) := by decide +kernel
theorem dX6_orders_48 : decode cX6_orders 48 = .ok (.iload_n 3, 1) := by decide +kernel
theorem dX6_orders_49 : decode cX6_orders 49 = .ok (.istore_n 3, 1) := by decide +kernel
theorem dX6_orders_50 : decode cX6_orders 50 = .ok (.iinc 4 (-1), 3) := by decide +kernel
theorem dX6_orders_53 : decode cX6_orders 53 = .ok (.goto (-37), 3) := by decide +kernel
theorem dX6_orders_56 : decode cX6_orders 56 = .ok (.aload_n 0, 1) := by decide +kernel
theorem dX6_orders_57 : decode cX6_orders 57 = .ok (.getfield 67, 3) := by decide +kernel
theorem dX6_orders_60 : decode cX6_orders 60 = .ok (.iload_n 2, 1) := by decide +kernel
theorem dX6_orders_61 : decode cX6_orders 61 = .ok (.iload_n 3, 1) := by decide +kernel
theorem dX6_orders_62 : decode cX6_orders 62 = .ok (.iastore, 1) := by decide +kernel
theorem dX6_orders_63 : decode cX6_orders 63 = .ok (.iload_n 1, 1) := by decide +kernel
theorem dX6_orders_64 : decode cX6_orders 64 = .ok (.iconst 1, 1) := by decide +kernel
theorem dX6_orders_65 : decode cX6_orders 65 = .ok (.iload_n 3, 1) := by decide +kernel
theorem dX6_orders_66 : decode cX6_orders 66 = .ok (.ishl, 1) := by decide +kernel
theorem dX6_orders_67 : decode cX6_orders 67 = .ok (.ior, 1) := by decide +kernel
theorem dX6_orders_68 : decode cX6_orders 68 = .ok (.istore_n 1, 1) := by decide +kernel
theorem dX6_orders_69 : decode cX6_orders 69 = .ok (.iinc 2 1, 3) := by decide +kernel
theorem dX6_orders_72 : decode cX6_orders 72 = .ok (.goto (-68), 3) := by decide +kernel
theorem dX6_orders_75 : decode cX6_orders 75 = .ok (.return_, 1) := by decide +kernel
theorem dX6_changes_0 : decode cX6_changes 0 = .ok (.iconst 0, 1) := by decide +kernel
theorem dX6_changes_1 : decode cX6_changes 1 = .ok (.istore_n 2, 1) := by decide +kernel
theorem dX6_changes_2 : decode cX6_changes 2 = .ok (.aload_n 0, 1) := by decide +kernel
theorem dX6_changes_3 : decode cX6_changes 3 = .ok (.getfield 61, 3) := by decide +kernel
theorem dX6_changes_6 : decode cX6_changes 6 = .ok (.iload_n 1, 1) := by decide +kernel
theorem dX6_changes_7 : decode cX6_changes 7 = .ok (.iconst (-1), 1) := by decide +kernel
theorem dX6_changes_8 : decode cX6_changes 8 = .ok (.iastore, 1) := by decide +kernel
theorem dX6_changes_9 : decode cX6_changes 9 = .ok (.aload_n 0, 1) := by decide +kernel
theorem dX6_changes_10 : decode cX6_changes 10 = .ok (.invokevirtual 112, 3) := by decide +kernel
theorem dX6_changes_13 : decode cX6_changes 13 = .ok (.iconst 0, 1) := by decide +kernel
theorem dX6_changes_14 : decode cX6_changes 14 = .ok (.istore_n 3, 1) := by decide +kernel
theorem dX6_changes_15 : decode cX6_changes 15 = .ok (.iload_n 3, 1) := by decide +kernel
theorem dX6_changes_16 : decode cX6_changes 16 = .ok (.bipush 16, 2) := by decide +kernel
theorem dX6_changes_18 : decode cX6_changes 18 = .ok (.if_icmp .ge 82, 3) := by decide +kernel
theorem dX6_changes_21 : decode cX6_changes 21 = .ok (.iload_n 3, 1) := by decide +kernel
theorem dX6_changes_22 : decode cX6_changes 22 = .ok (.iload_n 1, 1) := by decide +kernel
theorem dX6_changes_23 : decode cX6_changes 23 = .ok (.if_icmp .eq 20, 3) := by decide +kernel
theorem dX6_changes_26 : decode cX6_changes 26 = .ok (.aload_n 0, 1) := by decide +kernel
theorem dX6_changes_27 : decode cX6_changes 27 = .ok (.aload_n 0, 1) := by decide +kernel
theorem dX6_changes_28 : decode cX6_changes 28 = .ok (.iload_n 3, 1) := by decide +kernel
theorem dX6_changes_29 : decode cX6_changes 29 = .ok (.invokevirtual 108, 3) := by decide +kernel
theorem dX6_changes_32 : decode cX6_changes 32 = .ok (.invokevirtual 115, 3) := by decide +kernel
theorem dX6_changes_35 : decode cX6_changes 35 = .ok (.iload_n 1, 1) := by decide +kernel
theorem dX6_changes_36 : decode cX6_changes 36 = .ok (.ishr, 1) := by decide +kernel
theorem dX6_changes_37 : decode cX6_changes 37 = .ok (.iconst 1, 1) := by decide +kernel
theorem dX6_changes_38 : decode cX6_changes 38 = .ok (.iand, 1) := by decide +kernel
theorem dX6_changes_39 : decode cX6_changes 39 = .ok (.iconst 1, 1) := by decide +kernel
theorem dX6_changes_40 : decode cX6_changes 40 = .ok (.if_icmp .ne 17, 3) := by decide +kernel
theorem dX6_changes_43 : decode cX6_changes 43 = .ok (.aload_n 0, 1) := by decide +kernel
theorem dX6_changes_44 : decode cX6_changes 44 = .ok (.getfield 46, 3) := by decide +kernel
theorem dX6_changes_47 : decode cX6_changes 47 = .ok (.iload_n 3, 1) := by decide +kernel
theorem dX6_changes_48 : decode cX6_changes 48 = .ok (.iaload, 1) := by decide +kernel
theorem dX6_changes_49 : decode cX6_changes 49 = .ok (.iconst 1, 1) := by decide +kernel
theorem dX6_changes_50 : decode cX6_changes 50 = .ok (.if_icmp .ne 7, 3) := by decide +kernel
theorem dX6_changes_53 : decode cX6_changes 53 = .ok (.iconst 1, 1) := by decide +kernel
theorem dX6_changes_54 : decode cX6_changes 54 = .ok (.goto 4, 3) := by decide +kernel
theorem dX6_changes_57 : decode cX6_changes 57 = .ok (.iconst 0, 1) := by decide +kernel
theorem dX6_changes_58 : decode cX6_changes 58 = .ok (.istore 4, 2) := by decide +kernel
theorem dX6_changes_60 : decode cX6_changes 60 = .ok (.aload_n 0, 1) := by decide +kernel
theorem dX6_changes_61 : decode cX6_changes 61 = .ok (.getfield 46, 3) := by decide +kernel
theorem dX6_changes_64 : decode cX6_changes 64 = .ok (.iload_n 3, 1) := by decide +kernel
theorem dX6_changes_65 : decode cX6_changes 65 = .ok (.iload 4, 2) := by decide +kernel
theorem dX6_changes_67 : decode cX6_changes 67 = .ok (.ifCond .eq 7, 3) := by decide +kernel
theorem dX6_changes_70 : decode cX6_changes 70 = .ok (.iconst 0, 1) := by decide +kernel
theorem dX6_changes_71 : decode cX6_changes 71 = .ok (.goto 9, 3) := by decide +kernel
theorem dX6_changes_74 : decode cX6_changes 74 = .ok (.aload_n 0, 1) := by decide +kernel
theorem dX6_changes_75 : decode cX6_changes 75 = .ok (.getfield 46, 3) := by decide +kernel
theorem dX6_changes_78 : decode cX6_changes 78 = .ok (.iload_n 3, 1) := by decide +kernel
theorem dX6_changes_79 : decode cX6_changes 79 = .ok (.iaload, 1) := by decide +kernel
theorem dX6_changes_80 : decode cX6_changes 80 = .ok (.iastore, 1) := by decide +kernel
theorem dX6_changes_81 : decode cX6_changes 81 = .ok (.iload_n 2, 1) := by decide +kernel
theorem dX6_changes_82 : decode cX6_changes 82 = .ok (.iload 4, 2) := by decide +kernel
theorem dX6_changes_84 : decode cX6_changes 84 = .ok (.ifCond .eq 7, 3) := by decide +kernel
theorem dX6_changes_87 : decode cX6_changes 87 = .ok (.iconst 1, 1) := by decide +kernel
theorem dX6_changes_88 : decode cX6_changes 88 = .ok (.goto 4, 3) := by decide +kernel
theorem dX6_changes_91 : decode cX6_changes 91 = .ok (.iconst 0, 1) := by decide +kernel
theorem dX6_changes_92 : decode cX6_changes 92 = .ok (.iadd, 1) := by decide +kernel
theorem dX6_changes_93 : decode cX6_changes 93 = .ok (.istore_n 2, 1) := by decide +kernel
theorem dX6_changes_94 : decode cX6_changes 94 = .ok (.iinc 3 1, 3) := by decide +kernel
theorem dX6_changes_97 : decode cX6_changes 97 = .ok (.goto (-82), 3) := by decide +kernel
theorem dX6_changes_100 : decode cX6_changes 100 = .ok (.iload_n 2, 1) := by decide +kernel
theorem dX6_changes_101 : decode cX6_changes 101 = .ok (.ireturn, 1) := by decide +kernel
theorem dX6_enter_0 : decode cX6_enter 0 = .ok (.iload_n 1, 1) := by decide +kernel
theorem dX6_enter_1 : decode cX6_enter 1 = .ok (.invokestatic 104, 3) := by decide +kernel
theorem dX6_enter_4 : decode cX6_enter 4 = .ok (.ifCond .ne 9, 3) := by decide +kernel
theorem dX6_enter_7 : decode cX6_enter 7 = .ok (.aload_n 0, 1) := by decide +kernel
theorem dX6_enter_8 : decode cX6_enter 8 = .ok (.iconst 1, 1) := by decide +kernel
theorem dX6_enter_9 : decode cX6_enter 9 = .ok (.invokevirtual 118, 3) := by decide +kernel
theorem dX6_enter_12 : decode cX6_enter 12 = .ok (.ireturn, 1) := by decide +kernel
theorem dX6_enter_13 : decode cX6_enter 13 = .ok (.iconst 0, 1) := by decide +kernel
theorem dX6_enter_14 : decode cX6_enter 14 = .ok (.istore_n 2, 1) := by decide +kernel
theorem dX6_enter_15 : decode cX6_enter 15 = .ok (.iconst 0, 1) := by decide +kernel
theorem dX6_enter_16 : decode cX6_enter 16 = .ok (.istore_n 3, 1) := by decide +kernel
theorem dX6_enter_17 : decode cX6_enter 17 = .ok (.iload_n 3, 1) := by decide +kernel
theorem dX6_enter_18 : decode cX6_enter 18 = .ok (.aload_n 0, 1) := by decide +kernel
theorem dX6_enter_19 : decode cX6_enter 19 = .ok (.getfield 94, 3) := by decide +kernel
theorem dX6_enter_22 : decode cX6_enter 22 = .ok (.if_icmp .ge 34, 3) := by decide +kernel
theorem dX6_enter_25 : decode cX6_enter 25 = .ok (.iload_n 2, 1) := by decide +kernel
theorem dX6_enter_26 : decode cX6_enter 26 = .ok (.aload_n 0, 1) := by decide +kernel
theorem dX6_enter_27 : decode cX6_enter 27 = .ok (.getfield 7, 3) := by decide +kernel
theorem dX6_enter_30 : decode cX6_enter 30 = .ok (.iload_n 3, 1) := by decide +kernel
theorem dX6_enter_31 : decode cX6_enter 31 = .ok (.iaload, 1) := by decide +kernel
theorem dX6_enter_32 : decode cX6_enter 32 = .ok (.iconst 1, 1) := by decide +kernel
theorem dX6_enter_33 : decode cX6_enter 33 = .ok (.if_icmp .ne 14, 3) := by decide +kernel
theorem dX6_enter_36 : decode cX6_enter 36 = .ok (.iconst 1, 1) := by decide +kernel
theorem dX6_enter_37 : decode cX6_enter 37 = .ok (.aload_n 0, 1) := by decide +kernel
theorem dX6_enter_38 : decode cX6_enter 38 = .ok (.getfield 13, 3) := by decide +kernel
theorem dX6_enter_41 : decode cX6_enter 41 = .ok (.iload_n 3, 1) := by decide +kernel
theorem dX6_enter_42 : decode cX6_enter 42 = .ok (.iaload, 1) := by decide +kernel
theorem dX6_enter_43 : decode cX6_enter 43 = .ok (.ishl, 1) := by decide +kernel
theorem dX6_enter_44 : decode cX6_enter 44 = .ok (.goto 4, 3) := by decide +kernel
theorem dX6_enter_47 : decode cX6_enter 47 = .ok (.iconst 0, 1) := by decide +kernel
theorem dX6_enter_48 : decode cX6_enter 48 = .ok (.ior, 1) := by decide +kernel
theorem dX6_enter_49 : decode cX6_enter 49 = .ok (.istore_n 2, 1) := by decide +kernel
theorem dX6_enter_50 : decode cX6_enter 50 = .ok (.iinc 3 1, 3) := by decide +kernel
theorem dX6_enter_53 : decode cX6_enter 53 = .ok (.goto (-36), 3) := by decide +kernel
theorem dX6_enter_56 : decode cX6_enter 56 = .ok (.aload_n 0, 1) := by decide +kernel
theorem dX6_enter_57 : decode cX6_enter 57 = .ok (.aload_n 0, 1) := by decide +kernel
theorem dX6_enter_58 : decode cX6_enter 58 = .ok (.getfield 97, 3) := by decide +kernel
theorem dX6_enter_61 : decode cX6_enter 61 = .ok (.iconst 1, 1) := by decide +kernel
theorem dX6_enter_62 : decode cX6_enter 62 = .ok (.if_icmp .ne 16, 3) := by decide +kernel
theorem dX6_enter_65 : decode cX6_enter 65 = .ok (.aload_n 0, 1) := by decide +kernel
theorem dX6_enter_66 : decode cX6_enter 66 = .ok (.iload_n 2, 1) := by decide +kernel
theorem dX6_enter_67 : decode cX6_enter 67 = .ok (.invokevirtual 115, 3) := by decide +kernel
theorem dX6_enter_70 : decode cX6_enter 70 = .ok (.iload_n 1, 1) := by decide +kernel
theorem dX6_enter_71 : decode cX6_enter 71 = .ok (.ishr, 1) := by decide +kernel
theorem dX6_enter_72 : decode cX6_enter 72 = .ok (.iconst 1, 1) := by decide +kernel
theorem dX6_enter_73 : decode cX6_enter 73 = .ok (.iand, 1) := by decide +kernel
theorem dX6_enter_74 : decode cX6_enter 74 = .ok (.iconst 1, 1) := by decide +kernel
theorem dX6_enter_75 : decode cX6_enter 75 = .ok (.if_icmp .ne 7, 3) := by decide +kernel
theorem dX6_enter_78 : decode cX6_enter 78 = .ok (.iconst 2, 1) := by decide +kernel
theorem dX6_enter_79 : decode cX6_enter 79 = .ok (.goto 4, 3) := by decide +kernel
theorem dX6_enter_82 : decode cX6_enter 82 = .ok (.iconst 0, 1) := by decide +kernel
theorem dX6_enter_83 : decode cX6_enter 83 = .ok (.putfield 86, 3) := by decide +kernel
theorem dX6_enter_86 : decode cX6_enter 86 = .ok (.aload_n 0, 1) := by decide +kernel
theorem dX6_enter_87 : decode cX6_enter 87 = .ok (.getfield 86, 3) := by decide +kernel
theorem dX6_enter_90 : decode cX6_enter 90 = .ok (.ifCond .le 5, 3) := by decide +kernel
theorem dX6_enter_93 : decode cX6_enter 93 = .ok (.iconst 0, 1) := by decide +kernel
theorem dX6_enter_94 : decode cX6_enter 94 = .ok (.ireturn, 1) := by decide +kernel
theorem dX6_enter_95 : decode cX6_enter 95 = .ok (.iconst 0, 1) := by decide +kernel
theorem dX6_enter_96 : decode cX6_enter 96 = .ok (.istore_n 3, 1) := by decide +kernel
theorem dX6_enter_97 : decode cX6_enter 97 = .ok (.iload_n 3, 1) := by decide +kernel
theorem dX6_enter_98 : decode cX6_enter 98 = .ok (.aload_n 0, 1) := by decide +kernel
theorem dX6_enter_99 : decode cX6_enter 99 = .ok (.getfield 94, 3) := by decide +kernel
theorem dX6_enter_102 : decode cX6_enter 102 = .ok (.if_icmp .ge 43, 3) := by decide +kernel
theorem dX6_enter_105 : decode cX6_enter 105 = .ok (.aload_n 0, 1) := by decide +kernel
theorem dX6_enter_106 : decode cX6_enter 106 = .ok (.getfield 19, 3) := by decide +kernel
theorem dX6_enter_109 : decode cX6_enter 109 = .ok (.bipush 12, 2) := by decide +kernel
theorem dX6_enter_111 : decode cX6_enter 111 = .ok (.iload_n 1, 1) := by decide +kernel
theorem dX6_enter_112 : decode cX6_enter 112 = .ok (.imul, 1) := by decide +kernel
theorem dX6_enter_113 : decode cX6_enter 113 = .ok (.iload_n 3, 1) := by decide +kernel
theorem dX6_enter_114 : decode cX6_enter 114 = .ok (.iadd, 1) := by decide +kernel
theorem dX6_enter_115 : decode cX6_enter 115 = .ok (.aload_n 0, 1) := by decide +kernel
theorem dX6_enter_116 : decode cX6_enter 116 = .ok (.getfield 7, 3) := by decide +kernel
theorem dX6_enter_119 : decode cX6_enter 119 = .ok (.iload_n 3, 1) := by decide +kernel
theorem dX6_enter_120 : decode cX6_enter 120 = .ok (.iaload, 1) := by decide +kernel
theorem dX6_enter_121 : decode cX6_enter 121 = .ok (.iastore, 1) := by decide +kernel
theorem dX6_enter_122 : decode cX6_enter 122 = .ok (.aload_n 0, 1) := by decide +kernel
theorem dX6_enter_123 : decode cX6_enter 123 = .ok (.getfield 22, 3) := by decide +kernel
theorem dX6_enter_126 : decode cX6_enter 126 = .ok (.bipush 12, 2) := by decide +kernel
theorem dX6_enter_128 : decode cX6_enter 128 = .ok (.iload_n 1, 1) := by decide +kernel
theorem dX6_enter_129 : decode cX6_enter 129 = .ok (.imul, 1) := by decide +kernel
theorem dX6_enter_130 : decode cX6_enter 130 = .ok (.iload_n 3, 1) := by decide +kernel
theorem dX6_enter_131 : decode cX6_enter 131 = .ok (.iadd, 1) := by decide +kernel
theorem dX6_enter_132 : decode cX6_enter 132 = .ok (.aload_n 0, 1) := by decide +kernel
theorem dX6_enter_133 : decode cX6_enter 133 = .ok (.getfield 13, 3) := by decide +kernel
theorem dX6_enter_136 : decode cX6_enter 136 = .ok (.iload_n 3, 1) := by decide +kernel
theorem dX6_enter_137 : decode cX6_enter 137 = .ok (.iaload, 1) := by decide +kernel
theorem dX6_enter_138 : decode cX6_enter 138 = .ok (.iastore, 1) := by decide +kernel
theorem dX6_enter_139 : decode cX6_enter 139 = .ok (.iinc 3 1, 3) := by decide +kernel
theorem dX6_enter_142 : decode cX6_enter 142 = .ok (.goto (-45), 3) := by decide +kernel
theorem dX6_enter_145 : decode cX6_enter 145 = .ok (.aload_n 0, 1) := by decide +kernel
theorem dX6_enter_146 : decode cX6_enter 146 = .ok (.getfield 16, 3) := by decide +kernel
theorem dX6_enter_149 : decode cX6_enter 149 = .ok (.iload_n 1, 1) := by decide +kernel
theorem dX6_enter_150 : decode cX6_enter 150 = .ok (.aload_n 0, 1) := by decide +kernel
theorem dX6_enter_151 : decode cX6_enter 151 = .ok (.getfield 94, 3) := by decide +kernel
theorem dX6_enter_154 : decode cX6_enter 154 = .ok (.iastore, 1) := by decide +kernel
theorem dX6_enter_155 : decode cX6_enter 155 = .ok (.aload_n 0, 1) := by decide +kernel
theorem dX6_enter_156 : decode cX6_enter 156 = .ok (.iconst 0, 1) := by decide +kernel
theorem dX6_enter_157 : decode cX6_enter 157 = .ok (.putfield 94, 3) := by decide +kernel
theorem dX6_enter_160 : decode cX6_enter 160 = .ok (.aload_n 0, 1) := by decide +kernel
theorem dX6_enter_161 : decode cX6_enter 161 = .ok (.iconst 0, 1) := by decide +kernel
theorem dX6_enter_162 : decode cX6_enter 162 = .ok (.putfield 97, 3) := by decide +kernel
theorem dX6_enter_165 : decode cX6_enter 165 = .ok (.aload_n 0, 1) := by decide +kernel
theorem dX6_enter_166 : decode cX6_enter 166 = .ok (.iload_n 1, 1) := by decide +kernel
theorem dX6_enter_167 : decode cX6_enter 167 = .ok (.invokevirtual 121, 3) := by decide +kernel
theorem dX6_enter_170 : decode cX6_enter 170 = .ok (.ireturn, 1) := by decide +kernel
theorem dX6_input_0 : decode cX6_input 0 = .ok (.aload_n 0, 1) := by decide +kernel
theorem dX6_input_1 : decode cX6_input 1 = .ok (.iload_n 1, 1) := by decide +kernel
theorem dX6_input_2 : decode cX6_input 2 = .ok (.invokestatic 104, 3) := by decide +kernel
theorem dX6_input_5 : decode cX6_input 5 = .ok (.ifCond .ne 7, 3) := by decide +kernel
theorem dX6_input_8 : decode cX6_input 8 = .ok (.iconst 1, 1) := by decide +kernel
theorem dX6_input_9 : decode cX6_input 9 = .ok (.goto 29, 3) := by decide +kernel
theorem dX6_input_12 : decode cX6_input 12 = .ok (.iload_n 2, 1) := by decide +kernel
theorem dX6_input_13 : decode cX6_input 13 = .ok (.ldc 124, 2) := by decide +kernel
theorem dX6_input_15 : decode cX6_input 15 = .ok (.ldc 125, 2) := by decide +kernel
theorem dX6_input_17 : decode cX6_input 17 = .ok (.invokestatic 90, 3) := by decide +kernel
theorem dX6_input_20 : decode cX6_input 20 = .ok (.ifCond .eq 17, 3) := by decide +kernel
theorem dX6_input_23 : decode cX6_input 23 = .ok (.iload_n 3, 1) := by decide +kernel
theorem dX6_input_24 : decode cX6_input 24 = .ok (.iload_n 2, 1) := by decide +kernel
theorem dX6_input_25 : decode cX6_input 25 = .ok (.ldc 125, 2) := by decide +kernel
theorem dX6_input_27 : decode cX6_input 27 = .ok (.invokestatic 90, 3) := by decide +kernel
theorem dX6_input_30 : decode cX6_input 30 = .ok (.ifCond .eq 7, 3) := by decide +kernel
theorem dX6_input_33 : decode cX6_input 33 = .ok (.iconst 0, 1) := by decide +kernel
theorem dX6_input_34 : decode cX6_input 34 = .ok (.goto 4, 3) := by decide +kernel
theorem dX6_input_37 : decode cX6_input 37 = .ok (.iconst 2, 1) := by decide +kernel
theorem dX6_input_38 : decode cX6_input 38 = .ok (.putfield 86, 3) := by decide +kernel
theorem dX6_input_41 : decode cX6_input 41 = .ok (.aload_n 0, 1) := by decide +kernel
theorem dX6_input_42 : decode cX6_input 42 = .ok (.getfield 86, 3) := by decide +kernel
theorem dX6_input_45 : decode cX6_input 45 = .ok (.ifCond .le 5, 3) := by decide +kernel
theorem dX6_input_48 : decode cX6_input 48 = .ok (.iconst 0, 1) := by decide +kernel
theorem dX6_input_49 : decode cX6_input 49 = .ok (.ireturn, 1) := by decide +kernel
theorem dX6_input_50 : decode cX6_input 50 = .ok (.aload_n 0, 1) := by decide +kernel
theorem dX6_input_51 : decode cX6_input 51 = .ok (.getfield 16, 3) := by decide +kernel
theorem dX6_input_54 : decode cX6_input 54 = .ok (.iload_n 1, 1) := by decide +kernel
theorem dX6_input_55 : decode cX6_input 55 = .ok (.iconst 0, 1) := by decide +kernel
theorem dX6_input_56 : decode cX6_input 56 = .ok (.iastore, 1) := by decide +kernel
theorem dX6_input_57 : decode cX6_input 57 = .ok (.aload_n 0, 1) := by decide +kernel
theorem dX6_input_58 : decode cX6_input 58 = .ok (.getfield 25, 3) := by decide +kernel
theorem dX6_input_61 : decode cX6_input 61 = .ok (.iload_n 1, 1) := by decide +kernel
theorem dX6_input_62 : decode cX6_input 62 = .ok (.iload_n 2, 1) := by decide +kernel
theorem dX6_input_63 : decode cX6_input 63 = .ok (.iastore, 1) := by decide +kernel
theorem dX6_input_64 : decode cX6_input 64 = .ok (.aload_n 0, 1) := by decide +kernel
theorem dX6_input_65 : decode cX6_input 65 = .ok (.getfield 28, 3) := by decide +kernel
theorem dX6_input_68 : decode cX6_input 68 = .ok (.iload_n 1, 1) := by decide +kernel
theorem dX6_input_69 : decode cX6_input 69 = .ok (.iload_n 3, 1) := by decide +kernel
theorem dX6_input_70 : decode cX6_input 70 = .ok (.iastore, 1) := by decide +kernel
theorem dX6_input_71 : decode cX6_input 71 = .ok (.aload_n 0, 1) := by decide +kernel
theorem dX6_input_72 : decode cX6_input 72 = .ok (.getfield 31, 3) := by decide +kernel
theorem dX6_input_75 : decode cX6_input 75 = .ok (.iload_n 1, 1) := by decide +kernel
theorem dX6_input_76 : decode cX6_input 76 = .ok (.iload_n 2, 1) := by decide +kernel
theorem dX6_input_77 : decode cX6_input 77 = .ok (.iastore, 1) := by decide +kernel
theorem dX6_input_78 : decode cX6_input 78 = .ok (.aload_n 0, 1) := by decide +kernel
theorem dX6_input_79 : decode cX6_input 79 = .ok (.iload_n 1, 1) := by decide +kernel
theorem dX6_input_80 : decode cX6_input 80 = .ok (.invokevirtual 121, 3) := by decide +kernel
theorem dX6_input_83 : decode cX6_input 83 = .ok (.ireturn, 1) := by decide +kernel
theorem dX6_set_0 : decode cX6_set 0 = .ok (.aload_n 0, 1) := by decide +kernel
theorem dX6_set_1 : decode cX6_set 1 = .ok (.iload_n 1, 1) := by decide +kernel
theorem dX6_set_2 : decode cX6_set 2 = .ok (.invokestatic 104, 3) := by decide +kernel
theorem dX6_set_5 : decode cX6_set 5 = .ok (.ifCond .ne 7, 3) := by decide +kernel
theorem dX6_set_8 : decode cX6_set 8 = .ok (.iconst 1, 1) := by decide +kernel
theorem dX6_set_9 : decode cX6_set 9 = .ok (.goto 40, 3) := by decide +kernel
theorem dX6_set_12 : decode cX6_set 12 = .ok (.aload_n 0, 1) := by decide +kernel
theorem dX6_set_13 : decode cX6_set 13 = .ok (.getfield 16, 3) := by decide +kernel
theorem dX6_set_16 : decode cX6_set 16 = .ok (.iload_n 1, 1) := by decide +kernel
theorem dX6_set_17 : decode cX6_set 17 = .ok (.iaload, 1) := by decide +kernel
theorem dX6_set_18 : decode cX6_set 18 = .ok (.ifCond .le 7, 3) := by decide +kernel
theorem dX6_set_21 : decode cX6_set 21 = .ok (.iconst 2, 1) := by decide +kernel
theorem dX6_set_22 : decode cX6_set 22 = .ok (.goto 27, 3) := by decide +kernel
theorem dX6_set_25 : decode cX6_set 25 = .ok (.iload_n 2, 1) := by decide +kernel
theorem dX6_set_26 : decode cX6_set 26 = .ok (.aload_n 0, 1) := by decide +kernel
theorem dX6_set_27 : decode cX6_set 27 = .ok (.getfield 25, 3) := by decide +kernel
theorem dX6_set_30 : decode cX6_set 30 = .ok (.iload_n 1, 1) := by decide +kernel
theorem dX6_set_31 : decode cX6_set 31 = .ok (.iaload, 1) := by decide +kernel
theorem dX6_set_32 : decode cX6_set 32 = .ok (.aload_n 0, 1) := by decide +kernel
theorem dX6_set_33 : decode cX6_set 33 = .ok (.getfield 28, 3) := by decide +kernel
theorem dX6_set_36 : decode cX6_set 36 = .ok (.iload_n 1, 1) := by decide +kernel
theorem dX6_set_37 : decode cX6_set 37 = .ok (.iaload, 1) := by decide +kernel
theorem dX6_set_38 : decode cX6_set 38 = .ok (.invokestatic 90, 3) := by decide +kernel
theorem dX6_set_41 : decode cX6_set 41 = .ok (.ifCond .eq 7, 3) := by decide +kernel
theorem dX6_set_44 : decode cX6_set 44 = .ok (.iconst 0, 1) := by decide +kernel
theorem dX6_set_45 : decode cX6_set 45 = .ok (.goto 4, 3) := by decide +kernel
theorem dX6_set_48 : decode cX6_set 48 = .ok (.iconst 3, 1) := by decide +kernel
theorem dX6_set_49 : decode cX6_set 49 = .ok (.putfield 86, 3) := by decide +kernel
theorem dX6_set_52 : decode cX6_set 52 = .ok (.aload_n 0, 1) := by decide +kernel
theorem dX6_set_53 : decode cX6_set 53 = .ok (.getfield 86, 3) := by decide +kernel
theorem dX6_set_56 : decode cX6_set 56 = .ok (.ifCond .le 5, 3) := by decide +kernel
theorem dX6_set_59 : decode cX6_set 59 = .ok (.iconst 0, 1) := by decide +kernel
theorem dX6_set_60 : decode cX6_set 60 = .ok (.ireturn, 1) := by decide +kernel
theorem dX6_set_61 : decode cX6_set 61 = .ok (.aload_n 0, 1) := by decide +kernel
theorem dX6_set_62 : decode cX6_set 62 = .ok (.getfield 31, 3) := by decide +kernel
theorem dX6_set_65 : decode cX6_set 65 = .ok (.iload_n 1, 1) := by decide +kernel
theorem dX6_set_66 : decode cX6_set 66 = .ok (.iaload, 1) := by decide +kernel
theorem dX6_set_67 : decode cX6_set 67 = .ok (.istore_n 3, 1) := by decide +kernel
theorem dX6_set_68 : decode cX6_set 68 = .ok (.aload_n 0, 1) := by decide +kernel
theorem dX6_set_69 : decode cX6_set 69 = .ok (.getfield 31, 3) := by decide +kernel
theorem dX6_set_72 : decode cX6_set 72 = .ok (.iload_n 1, 1) := by decide +kernel
theorem dX6_set_73 : decode cX6_set 73 = .ok (.iload_n 2, 1) := by decide +kernel
theorem dX6_set_74 : decode cX6_set 74 = .ok (.iastore, 1) := by decide +kernel
theorem dX6_set_75 : decode cX6_set 75 = .ok (.iload_n 3, 1) := by decide +kernel
theorem dX6_set_76 : decode cX6_set 76 = .ok (.ireturn, 1) := by decide +kernel
theorem dX6_tell_0 : decode cX6_tell 0 = .ok (.iload_n 2, 1) := by decide +kernel
theorem dX6_tell_1 : decode cX6_tell 1 = .ok (.iconst 2, 1) := by decide +kernel
theorem dX6_tell_2 : decode cX6_tell 2 = .ok (.if_icmp .eq 8, 3) := by decide +kernel
theorem dX6_tell_5 : decode cX6_tell 5 = .ok (.iload_n 2, 1) := by decide +kernel
theorem dX6_tell_6 : decode cX6_tell 6 = .ok (.iconst 3, 1) := by decide +kernel
theorem dX6_tell_7 : decode cX6_tell 7 = .ok (.if_icmp .ne 7, 3) := by decide +kernel
theorem dX6_tell_10 : decode cX6_tell 10 = .ok (.iconst 1, 1) := by decide +kernel
theorem dX6_tell_11 : decode cX6_tell 11 = .ok (.goto 4, 3) := by decide +kernel
theorem dX6_tell_14 : decode cX6_tell 14 = .ok (.iconst 0, 1) := by decide +kernel
theorem dX6_tell_15 : decode cX6_tell 15 = .ok (.istore 4, 2) := by decide +kernel
theorem dX6_tell_17 : decode cX6_tell 17 = .ok (.aload_n 0, 1) := by decide +kernel
theorem dX6_tell_18 : decode cX6_tell 18 = .ok (.iload_n 1, 1) := by decide +kernel
theorem dX6_tell_19 : decode cX6_tell 19 = .ok (.invokestatic 104, 3) := by decide +kernel
theorem dX6_tell_22 : decode cX6_tell 22 = .ok (.ifCond .eq 15, 3) := by decide +kernel
theorem dX6_tell_25 : decode cX6_tell 25 = .ok (.iload 4, 2) := by decide +kernel
theorem dX6_tell_27 : decode cX6_tell 27 = .ok (.ifCond .eq 14, 3) := by decide +kernel
theorem dX6_tell_30 : decode cX6_tell 30 = .ok (.iload_n 3, 1) := by decide +kernel
theorem dX6_tell_31 : decode cX6_tell 31 = .ok (.invokestatic 104, 3) := by decide +kernel
theorem dX6_tell_34 : decode cX6_tell 34 = .ok (.ifCond .ne 7, 3) := by decide +kernel
theorem dX6_tell_37 : decode cX6_tell 37 = .ok (.iconst 1, 1) := by decide +kernel
theorem dX6_tell_38 : decode cX6_tell 38 = .ok (.goto 17, 3) := by decide +kernel
theorem dX6_tell_41 : decode cX6_tell 41 = .ok (.iload_n 2, 1) := by decide +kernel
theorem dX6_tell_42 : decode cX6_tell 42 = .ok (.iconst 0, 1) := by decide +kernel
theorem dX6_tell_43 : decode cX6_tell 43 = .ok (.iconst 3, 1) := by decide +kernel
theorem dX6_tell_44 : decode cX6_tell 44 = .ok (.invokestatic 90, 3) := by decide +kernel
theorem dX6_tell_47 : decode cX6_tell 47 = .ok (.ifCond .ne 7, 3) := by decide +kernel
theorem dX6_tell_50 : decode cX6_tell 50 = .ok (.iconst 2, 1) := by decide +kernel
theorem dX6_tell_51 : decode cX6_tell 51 = .ok (.goto 4, 3) := by decide +kernel
theorem dX6_tell_54 : decode cX6_tell 54 = .ok (.iconst 0, 1) := by decide +kernel
theorem dX6_tell_55 : decode cX6_tell 55 = .ok (.putfield 86, 3) := by decide +kernel
theorem dX6_tell_58 : decode cX6_tell 58 = .ok (.aload_n 0, 1) := by decide +kernel
theorem dX6_tell_59 : decode cX6_tell 59 = .ok (.getfield 86, 3) := by decide +kernel
theorem dX6_tell_62 : decode cX6_tell 62 = .ok (.ifCond .le 5, 3) := by decide +kernel
theorem dX6_tell_65 : decode cX6_tell 65 = .ok (.iconst 0, 1) := by decide +kernel
theorem dX6_tell_66 : decode cX6_tell 66 = .ok (.ireturn, 1) := by decide +kernel
theorem dX6_tell_67 : decode cX6_tell 67 = .ok (.aload_n 0, 1) := by decide +kernel
theorem dX6_tell_68 : decode cX6_tell 68 = .ok (.getfield 37, 3) := by decide +kernel
theorem dX6_tell_71 : decode cX6_tell 71 = .ok (.iload_n 1, 1) := by decide +kernel
theorem dX6_tell_72 : decode cX6_tell 72 = .ok (.iaload, 1) := by decide +kernel
theorem dX6_tell_73 : decode cX6_tell 73 = .ok (.iconst 4, 1) := by decide +kernel
theorem dX6_tell_74 : decode cX6_tell 74 = .ok (.if_icmp .ne 9, 3) := by decide +kernel
theorem dX6_tell_77 : decode cX6_tell 77 = .ok (.aload_n 0, 1) := by decide +kernel
theorem dX6_tell_78 : decode cX6_tell 78 = .ok (.iconst 3, 1) := by decide +kernel
theorem dX6_tell_79 : decode cX6_tell 79 = .ok (.invokevirtual 118, 3) := by decide +kernel
theorem dX6_tell_82 : decode cX6_tell 82 = .ok (.ireturn, 1) := by decide +kernel
theorem dX6_tell_83 : decode cX6_tell 83 = .ok (.aload_n 0, 1) := by decide +kernel
theorem dX6_tell_84 : decode cX6_tell 84 = .ok (.getfield 40, 3) := by decide +kernel
theorem dX6_tell_87 : decode cX6_tell 87 = .ok (.iconst 4, 1) := by decide +kernel
theorem dX6_tell_88 : decode cX6_tell 88 = .ok (.iload_n 1, 1) := by decide +kernel
theorem dX6_tell_89 : decode cX6_tell 89 = .ok (.imul, 1) := by decide +kernel
theorem dX6_tell_90 : decode cX6_tell 90 = .ok (.aload_n 0, 1) := by decide +kernel
theorem dX6_tell_91 : decode cX6_tell 91 = .ok (.getfield 37, 3) := by decide +kernel
theorem dX6_tell_94 : decode cX6_tell 94 = .ok (.iload_n 1, 1) := by decide +kernel
theorem dX6_tell_95 : decode cX6_tell 95 = .ok (.iaload, 1) := by decide +kernel
theorem dX6_tell_96 : decode cX6_tell 96 = .ok (.iadd, 1) := by decide +kernel
theorem dX6_tell_97 : decode cX6_tell 97 = .ok (.iload_n 2, 1) := by decide +kernel
theorem dX6_tell_98 : decode cX6_tell 98 = .ok (.iastore, 1) := by decide +kernel
theorem dX6_tell_99 : decode cX6_tell 99 = .ok (.aload_n 0, 1) := by decide +kernel
theorem dX6_tell_100 : decode cX6_tell 100 = .ok (.getfield 43, 3) := by decide +kernel
theorem dX6_tell_103 : decode cX6_tell 103 = .ok (.iconst 4, 1) := by decide +kernel
theorem dX6_tell_104 : decode cX6_tell 104 = .ok (.iload_n 1, 1) := by decide +kernel
theorem dX6_tell_105 : decode cX6_tell 105 = .ok (.imul, 1) := by decide +kernel
theorem dX6_tell_106 : decode cX6_tell 106 = .ok (.aload_n 0, 1) := by decide +kernel
theorem dX6_tell_107 : decode cX6_tell 107 = .ok (.getfield 37, 3) := by decide +kernel
theorem dX6_tell_110 : decode cX6_tell 110 = .ok (.iload_n 1, 1) := by decide +kernel
theorem dX6_tell_111 : decode cX6_tell 111 = .ok (.iaload, 1) := by decide +kernel
theorem dX6_tell_112 : decode cX6_tell 112 = .ok (.iadd, 1) := by decide +kernel
theorem dX6_tell_113 : decode cX6_tell 113 = .ok (.iload_n 3, 1) := by decide +kernel
theorem dX6_tell_114 : decode cX6_tell 114 = .ok (.iastore, 1) := by decide +kernel
theorem dX6_tell_115 : decode cX6_tell 115 = .ok (.aload_n 0, 1) := by decide +kernel
theorem dX6_tell_116 : decode cX6_tell 116 = .ok (.getfield 37, 3) := by decide +kernel
theorem dX6_tell_119 : decode cX6_tell 119 = .ok (.iload_n 1, 1) := by decide +kernel
theorem dX6_tell_120 : decode cX6_tell 120 = .ok (.dup2, 1) := by decide +kernel
theorem dX6_tell_121 : decode cX6_tell 121 = .ok (.iaload, 1) := by decide +kernel
theorem dX6_tell_122 : decode cX6_tell 122 = .ok (.iconst 1, 1) := by decide +kernel
theorem dX6_tell_123 : decode cX6_tell 123 = .ok (.iadd, 1) := by decide +kernel
theorem dX6_tell_124 : decode cX6_tell 124 = .ok (.iastore, 1) := by decide +kernel
theorem dX6_tell_125 : decode cX6_tell 125 = .ok (.aload_n 0, 1) := by decide +kernel
theorem dX6_tell_126 : decode cX6_tell 126 = .ok (.getfield 46, 3) := by decide +kernel
theorem dX6_tell_129 : decode cX6_tell 129 = .ok (.iload_n 1, 1) := by decide +kernel
theorem dX6_tell_130 : decode cX6_tell 130 = .ok (.aload_n 0, 1) := by decide +kernel
theorem dX6_tell_131 : decode cX6_tell 131 = .ok (.getfield 46, 3) := by decide +kernel
theorem dX6_tell_134 : decode cX6_tell 134 = .ok (.iload_n 1, 1) := by decide +kernel
theorem dX6_tell_135 : decode cX6_tell 135 = .ok (.iaload, 1) := by decide +kernel
theorem dX6_tell_136 : decode cX6_tell 136 = .ok (.iconst 1, 1) := by decide +kernel
theorem dX6_tell_137 : decode cX6_tell 137 = .ok (.if_icmp .ne 7, 3) := by decide +kernel
theorem dX6_tell_140 : decode cX6_tell 140 = .ok (.iconst 0, 1) := by decide +kernel
theorem dX6_tell_141 : decode cX6_tell 141 = .ok (.goto 9, 3) := by decide +kernel
theorem dX6_tell_144 : decode cX6_tell 144 = .ok (.aload_n 0, 1) := by decide +kernel
theorem dX6_tell_145 : decode cX6_tell 145 = .ok (.getfield 46, 3) := by decide +kernel
theorem dX6_tell_148 : decode cX6_tell 148 = .ok (.iload_n 1, 1) := by decide +kernel
theorem dX6_tell_149 : decode cX6_tell 149 = .ok (.iaload, 1) := by decide +kernel
theorem dX6_tell_150 : decode cX6_tell 150 = .ok (.iastore, 1) := by decide +kernel
theorem dX6_tell_151 : decode cX6_tell 151 = .ok (.aload_n 0, 1) := by decide +kernel
theorem dX6_tell_152 : decode cX6_tell 152 = .ok (.getfield 37, 3) := by decide +kernel
theorem dX6_tell_155 : decode cX6_tell 155 = .ok (.iload_n 1, 1) := by decide +kernel
theorem dX6_tell_156 : decode cX6_tell 156 = .ok (.iaload, 1) := by decide +kernel
theorem dX6_tell_157 : decode cX6_tell 157 = .ok (.ireturn, 1) := by decide +kernel
theorem dX6_drop_0 : decode cX6_drop 0 = .ok (.iload_n 1, 1) := by decide +kernel
theorem dX6_drop_1 : decode cX6_drop 1 = .ok (.invokestatic 104, 3) := by decide +kernel
theorem dX6_drop_4 : decode cX6_drop 4 = .ok (.ifCond .ne 9, 3) := by decide +kernel
theorem dX6_drop_7 : decode cX6_drop 7 = .ok (.aload_n 0, 1) := by decide +kernel
theorem dX6_drop_8 : decode cX6_drop 8 = .ok (.iconst 1, 1) := by decide +kernel
theorem dX6_drop_9 : decode cX6_drop 9 = .ok (.invokevirtual 118, 3) := by decide +kernel
theorem dX6_drop_12 : decode cX6_drop 12 = .ok (.ireturn, 1) := by decide +kernel
theorem dX6_drop_13 : decode cX6_drop 13 = .ok (.aload_n 0, 1) := by decide +kernel
theorem dX6_drop_14 : decode cX6_drop 14 = .ok (.iconst 0, 1) := by decide +kernel
theorem dX6_drop_15 : decode cX6_drop 15 = .ok (.putfield 86, 3) := by decide +kernel
theorem dX6_drop_18 : decode cX6_drop 18 = .ok (.aload_n 0, 1) := by decide +kernel
theorem dX6_drop_19 : decode cX6_drop 19 = .ok (.getfield 37, 3) := by decide +kernel
theorem dX6_drop_22 : decode cX6_drop 22 = .ok (.iload_n 1, 1) := by decide +kernel
theorem dX6_drop_23 : decode cX6_drop 23 = .ok (.iaload, 1) := by decide +kernel
theorem dX6_drop_24 : decode cX6_drop 24 = .ok (.istore_n 2, 1) := by decide +kernel
theorem dX6_drop_25 : decode cX6_drop 25 = .ok (.aload_n 0, 1) := by decide +kernel
theorem dX6_drop_26 : decode cX6_drop 26 = .ok (.getfield 37, 3) := by decide +kernel
theorem dX6_drop_29 : decode cX6_drop 29 = .ok (.iload_n 1, 1) := by decide +kernel
theorem dX6_drop_30 : decode cX6_drop 30 = .ok (.iconst 0, 1) := by decide +kernel
theorem dX6_drop_31 : decode cX6_drop 31 = .ok (.iastore, 1) := by decide +kernel
theorem dX6_drop_32 : decode cX6_drop 32 = .ok (.iload_n 2, 1) := by decide +kernel
theorem dX6_drop_33 : decode cX6_drop 33 = .ok (.ireturn, 1) := by decide +kernel
theorem dX6_own_0 : decode cX6_own 0 = .ok (.aload_n 0, 1) := by decide +kernel
theorem dX6_own_1 : decode cX6_own 1 = .ok (.iload_n 1, 1) := by decide +kernel
theorem dX6_own_2 : decode cX6_own 2 = .ok (.invokestatic 104, 3) := by decide +kernel
theorem dX6_own_5 : decode cX6_own 5 = .ok (.ifCond .ne 7, 3) := by decide +kernel
theorem dX6_own_8 : decode cX6_own 8 = .ok (.iconst 1, 1) := by decide +kernel
theorem dX6_own_9 : decode cX6_own 9 = .ok (.goto 17, 3) := by decide +kernel
theorem dX6_own_12 : decode cX6_own 12 = .ok (.iload_n 2, 1) := by decide +kernel
theorem dX6_own_13 : decode cX6_own 13 = .ok (.iconst 0, 1) := by decide +kernel
theorem dX6_own_14 : decode cX6_own 14 = .ok (.iconst 5, 1) := by decide +kernel
theorem dX6_own_15 : decode cX6_own 15 = .ok (.invokestatic 90, 3) := by decide +kernel
theorem dX6_own_18 : decode cX6_own 18 = .ok (.ifCond .eq 7, 3) := by decide +kernel
theorem dX6_own_21 : decode cX6_own 21 = .ok (.iconst 0, 1) := by decide +kernel
theorem dX6_own_22 : decode cX6_own 22 = .ok (.goto 4, 3) := by decide +kernel
theorem dX6_own_25 : decode cX6_own 25 = .ok (.iconst 2, 1) := by decide +kernel
theorem dX6_own_26 : decode cX6_own 26 = .ok (.putfield 86, 3) := by decide +kernel
theorem dX6_own_29 : decode cX6_own 29 = .ok (.aload_n 0, 1) := by decide +kernel
theorem dX6_own_30 : decode cX6_own 30 = .ok (.getfield 86, 3) := by decide +kernel
theorem dX6_own_33 : decode cX6_own 33 = .ok (.ifCond .le 5, 3) := by decide +kernel
theorem dX6_own_36 : decode cX6_own 36 = .ok (.iconst 0, 1) := by decide +kernel
theorem dX6_own_37 : decode cX6_own 37 = .ok (.ireturn, 1) := by decide +kernel
theorem dX6_own_38 : decode cX6_own 38 = .ok (.aload_n 0, 1) := by decide +kernel
theorem dX6_own_39 : decode cX6_own 39 = .ok (.getfield 34, 3) := by decide +kernel
theorem dX6_own_42 : decode cX6_own 42 = .ok (.iload_n 1, 1) := by decide +kernel
theorem dX6_own_43 : decode cX6_own 43 = .ok (.iaload, 1) := by decide +kernel
theorem dX6_own_44 : decode cX6_own 44 = .ok (.istore_n 3, 1) := by decide +kernel
theorem dX6_own_45 : decode cX6_own 45 = .ok (.aload_n 0, 1) := by decide +kernel
theorem dX6_own_46 : decode cX6_own 46 = .ok (.getfield 34, 3) := by decide +kernel
theorem dX6_own_49 : decode cX6_own 49 = .ok (.iload_n 1, 1) := by decide +kernel
theorem dX6_own_50 : decode cX6_own 50 = .ok (.iload_n 2, 1) := by decide +kernel
theorem dX6_own_51 : decode cX6_own 51 = .ok (.iastore, 1) := by decide +kernel
theorem dX6_own_52 : decode cX6_own 52 = .ok (.iload_n 3, 1) := by decide +kernel
theorem dX6_own_53 : decode cX6_own 53 = .ok (.ireturn, 1) := by decide +kernel
theorem dX6_of_0 : decode cX6_of 0 = .ok (.iload_n 0, 1) := by decide +kernel
theorem dX6_of_1 : decode cX6_of 1 = .ok (.tableswitch 134 0 10 #[59, 63, 67, 71, 75, 86, 97, 108, 119, 123, 127], 59) := by decide +kernel
theorem dX6_of_60 : decode cX6_of 60 = .ok (.iload_n 1, 1) := by decide +kernel
theorem dX6_of_61 : decode cX6_of 61 = .ok (.iload_n 2, 1) := by decide +kernel
theorem dX6_of_62 : decode cX6_of 62 = .ok (.iadd, 1) := by decide +kernel
theorem dX6_of_63 : decode cX6_of 63 = .ok (.ireturn, 1) := by decide +kernel
theorem dX6_of_64 : decode cX6_of 64 = .ok (.iload_n 1, 1) := by decide +kernel
theorem dX6_of_65 : decode cX6_of 65 = .ok (.iload_n 2, 1) := by decide +kernel
theorem dX6_of_66 : decode cX6_of 66 = .ok (.isub, 1) := by decide +kernel
theorem dX6_of_67 : decode cX6_of 67 = .ok (.ireturn, 1) := by decide +kernel
theorem dX6_of_68 : decode cX6_of 68 = .ok (.iload_n 1, 1) := by decide +kernel
theorem dX6_of_69 : decode cX6_of 69 = .ok (.iload_n 2, 1) := by decide +kernel
theorem dX6_of_70 : decode cX6_of 70 = .ok (.imul, 1) := by decide +kernel
theorem dX6_of_71 : decode cX6_of 71 = .ok (.ireturn, 1) := by decide +kernel
theorem dX6_of_72 : decode cX6_of 72 = .ok (.iload_n 1, 1) := by decide +kernel
theorem dX6_of_73 : decode cX6_of 73 = .ok (.iload_n 2, 1) := by decide +kernel
theorem dX6_of_74 : decode cX6_of 74 = .ok (.idiv, 1) := by decide +kernel
theorem dX6_of_75 : decode cX6_of 75 = .ok (.ireturn, 1) := by decide +kernel
theorem dX6_of_76 : decode cX6_of 76 = .ok (.iload_n 1, 1) := by decide +kernel
theorem dX6_of_77 : decode cX6_of 77 = .ok (.iload_n 2, 1) := by decide +kernel
theorem dX6_of_78 : decode cX6_of 78 = .ok (.if_icmp .ge 7, 3) := by decide +kernel
theorem dX6_of_81 : decode cX6_of 81 = .ok (.iload_n 1, 1) := by decide +kernel
theorem dX6_of_82 : decode cX6_of 82 = .ok (.goto 4, 3) := by decide +kernel
theorem dX6_of_85 : decode cX6_of 85 = .ok (.iload_n 2, 1) := by decide +kernel
theorem dX6_of_86 : decode cX6_of 86 = .ok (.ireturn, 1) := by decide +kernel
theorem dX6_of_87 : decode cX6_of 87 = .ok (.iload_n 1, 1) := by decide +kernel
theorem dX6_of_88 : decode cX6_of 88 = .ok (.iload_n 2, 1) := by decide +kernel
theorem dX6_of_89 : decode cX6_of 89 = .ok (.if_icmp .le 7, 3) := by decide +kernel
theorem dX6_of_92 : decode cX6_of 92 = .ok (.iload_n 1, 1) := by decide +kernel
theorem dX6_of_93 : decode cX6_of 93 = .ok (.goto 4, 3) := by decide +kernel
theorem dX6_of_96 : decode cX6_of 96 = .ok (.iload_n 2, 1) := by decide +kernel
theorem dX6_of_97 : decode cX6_of 97 = .ok (.ireturn, 1) := by decide +kernel
theorem dX6_of_98 : decode cX6_of 98 = .ok (.iload_n 1, 1) := by decide +kernel
theorem dX6_of_99 : decode cX6_of 99 = .ok (.iload_n 2, 1) := by decide +kernel
theorem dX6_of_100 : decode cX6_of 100 = .ok (.if_icmp .ge 7, 3) := by decide +kernel
theorem dX6_of_103 : decode cX6_of 103 = .ok (.iconst 1, 1) := by decide +kernel
theorem dX6_of_104 : decode cX6_of 104 = .ok (.goto 4, 3) := by decide +kernel
theorem dX6_of_107 : decode cX6_of 107 = .ok (.iconst 0, 1) := by decide +kernel
theorem dX6_of_108 : decode cX6_of 108 = .ok (.ireturn, 1) := by decide +kernel
theorem dX6_of_109 : decode cX6_of 109 = .ok (.iload_n 1, 1) := by decide +kernel
theorem dX6_of_110 : decode cX6_of 110 = .ok (.iload_n 2, 1) := by decide +kernel
theorem dX6_of_111 : decode cX6_of 111 = .ok (.if_icmp .ne 7, 3) := by decide +kernel
theorem dX6_of_114 : decode cX6_of 114 = .ok (.iconst 1, 1) := by decide +kernel
theorem dX6_of_115 : decode cX6_of 115 = .ok (.goto 4, 3) := by decide +kernel
theorem dX6_of_118 : decode cX6_of 118 = .ok (.iconst 0, 1) := by decide +kernel
theorem dX6_of_119 : decode cX6_of 119 = .ok (.ireturn, 1) := by decide +kernel
theorem dX6_of_120 : decode cX6_of 120 = .ok (.iload_n 1, 1) := by decide +kernel
theorem dX6_of_121 : decode cX6_of 121 = .ok (.iload_n 2, 1) := by decide +kernel
theorem dX6_of_122 : decode cX6_of 122 = .ok (.iand, 1) := by decide +kernel
theorem dX6_of_123 : decode cX6_of 123 = .ok (.ireturn, 1) := by decide +kernel
theorem dX6_of_124 : decode cX6_of 124 = .ok (.iload_n 1, 1) := by decide +kernel
theorem dX6_of_125 : decode cX6_of 125 = .ok (.iload_n 2, 1) := by decide +kernel
theorem dX6_of_126 : decode cX6_of 126 = .ok (.ior, 1) := by decide +kernel
theorem dX6_of_127 : decode cX6_of 127 = .ok (.ireturn, 1) := by decide +kernel
theorem dX6_of_128 : decode cX6_of 128 = .ok (.iload_n 1, 1) := by decide +kernel
theorem dX6_of_129 : decode cX6_of 129 = .ok (.iload_n 2, 1) := by decide +kernel
theorem dX6_of_130 : decode cX6_of 130 = .ok (.bipush 31, 2) := by decide +kernel
theorem dX6_of_132 : decode cX6_of 132 = .ok (.iand, 1) := by decide +kernel
theorem dX6_of_133 : decode cX6_of 133 = .ok (.ishl, 1) := by decide +kernel
theorem dX6_of_134 : decode cX6_of 134 = .ok (.ireturn, 1) := by decide +kernel
theorem dX6_of_135 : decode cX6_of 135 = .ok (.iload_n 1, 1) := by decide +kernel
theorem dX6_of_136 : decode cX6_of 136 = .ok (.iload_n 2, 1) := by decide +kernel
theorem dX6_of_137 : decode cX6_of 137 = .ok (.bipush 31, 2) := by decide +kernel
theorem dX6_of_139 : decode cX6_of 139 = .ok (.iand, 1) := by decide +kernel
theorem dX6_of_140 : decode cX6_of 140 = .ok (.ishr, 1) := by decide +kernel
theorem dX6_of_141 : decode cX6_of 141 = .ok (.ireturn, 1) := by decide +kernel
theorem dX6_reckons_0 : decode cX6_reckons 0 = .ok (.iconst 0, 1) := by decide +kernel
theorem dX6_reckons_1 : decode cX6_reckons 1 = .ok (.istore_n 2, 1) := by decide +kernel
theorem dX6_reckons_2 : decode cX6_reckons 2 = .ok (.aload_n 0, 1) := by decide +kernel
theorem dX6_reckons_3 : decode cX6_reckons 3 = .ok (.getfield 73, 3) := by decide +kernel
theorem dX6_reckons_6 : decode cX6_reckons 6 = .ok (.iload_n 1, 1) := by decide +kernel
theorem dX6_reckons_7 : decode cX6_reckons 7 = .ok (.iconst 0, 1) := by decide +kernel
theorem dX6_reckons_8 : decode cX6_reckons 8 = .ok (.bastore, 1) := by decide +kernel
theorem dX6_reckons_9 : decode cX6_reckons 9 = .ok (.iconst 0, 1) := by decide +kernel
theorem dX6_reckons_10 : decode cX6_reckons 10 = .ok (.istore_n 3, 1) := by decide +kernel
theorem dX6_reckons_11 : decode cX6_reckons 11 = .ok (.iload_n 3, 1) := by decide +kernel
theorem dX6_reckons_12 : decode cX6_reckons 12 = .ok (.aload_n 0, 1) := by decide +kernel
theorem dX6_reckons_13 : decode cX6_reckons 13 = .ok (.getfield 16, 3) := by decide +kernel
theorem dX6_reckons_16 : decode cX6_reckons 16 = .ok (.iload_n 1, 1) := by decide +kernel
theorem dX6_reckons_17 : decode cX6_reckons 17 = .ok (.iaload, 1) := by decide +kernel
theorem dX6_reckons_18 : decode cX6_reckons 18 = .ok (.if_icmp .ge 201, 3) := by decide +kernel
theorem dX6_reckons_21 : decode cX6_reckons 21 = .ok (.aload_n 0, 1) := by decide +kernel
theorem dX6_reckons_22 : decode cX6_reckons 22 = .ok (.getfield 22, 3) := by decide +kernel
theorem dX6_reckons_25 : decode cX6_reckons 25 = .ok (.bipush 12, 2) := by decide +kernel
theorem dX6_reckons_27 : decode cX6_reckons 27 = .ok (.iload_n 1, 1) := by decide +kernel
theorem dX6_reckons_28 : decode cX6_reckons 28 = .ok (.imul, 1) := by decide +kernel
theorem dX6_reckons_29 : decode cX6_reckons 29 = .ok (.iload_n 3, 1) := by decide +kernel
theorem dX6_reckons_30 : decode cX6_reckons 30 = .ok (.iadd, 1) := by decide +kernel
theorem dX6_reckons_31 : decode cX6_reckons 31 = .ok (.iaload, 1) := by decide +kernel
theorem dX6_reckons_32 : decode cX6_reckons 32 = .ok (.istore 4, 2) := by decide +kernel
theorem dX6_reckons_34 : decode cX6_reckons 34 = .ok (.aload_n 0, 1) := by decide +kernel
theorem dX6_reckons_35 : decode cX6_reckons 35 = .ok (.getfield 19, 3) := by decide +kernel
theorem dX6_reckons_38 : decode cX6_reckons 38 = .ok (.bipush 12, 2) := by decide +kernel
theorem dX6_reckons_40 : decode cX6_reckons 40 = .ok (.iload_n 1, 1) := by decide +kernel
theorem dX6_reckons_41 : decode cX6_reckons 41 = .ok (.imul, 1) := by decide +kernel
theorem dX6_reckons_42 : decode cX6_reckons 42 = .ok (.iload_n 3, 1) := by decide +kernel
theorem dX6_reckons_43 : decode cX6_reckons 43 = .ok (.iadd, 1) := by decide +kernel
theorem dX6_reckons_44 : decode cX6_reckons 44 = .ok (.iaload, 1) := by decide +kernel
theorem dX6_reckons_45 : decode cX6_reckons 45 = .ok (.iconst 2, 1) := by decide +kernel
theorem dX6_reckons_46 : decode cX6_reckons 46 = .ok (.if_icmp .ne 84, 3) := by decide +kernel
theorem dX6_reckons_49 : decode cX6_reckons 49 = .ok (.iinc 2 (-1), 3) := by decide +kernel
theorem dX6_reckons_52 : decode cX6_reckons 52 = .ok (.aload_n 0, 1) := by decide +kernel
theorem dX6_reckons_53 : decode cX6_reckons 53 = .ok (.getfield 73, 3) := by decide +kernel
theorem dX6_reckons_56 : decode cX6_reckons 56 = .ok (.iload_n 1, 1) := by decide +kernel
theorem dX6_reckons_57 : decode cX6_reckons 57 = .ok (.aload_n 0, 1) := by decide +kernel
theorem dX6_reckons_58 : decode cX6_reckons 58 = .ok (.getfield 73, 3) := by decide +kernel
theorem dX6_reckons_61 : decode cX6_reckons 61 = .ok (.iload_n 1, 1) := by decide +kernel
theorem dX6_reckons_62 : decode cX6_reckons 62 = .ok (.baload, 1) := by decide +kernel
theorem dX6_reckons_63 : decode cX6_reckons 63 = .ok (.ifCond .ne 18, 3) := by decide +kernel
theorem dX6_reckons_66 : decode cX6_reckons 66 = .ok (.iload 4, 2) := by decide +kernel
theorem dX6_reckons_68 : decode cX6_reckons 68 = .ok (.iconst 3, 1) := by decide +kernel
theorem dX6_reckons_69 : decode cX6_reckons 69 = .ok (.if_icmp .ne 16, 3) := by decide +kernel
theorem dX6_reckons_72 : decode cX6_reckons 72 = .ok (.aload_n 0, 1) := by decide +kernel
theorem dX6_reckons_73 : decode cX6_reckons 73 = .ok (.getfield 80, 3) := by decide +kernel
theorem dX6_reckons_76 : decode cX6_reckons 76 = .ok (.iload_n 2, 1) := by decide +kernel
theorem dX6_reckons_77 : decode cX6_reckons 77 = .ok (.iaload, 1) := by decide +kernel
theorem dX6_reckons_78 : decode cX6_reckons 78 = .ok (.ifCond .ne 7, 3) := by decide +kernel
theorem dX6_reckons_81 : decode cX6_reckons 81 = .ok (.iconst 1, 1) := by decide +kernel
theorem dX6_reckons_82 : decode cX6_reckons 82 = .ok (.goto 4, 3) := by decide +kernel
theorem dX6_reckons_85 : decode cX6_reckons 85 = .ok (.iconst 0, 1) := by decide +kernel
theorem dX6_reckons_86 : decode cX6_reckons 86 = .ok (.bastore, 1) := by decide +kernel
theorem dX6_reckons_87 : decode cX6_reckons 87 = .ok (.aload_n 0, 1) := by decide +kernel
theorem dX6_reckons_88 : decode cX6_reckons 88 = .ok (.getfield 80, 3) := by decide +kernel
theorem dX6_reckons_91 : decode cX6_reckons 91 = .ok (.iload_n 2, 1) := by decide +kernel
theorem dX6_reckons_92 : decode cX6_reckons 92 = .ok (.iconst 1, 1) := by decide +kernel
theorem dX6_reckons_93 : decode cX6_reckons 93 = .ok (.isub, 1) := by decide +kernel
theorem dX6_reckons_94 : decode cX6_reckons 94 = .ok (.aload_n 0, 1) := by decide +kernel
theorem dX6_reckons_95 : decode cX6_reckons 95 = .ok (.getfield 73, 3) := by decide +kernel
theorem dX6_reckons_98 : decode cX6_reckons 98 = .ok (.iload_n 1, 1) := by decide +kernel
theorem dX6_reckons_99 : decode cX6_reckons 99 = .ok (.baload, 1) := by decide +kernel
theorem dX6_reckons_100 : decode cX6_reckons 100 = .ok (.ifCond .eq 7, 3) := by decide +kernel
theorem dX6_reckons_103 : decode cX6_reckons 103 = .ok (.iconst 0, 1) := by decide +kernel
theorem dX6_reckons_104 : decode cX6_reckons 104 = .ok (.goto 22, 3) := by decide +kernel
theorem dX6_reckons_107 : decode cX6_reckons 107 = .ok (.iload 4, 2) := by decide +kernel
theorem dX6_reckons_109 : decode cX6_reckons 109 = .ok (.aload_n 0, 1) := by decide +kernel
theorem dX6_reckons_110 : decode cX6_reckons 110 = .ok (.getfield 80, 3) := by decide +kernel
theorem dX6_reckons_113 : decode cX6_reckons 113 = .ok (.iload_n 2, 1) := by decide +kernel
theorem dX6_reckons_114 : decode cX6_reckons 114 = .ok (.iconst 1, 1) := by decide +kernel
theorem dX6_reckons_115 : decode cX6_reckons 115 = .ok (.isub, 1) := by decide +kernel
theorem dX6_reckons_116 : decode cX6_reckons 116 = .ok (.iaload, 1) := by decide +kernel
theorem dX6_reckons_117 : decode cX6_reckons 117 = .ok (.aload_n 0, 1) := by decide +kernel
theorem dX6_reckons_118 : decode cX6_reckons 118 = .ok (.getfield 80, 3) := by decide +kernel
theorem dX6_reckons_121 : decode cX6_reckons 121 = .ok (.iload_n 2, 1) := by decide +kernel
theorem dX6_reckons_122 : decode cX6_reckons 122 = .ok (.iaload, 1) := by decide +kernel
theorem dX6_reckons_123 : decode cX6_reckons 123 = .ok (.invokestatic 126, 3) := by decide +kernel
theorem dX6_reckons_126 : decode cX6_reckons 126 = .ok (.iastore, 1) := by decide +kernel
theorem dX6_reckons_127 : decode cX6_reckons 127 = .ok (.goto 86, 3) := by decide +kernel
theorem dX6_reckons_130 : decode cX6_reckons 130 = .ok (.aload_n 0, 1) := by decide +kernel
theorem dX6_reckons_131 : decode cX6_reckons 131 = .ok (.getfield 19, 3) := by decide +kernel
theorem dX6_reckons_134 : decode cX6_reckons 134 = .ok (.bipush 12, 2) := by decide +kernel
theorem dX6_reckons_136 : decode cX6_reckons 136 = .ok (.iload_n 1, 1) := by decide +kernel
theorem dX6_reckons_137 : decode cX6_reckons 137 = .ok (.imul, 1) := by decide +kernel
theorem dX6_reckons_138 : decode cX6_reckons 138 = .ok (.iload_n 3, 1) := by decide +kernel
theorem dX6_reckons_139 : decode cX6_reckons 139 = .ok (.iadd, 1) := by decide +kernel
theorem dX6_reckons_140 : decode cX6_reckons 140 = .ok (.iaload, 1) := by decide +kernel
theorem dX6_reckons_141 : decode cX6_reckons 141 = .ok (.iconst 1, 1) := by decide +kernel
theorem dX6_reckons_142 : decode cX6_reckons 142 = .ok (.if_icmp .ne 7, 3) := by decide +kernel
theorem dX6_reckons_145 : decode cX6_reckons 145 = .ok (.iconst 1, 1) := by decide +kernel
theorem dX6_reckons_146 : decode cX6_reckons 146 = .ok (.goto 4, 3) := by decide +kernel
theorem dX6_reckons_149 : decode cX6_reckons 149 = .ok (.iconst 0, 1) := by decide +kernel
theorem dX6_reckons_150 : decode cX6_reckons 150 = .ok (.istore 5, 2) := by decide +kernel
theorem dX6_reckons_152 : decode cX6_reckons 152 = .ok (.aload_n 0, 1) := by decide +kernel
theorem dX6_reckons_153 : decode cX6_reckons 153 = .ok (.getfield 73, 3) := by decide +kernel
theorem dX6_reckons_156 : decode cX6_reckons 156 = .ok (.iload_n 1, 1) := by decide +kernel
theorem dX6_reckons_157 : decode cX6_reckons 157 = .ok (.aload_n 0, 1) := by decide +kernel
theorem dX6_reckons_158 : decode cX6_reckons 158 = .ok (.getfield 73, 3) := by decide +kernel
theorem dX6_reckons_161 : decode cX6_reckons 161 = .ok (.iload_n 1, 1) := by decide +kernel
theorem dX6_reckons_162 : decode cX6_reckons 162 = .ok (.baload, 1) := by decide +kernel
theorem dX6_reckons_163 : decode cX6_reckons 163 = .ok (.ifCond .ne 18, 3) := by decide +kernel
theorem dX6_reckons_166 : decode cX6_reckons 166 = .ok (.iload 5, 2) := by decide +kernel
theorem dX6_reckons_168 : decode cX6_reckons 168 = .ok (.ifCond .eq 17, 3) := by decide +kernel
theorem dX6_reckons_171 : decode cX6_reckons 171 = .ok (.aload_n 0, 1) := by decide +kernel
theorem dX6_reckons_172 : decode cX6_reckons 172 = .ok (.getfield 73, 3) := by decide +kernel
theorem dX6_reckons_175 : decode cX6_reckons 175 = .ok (.iload 4, 2) := by decide +kernel
theorem dX6_reckons_177 : decode cX6_reckons 177 = .ok (.baload, 1) := by decide +kernel
theorem dX6_reckons_178 : decode cX6_reckons 178 = .ok (.ifCond .eq 7, 3) := by decide +kernel
theorem dX6_reckons_181 : decode cX6_reckons 181 = .ok (.iconst 1, 1) := by decide +kernel
theorem dX6_reckons_182 : decode cX6_reckons 182 = .ok (.goto 4, 3) := by decide +kernel
theorem dX6_reckons_185 : decode cX6_reckons 185 = .ok (.iconst 0, 1) := by decide +kernel
theorem dX6_reckons_186 : decode cX6_reckons 186 = .ok (.bastore, 1) := by decide +kernel
theorem dX6_reckons_187 : decode cX6_reckons 187 = .ok (.aload_n 0, 1) := by decide +kernel
theorem dX6_reckons_188 : decode cX6_reckons 188 = .ok (.getfield 80, 3) := by decide +kernel
theorem dX6_reckons_191 : decode cX6_reckons 191 = .ok (.iload_n 2, 1) := by decide +kernel
theorem dX6_reckons_192 : decode cX6_reckons 192 = .ok (.iload 5, 2) := by decide +kernel
theorem dX6_reckons_194 : decode cX6_reckons 194 = .ok (.ifCond .eq 13, 3) := by decide +kernel
theorem dX6_reckons_197 : decode cX6_reckons 197 = .ok (.aload_n 0, 1) := by decide +kernel
theorem dX6_reckons_198 : decode cX6_reckons 198 = .ok (.getfield 70, 3) := by decide +kernel
theorem dX6_reckons_201 : decode cX6_reckons 201 = .ok (.iload 4, 2) := by decide +kernel
theorem dX6_reckons_203 : decode cX6_reckons 203 = .ok (.iaload, 1) := by decide +kernel
theorem dX6_reckons_204 : decode cX6_reckons 204 = .ok (.goto 5, 3) := by decide +kernel
theorem dX6_reckons_207 : decode cX6_reckons 207 = .ok (.iload 4, 2) := by decide +kernel
theorem dX6_reckons_209 : decode cX6_reckons 209 = .ok (.iastore, 1) := by decide +kernel
theorem dX6_reckons_210 : decode cX6_reckons 210 = .ok (.iinc 2 1, 3) := by decide +kernel
theorem dX6_reckons_213 : decode cX6_reckons 213 = .ok (.iinc 3 1, 3) := by decide +kernel
theorem dX6_reckons_216 : decode cX6_reckons 216 = .ok (.goto (-205), 3) := by decide +kernel
theorem dX6_reckons_219 : decode cX6_reckons 219 = .ok (.aload_n 0, 1) := by decide +kernel
theorem dX6_reckons_220 : decode cX6_reckons 220 = .ok (.getfield 70, 3) := by decide +kernel
theorem dX6_reckons_223 : decode cX6_reckons 223 = .ok (.iload_n 1, 1) := by decide +kernel
theorem dX6_reckons_224 : decode cX6_reckons 224 = .ok (.aload_n 0, 1) := by decide +kernel
theorem dX6_reckons_225 : decode cX6_reckons 225 = .ok (.getfield 80, 3) := by decide +kernel
theorem dX6_reckons_228 : decode cX6_reckons 228 = .ok (.iconst 0, 1) := by decide +kernel
theorem dX6_reckons_229 : decode cX6_reckons 229 = .ok (.iaload, 1) := by decide +kernel
theorem dX6_reckons_230 : decode cX6_reckons 230 = .ok (.iastore, 1) := by decide +kernel
theorem dX6_reckons_231 : decode cX6_reckons 231 = .ok (.return_, 1) := by decide +kernel
theorem dX6_reckonsAll_0 : decode cX6_reckonsAll 0 = .ok (.iconst 0, 1) := by decide +kernel
theorem dX6_reckonsAll_1 : decode cX6_reckonsAll 1 = .ok (.istore_n 2, 1) := by decide +kernel
theorem dX6_reckonsAll_2 : decode cX6_reckonsAll 2 = .ok (.iload_n 2, 1) := by decide +kernel
theorem dX6_reckonsAll_3 : decode cX6_reckonsAll 3 = .ok (.bipush 16, 2) := by decide +kernel
theorem dX6_reckonsAll_5 : decode cX6_reckonsAll 5 = .ok (.if_icmp .ge 49, 3) := by decide +kernel
theorem dX6_reckonsAll_8 : decode cX6_reckonsAll 8 = .ok (.aload_n 0, 1) := by decide +kernel
theorem dX6_reckonsAll_9 : decode cX6_reckonsAll 9 = .ok (.getfield 67, 3) := by decide +kernel
theorem dX6_reckonsAll_12 : decode cX6_reckonsAll 12 = .ok (.iload_n 2, 1) := by decide +kernel
theorem dX6_reckonsAll_13 : decode cX6_reckonsAll 13 = .ok (.iaload, 1) := by decide +kernel
theorem dX6_reckonsAll_14 : decode cX6_reckonsAll 14 = .ok (.istore_n 3, 1) := by decide +kernel
theorem dX6_reckonsAll_15 : decode cX6_reckonsAll 15 = .ok (.aload_n 0, 1) := by decide +kernel
theorem dX6_reckonsAll_16 : decode cX6_reckonsAll 16 = .ok (.getfield 16, 3) := by decide +kernel
theorem dX6_reckonsAll_19 : decode cX6_reckonsAll 19 = .ok (.iload_n 3, 1) := by decide +kernel
theorem dX6_reckonsAll_20 : decode cX6_reckonsAll 20 = .ok (.iaload, 1) := by decide +kernel
theorem dX6_reckonsAll_21 : decode cX6_reckonsAll 21 = .ok (.ifCond .ne 22, 3) := by decide +kernel
theorem dX6_reckonsAll_24 : decode cX6_reckonsAll 24 = .ok (.aload_n 0, 1) := by decide +kernel
theorem dX6_reckonsAll_25 : decode cX6_reckonsAll 25 = .ok (.getfield 70, 3) := by decide +kernel
theorem dX6_reckonsAll_28 : decode cX6_reckonsAll 28 = .ok (.iload_n 3, 1) := by decide +kernel
theorem dX6_reckonsAll_29 : decode cX6_reckonsAll 29 = .ok (.aload_n 1, 1) := by decide +kernel
theorem dX6_reckonsAll_30 : decode cX6_reckonsAll 30 = .ok (.iload_n 3, 1) := by decide +kernel
theorem dX6_reckonsAll_31 : decode cX6_reckonsAll 31 = .ok (.iaload, 1) := by decide +kernel
theorem dX6_reckonsAll_32 : decode cX6_reckonsAll 32 = .ok (.iastore, 1) := by decide +kernel
theorem dX6_reckonsAll_33 : decode cX6_reckonsAll 33 = .ok (.aload_n 0, 1) := by decide +kernel
theorem dX6_reckonsAll_34 : decode cX6_reckonsAll 34 = .ok (.getfield 73, 3) := by decide +kernel
theorem dX6_reckonsAll_37 : decode cX6_reckonsAll 37 = .ok (.iload_n 3, 1) := by decide +kernel
theorem dX6_reckonsAll_38 : decode cX6_reckonsAll 38 = .ok (.iconst 0, 1) := by decide +kernel
theorem dX6_reckonsAll_39 : decode cX6_reckonsAll 39 = .ok (.bastore, 1) := by decide +kernel
theorem dX6_reckonsAll_40 : decode cX6_reckonsAll 40 = .ok (.goto 8, 3) := by decide +kernel
theorem dX6_reckonsAll_43 : decode cX6_reckonsAll 43 = .ok (.aload_n 0, 1) := by decide +kernel
theorem dX6_reckonsAll_44 : decode cX6_reckonsAll 44 = .ok (.iload_n 3, 1) := by decide +kernel
theorem dX6_reckonsAll_45 : decode cX6_reckonsAll 45 = .ok (.invokevirtual 129, 3) := by decide +kernel
theorem dX6_reckonsAll_48 : decode cX6_reckonsAll 48 = .ok (.iinc 2 1, 3) := by decide +kernel
theorem dX6_reckonsAll_51 : decode cX6_reckonsAll 51 = .ok (.goto (-49), 3) := by decide +kernel
theorem dX6_reckonsAll_54 : decode cX6_reckonsAll 54 = .ok (.return_, 1) := by decide +kernel
theorem dX6_holds_0 : decode cX6_holds 0 = .ok (.aload_n 0, 1) := by decide +kernel
theorem dX6_holds_1 : decode cX6_holds 1 = .ok (.getfield 40, 3) := by decide +kernel
theorem dX6_holds_4 : decode cX6_holds 4 = .ok (.iconst 4, 1) := by decide +kernel
theorem dX6_holds_5 : decode cX6_holds 5 = .ok (.iload_n 1, 1) := by decide +kernel
theorem dX6_holds_6 : decode cX6_holds 6 = .ok (.imul, 1) := by decide +kernel
theorem dX6_holds_7 : decode cX6_holds 7 = .ok (.iload_n 2, 1) := by decide +kernel
theorem dX6_holds_8 : decode cX6_holds 8 = .ok (.iadd, 1) := by decide +kernel
theorem dX6_holds_9 : decode cX6_holds 9 = .ok (.iaload, 1) := by decide +kernel
theorem dX6_holds_10 : decode cX6_holds 10 = .ok (.istore_n 3, 1) := by decide +kernel
theorem dX6_holds_11 : decode cX6_holds 11 = .ok (.aload_n 0, 1) := by decide +kernel
theorem dX6_holds_12 : decode cX6_holds 12 = .ok (.getfield 43, 3) := by decide +kernel
theorem dX6_holds_15 : decode cX6_holds 15 = .ok (.iconst 4, 1) := by decide +kernel
theorem dX6_holds_16 : decode cX6_holds 16 = .ok (.iload_n 1, 1) := by decide +kernel
theorem dX6_holds_17 : decode cX6_holds 17 = .ok (.imul, 1) := by decide +kernel
theorem dX6_holds_18 : decode cX6_holds 18 = .ok (.iload_n 2, 1) := by decide +kernel
theorem dX6_holds_19 : decode cX6_holds 19 = .ok (.iadd, 1) := by decide +kernel
theorem dX6_holds_20 : decode cX6_holds 20 = .ok (.iaload, 1) := by decide +kernel
theorem dX6_holds_21 : decode cX6_holds 21 = .ok (.istore 4, 2) := by decide +kernel
theorem dX6_holds_23 : decode cX6_holds 23 = .ok (.aload_n 0, 1) := by decide +kernel
theorem dX6_holds_24 : decode cX6_holds 24 = .ok (.aload_n 0, 1) := by decide +kernel
theorem dX6_holds_25 : decode cX6_holds 25 = .ok (.getfield 77, 3) := by decide +kernel
theorem dX6_holds_28 : decode cX6_holds 28 = .ok (.invokevirtual 133, 3) := by decide +kernel
theorem dX6_holds_31 : decode cX6_holds 31 = .ok (.aload_n 0, 1) := by decide +kernel
theorem dX6_holds_32 : decode cX6_holds 32 = .ok (.getfield 70, 3) := by decide +kernel
theorem dX6_holds_35 : decode cX6_holds 35 = .ok (.iload_n 1, 1) := by decide +kernel
theorem dX6_holds_36 : decode cX6_holds 36 = .ok (.iaload, 1) := by decide +kernel
theorem dX6_holds_37 : decode cX6_holds 37 = .ok (.istore 5, 2) := by decide +kernel
theorem dX6_holds_39 : decode cX6_holds 39 = .ok (.aload_n 0, 1) := by decide +kernel
theorem dX6_holds_40 : decode cX6_holds 40 = .ok (.getfield 73, 3) := by decide +kernel
theorem dX6_holds_43 : decode cX6_holds 43 = .ok (.iload_n 1, 1) := by decide +kernel
theorem dX6_holds_44 : decode cX6_holds 44 = .ok (.baload, 1) := by decide +kernel
theorem dX6_holds_45 : decode cX6_holds 45 = .ok (.ifCond .ne 18, 3) := by decide +kernel
theorem dX6_holds_48 : decode cX6_holds 48 = .ok (.iload_n 3, 1) := by decide +kernel
theorem dX6_holds_49 : decode cX6_holds 49 = .ok (.iconst 2, 1) := by decide +kernel
theorem dX6_holds_50 : decode cX6_holds 50 = .ok (.if_icmp .ne 15, 3) := by decide +kernel
theorem dX6_holds_53 : decode cX6_holds 53 = .ok (.aload_n 0, 1) := by decide +kernel
theorem dX6_holds_54 : decode cX6_holds 54 = .ok (.getfield 73, 3) := by decide +kernel
theorem dX6_holds_57 : decode cX6_holds 57 = .ok (.iload 4, 2) := by decide +kernel
theorem dX6_holds_59 : decode cX6_holds 59 = .ok (.baload, 1) := by decide +kernel
theorem dX6_holds_60 : decode cX6_holds 60 = .ok (.ifCond .eq 5, 3) := by decide +kernel
theorem dX6_holds_63 : decode cX6_holds 63 = .ok (.iconst 0, 1) := by decide +kernel
theorem dX6_holds_64 : decode cX6_holds 64 = .ok (.ireturn, 1) := by decide +kernel
theorem dX6_holds_65 : decode cX6_holds 65 = .ok (.iload_n 3, 1) := by decide +kernel
theorem dX6_holds_66 : decode cX6_holds 66 = .ok (.ifCond .ne 18, 3) := by decide +kernel
theorem dX6_holds_69 : decode cX6_holds 69 = .ok (.iload 5, 2) := by decide +kernel
theorem dX6_holds_71 : decode cX6_holds 71 = .ok (.iload 4, 2) := by decide +kernel
theorem dX6_holds_73 : decode cX6_holds 73 = .ok (.if_icmp .lt 7, 3) := by decide +kernel
theorem dX6_holds_76 : decode cX6_holds 76 = .ok (.iconst 1, 1) := by decide +kernel
theorem dX6_holds_77 : decode cX6_holds 77 = .ok (.goto 49, 3) := by decide +kernel
theorem dX6_holds_80 : decode cX6_holds 80 = .ok (.iconst 0, 1) := by decide +kernel
theorem dX6_holds_81 : decode cX6_holds 81 = .ok (.goto 45, 3) := by decide +kernel
theorem dX6_holds_84 : decode cX6_holds 84 = .ok (.iload_n 3, 1) := by decide +kernel
theorem dX6_holds_85 : decode cX6_holds 85 = .ok (.iconst 1, 1) := by decide +kernel
theorem dX6_holds_86 : decode cX6_holds 86 = .ok (.if_icmp .ne 18, 3) := by decide +kernel
theorem dX6_holds_89 : decode cX6_holds 89 = .ok (.iload 5, 2) := by decide +kernel
theorem dX6_holds_91 : decode cX6_holds 91 = .ok (.iload 4, 2) := by decide +kernel
theorem dX6_holds_93 : decode cX6_holds 93 = .ok (.if_icmp .gt 7, 3) := by decide +kernel
theorem dX6_holds_96 : decode cX6_holds 96 = .ok (.iconst 1, 1) := by decide +kernel
theorem dX6_holds_97 : decode cX6_holds 97 = .ok (.goto 29, 3) := by decide +kernel
theorem dX6_holds_100 : decode cX6_holds 100 = .ok (.iconst 0, 1) := by decide +kernel
theorem dX6_holds_101 : decode cX6_holds 101 = .ok (.goto 25, 3) := by decide +kernel
theorem dX6_holds_104 : decode cX6_holds 104 = .ok (.iload_n 3, 1) := by decide +kernel
theorem dX6_holds_105 : decode cX6_holds 105 = .ok (.iconst 2, 1) := by decide +kernel
theorem dX6_holds_106 : decode cX6_holds 106 = .ok (.if_icmp .ne 15, 3) := by decide +kernel
theorem dX6_holds_109 : decode cX6_holds 109 = .ok (.iload 5, 2) := by decide +kernel
theorem dX6_holds_111 : decode cX6_holds 111 = .ok (.aload_n 0, 1) := by decide +kernel
theorem dX6_holds_112 : decode cX6_holds 112 = .ok (.getfield 70, 3) := by decide +kernel
theorem dX6_holds_115 : decode cX6_holds 115 = .ok (.iload 4, 2) := by decide +kernel
theorem dX6_holds_117 : decode cX6_holds 117 = .ok (.iaload, 1) := by decide +kernel
theorem dX6_holds_118 : decode cX6_holds 118 = .ok (.if_icmp .ne 7, 3) := by decide +kernel
theorem dX6_holds_121 : decode cX6_holds 121 = .ok (.iconst 1, 1) := by decide +kernel
theorem dX6_holds_122 : decode cX6_holds 122 = .ok (.goto 4, 3) := by decide +kernel
theorem dX6_holds_125 : decode cX6_holds 125 = .ok (.iconst 0, 1) := by decide +kernel
theorem dX6_holds_126 : decode cX6_holds 126 = .ok (.istore 6, 2) := by decide +kernel
theorem dX6_holds_128 : decode cX6_holds 128 = .ok (.iload_n 3, 1) := by decide +kernel
theorem dX6_holds_129 : decode cX6_holds 129 = .ok (.iconst 3, 1) := by decide +kernel
theorem dX6_holds_130 : decode cX6_holds 130 = .ok (.if_icmp .ne 87, 3) := by decide +kernel
theorem dX6_holds_133 : decode cX6_holds 133 = .ok (.aload_n 0, 1) := by decide +kernel
theorem dX6_holds_134 : decode cX6_holds 134 = .ok (.getfield 16, 3) := by decide +kernel
theorem dX6_holds_137 : decode cX6_holds 137 = .ok (.iload 4, 2) := by decide +kernel
theorem dX6_holds_139 : decode cX6_holds 139 = .ok (.iaload, 1) := by decide +kernel
theorem dX6_holds_140 : decode cX6_holds 140 = .ok (.ifCond .ne 77, 3) := by decide +kernel
theorem dX6_holds_143 : decode cX6_holds 143 = .ok (.aload_n 0, 1) := by decide +kernel
theorem dX6_holds_144 : decode cX6_holds 144 = .ok (.getfield 77, 3) := by decide +kernel
theorem dX6_holds_147 : decode cX6_holds 147 = .ok (.iload 4, 2) := by decide +kernel
theorem dX6_holds_149 : decode cX6_holds 149 = .ok (.iaload, 1) := by decide +kernel
theorem dX6_holds_150 : decode cX6_holds 150 = .ok (.aload_n 0, 1) := by decide +kernel
theorem dX6_holds_151 : decode cX6_holds 151 = .ok (.getfield 28, 3) := by decide +kernel
theorem dX6_holds_154 : decode cX6_holds 154 = .ok (.iload 4, 2) := by decide +kernel
theorem dX6_holds_156 : decode cX6_holds 156 = .ok (.iaload, 1) := by decide +kernel
theorem dX6_holds_157 : decode cX6_holds 157 = .ok (.if_icmp .ge 60, 3) := by decide +kernel
theorem dX6_holds_160 : decode cX6_holds 160 = .ok (.aload_n 0, 1) := by decide +kernel
theorem dX6_holds_161 : decode cX6_holds 161 = .ok (.getfield 77, 3) := by decide +kernel
theorem dX6_holds_164 : decode cX6_holds 164 = .ok (.iload 4, 2) := by decide +kernel
theorem dX6_holds_166 : decode cX6_holds 166 = .ok (.dup2, 1) := by decide +kernel
theorem dX6_holds_167 : decode cX6_holds 167 = .ok (.iaload, 1) := by decide +kernel
theorem dX6_holds_168 : decode cX6_holds 168 = .ok (.iconst 1, 1) := by decide +kernel
theorem dX6_holds_169 : decode cX6_holds 169 = .ok (.iadd, 1) := by decide +kernel
theorem dX6_holds_170 : decode cX6_holds 170 = .ok (.iastore, 1) := by decide +kernel
theorem dX6_holds_171 : decode cX6_holds 171 = .ok (.aload_n 0, 1) := by decide +kernel
theorem dX6_holds_172 : decode cX6_holds 172 = .ok (.aload_n 0, 1) := by decide +kernel
theorem dX6_holds_173 : decode cX6_holds 173 = .ok (.getfield 77, 3) := by decide +kernel
theorem dX6_holds_176 : decode cX6_holds 176 = .ok (.invokevirtual 133, 3) := by decide +kernel
theorem dX6_holds_179 : decode cX6_holds 179 = .ok (.aload_n 0, 1) := by decide +kernel
theorem dX6_holds_180 : decode cX6_holds 180 = .ok (.getfield 77, 3) := by decide +kernel
theorem dX6_holds_183 : decode cX6_holds 183 = .ok (.iload 4, 2) := by decide +kernel
theorem dX6_holds_185 : decode cX6_holds 185 = .ok (.dup2, 1) := by decide +kernel
theorem dX6_holds_186 : decode cX6_holds 186 = .ok (.iaload, 1) := by decide +kernel
theorem dX6_holds_187 : decode cX6_holds 187 = .ok (.iconst 1, 1) := by decide +kernel
theorem dX6_holds_188 : decode cX6_holds 188 = .ok (.isub, 1) := by decide +kernel
theorem dX6_holds_189 : decode cX6_holds 189 = .ok (.iastore, 1) := by decide +kernel
theorem dX6_holds_190 : decode cX6_holds 190 = .ok (.aload_n 0, 1) := by decide +kernel
theorem dX6_holds_191 : decode cX6_holds 191 = .ok (.getfield 73, 3) := by decide +kernel
theorem dX6_holds_194 : decode cX6_holds 194 = .ok (.iload_n 1, 1) := by decide +kernel
theorem dX6_holds_195 : decode cX6_holds 195 = .ok (.baload, 1) := by decide +kernel
theorem dX6_holds_196 : decode cX6_holds 196 = .ok (.ifCond .ne 18, 3) := by decide +kernel
theorem dX6_holds_199 : decode cX6_holds 199 = .ok (.aload_n 0, 1) := by decide +kernel
theorem dX6_holds_200 : decode cX6_holds 200 = .ok (.getfield 70, 3) := by decide +kernel
theorem dX6_holds_203 : decode cX6_holds 203 = .ok (.iload_n 1, 1) := by decide +kernel
theorem dX6_holds_204 : decode cX6_holds 204 = .ok (.iaload, 1) := by decide +kernel
theorem dX6_holds_205 : decode cX6_holds 205 = .ok (.iload 5, 2) := by decide +kernel
theorem dX6_holds_207 : decode cX6_holds 207 = .ok (.if_icmp .lt 7, 3) := by decide +kernel
theorem dX6_holds_210 : decode cX6_holds 210 = .ok (.iconst 1, 1) := by decide +kernel
theorem dX6_holds_211 : decode cX6_holds 211 = .ok (.goto 4, 3) := by decide +kernel
theorem dX6_holds_214 : decode cX6_holds 214 = .ok (.iconst 0, 1) := by decide +kernel
theorem dX6_holds_215 : decode cX6_holds 215 = .ok (.istore 6, 2) := by decide +kernel
theorem dX6_holds_217 : decode cX6_holds 217 = .ok (.iload 6, 2) := by decide +kernel
theorem dX6_holds_219 : decode cX6_holds 219 = .ok (.ireturn, 1) := by decide +kernel
theorem dX6_isWaived_0 : decode cX6_isWaived 0 = .ok (.aload_n 0, 1) := by decide +kernel
theorem dX6_isWaived_1 : decode cX6_isWaived 1 = .ok (.getfield 61, 3) := by decide +kernel
theorem dX6_isWaived_4 : decode cX6_isWaived 4 = .ok (.iload_n 1, 1) := by decide +kernel
theorem dX6_isWaived_5 : decode cX6_isWaived 5 = .ok (.iaload, 1) := by decide +kernel
theorem dX6_isWaived_6 : decode cX6_isWaived 6 = .ok (.iconst (-1), 1) := by decide +kernel
theorem dX6_isWaived_7 : decode cX6_isWaived 7 = .ok (.if_icmp .eq 20, 3) := by decide +kernel
theorem dX6_isWaived_10 : decode cX6_isWaived 10 = .ok (.aload_n 0, 1) := by decide +kernel
theorem dX6_isWaived_11 : decode cX6_isWaived 11 = .ok (.getfield 61, 3) := by decide +kernel
theorem dX6_isWaived_14 : decode cX6_isWaived 14 = .ok (.iload_n 1, 1) := by decide +kernel
theorem dX6_isWaived_15 : decode cX6_isWaived 15 = .ok (.iaload, 1) := by decide +kernel
theorem dX6_isWaived_16 : decode cX6_isWaived 16 = .ok (.aload_n 0, 1) := by decide +kernel
theorem dX6_isWaived_17 : decode cX6_isWaived 17 = .ok (.getfield 137, 3) := by decide +kernel
theorem dX6_isWaived_20 : decode cX6_isWaived 20 = .ok (.if_icmp .lt 7, 3) := by decide +kernel
theorem dX6_isWaived_23 : decode cX6_isWaived 23 = .ok (.iconst 1, 1) := by decide +kernel
theorem dX6_isWaived_24 : decode cX6_isWaived 24 = .ok (.goto 4, 3) := by decide +kernel
theorem dX6_isWaived_27 : decode cX6_isWaived 27 = .ok (.iconst 0, 1) := by decide +kernel
theorem dX6_isWaived_28 : decode cX6_isWaived 28 = .ok (.ireturn, 1) := by decide +kernel
theorem dX6_locks_0 : decode cX6_locks 0 = .ok (.iconst 0, 1) := by decide +kernel
theorem dX6_locks_1 : decode cX6_locks 1 = .ok (.istore_n 1, 1) := by decide +kernel
theorem dX6_locks_2 : decode cX6_locks 2 = .ok (.iconst 0, 1) := by decide +kernel
theorem dX6_locks_3 : decode cX6_locks 3 = .ok (.istore_n 2, 1) := by decide +kernel
theorem dX6_locks_4 : decode cX6_locks 4 = .ok (.iload_n 2, 1) := by decide +kernel
theorem dX6_locks_5 : decode cX6_locks 5 = .ok (.bipush 16, 2) := by decide +kernel
theorem dX6_locks_7 : decode cX6_locks 7 = .ok (.if_icmp .ge 66, 3) := by decide +kernel
theorem dX6_locks_10 : decode cX6_locks 10 = .ok (.aload_n 0, 1) := by decide +kernel
theorem dX6_locks_11 : decode cX6_locks 11 = .ok (.getfield 67, 3) := by decide +kernel
theorem dX6_locks_14 : decode cX6_locks 14 = .ok (.iload_n 2, 1) := by decide +kernel
theorem dX6_locks_15 : decode cX6_locks 15 = .ok (.iaload, 1) := by decide +kernel
theorem dX6_locks_16 : decode cX6_locks 16 = .ok (.istore_n 3, 1) := by decide +kernel
theorem dX6_locks_17 : decode cX6_locks 17 = .ok (.aload_n 0, 1) := by decide +kernel
theorem dX6_locks_18 : decode cX6_locks 18 = .ok (.iload_n 3, 1) := by decide +kernel
theorem dX6_locks_19 : decode cX6_locks 19 = .ok (.invokevirtual 140, 3) := by decide +kernel
theorem dX6_locks_22 : decode cX6_locks 22 = .ok (.ifCond .ne 27, 3) := by decide +kernel
theorem dX6_locks_25 : decode cX6_locks 25 = .ok (.aload_n 0, 1) := by decide +kernel
theorem dX6_locks_26 : decode cX6_locks 26 = .ok (.getfield 46, 3) := by decide +kernel
theorem dX6_locks_29 : decode cX6_locks 29 = .ok (.iload_n 3, 1) := by decide +kernel
theorem dX6_locks_30 : decode cX6_locks 30 = .ok (.iaload, 1) := by decide +kernel
theorem dX6_locks_31 : decode cX6_locks 31 = .ok (.iconst 2, 1) := by decide +kernel
theorem dX6_locks_32 : decode cX6_locks 32 = .ok (.if_icmp .eq 13, 3) := by decide +kernel
theorem dX6_locks_35 : decode cX6_locks 35 = .ok (.aload_n 0, 1) := by decide +kernel
theorem dX6_locks_36 : decode cX6_locks 36 = .ok (.iload_n 3, 1) := by decide +kernel
theorem dX6_locks_37 : decode cX6_locks 37 = .ok (.invokevirtual 108, 3) := by decide +kernel
theorem dX6_locks_40 : decode cX6_locks 40 = .ok (.iload_n 1, 1) := by decide +kernel
theorem dX6_locks_41 : decode cX6_locks 41 = .ok (.iand, 1) := by decide +kernel
theorem dX6_locks_42 : decode cX6_locks 42 = .ok (.ifCond .eq 7, 3) := by decide +kernel
theorem dX6_locks_45 : decode cX6_locks 45 = .ok (.iconst 1, 1) := by decide +kernel
theorem dX6_locks_46 : decode cX6_locks 46 = .ok (.goto 4, 3) := by decide +kernel
theorem dX6_locks_49 : decode cX6_locks 49 = .ok (.iconst 0, 1) := by decide +kernel
theorem dX6_locks_50 : decode cX6_locks 50 = .ok (.istore 4, 2) := by decide +kernel
theorem dX6_locks_52 : decode cX6_locks 52 = .ok (.iload_n 1, 1) := by decide +kernel
theorem dX6_locks_53 : decode cX6_locks 53 = .ok (.iload 4, 2) := by decide +kernel
theorem dX6_locks_55 : decode cX6_locks 55 = .ok (.ifCond .eq 9, 3) := by decide +kernel
theorem dX6_locks_58 : decode cX6_locks 58 = .ok (.iconst 1, 1) := by decide +kernel
theorem dX6_locks_59 : decode cX6_locks 59 = .ok (.iload_n 3, 1) := by decide +kernel
theorem dX6_locks_60 : decode cX6_locks 60 = .ok (.ishl, 1) := by decide +kernel
theorem dX6_locks_61 : decode cX6_locks 61 = .ok (.goto 4, 3) := by decide +kernel
theorem dX6_locks_64 : decode cX6_locks 64 = .ok (.iconst 0, 1) := by decide +kernel
theorem dX6_locks_65 : decode cX6_locks 65 = .ok (.ior, 1) := by decide +kernel
theorem dX6_locks_66 : decode cX6_locks 66 = .ok (.istore_n 1, 1) := by decide +kernel
theorem dX6_locks_67 : decode cX6_locks 67 = .ok (.iinc 2 1, 3) := by decide +kernel
theorem dX6_locks_70 : decode cX6_locks 70 = .ok (.goto (-66), 3) := by decide +kernel
theorem dX6_locks_73 : decode cX6_locks 73 = .ok (.iload_n 1, 1) := by decide +kernel
theorem dX6_locks_74 : decode cX6_locks 74 = .ok (.ireturn, 1) := by decide +kernel
theorem dX6_bits_0 : decode cX6_bits 0 = .ok (.iconst 0, 1) := by decide +kernel
theorem dX6_bits_1 : decode cX6_bits 1 = .ok (.istore_n 1, 1) := by decide +kernel
theorem dX6_bits_2 : decode cX6_bits 2 = .ok (.iconst 0, 1) := by decide +kernel
theorem dX6_bits_3 : decode cX6_bits 3 = .ok (.istore_n 2, 1) := by decide +kernel
theorem dX6_bits_4 : decode cX6_bits 4 = .ok (.iload_n 2, 1) := by decide +kernel
theorem dX6_bits_5 : decode cX6_bits 5 = .ok (.bipush 16, 2) := by decide +kernel
theorem dX6_bits_7 : decode cX6_bits 7 = .ok (.if_icmp .ge 17, 3) := by decide +kernel
theorem dX6_bits_10 : decode cX6_bits 10 = .ok (.iload_n 1, 1) := by decide +kernel
theorem dX6_bits_11 : decode cX6_bits 11 = .ok (.iload_n 0, 1) := by decide +kernel
theorem dX6_bits_12 : decode cX6_bits 12 = .ok (.iload_n 2, 1) := by decide +kernel
theorem dX6_bits_13 : decode cX6_bits 13 = .ok (.ishr, 1) := by decide +kernel
theorem dX6_bits_14 : decode cX6_bits 14 = .ok (.iconst 1, 1) := by decide +kernel
theorem dX6_bits_15 : decode cX6_bits 15 = .ok (.iand, 1) := by decide +kernel
theorem dX6_bits_16 : decode cX6_bits 16 = .ok (.iadd, 1) := by decide +kernel
theorem dX6_bits_17 : decode cX6_bits 17 = .ok (.istore_n 1, 1) := by decide +kernel
theorem dX6_bits_18 : decode cX6_bits 18 = .ok (.iinc 2 1, 3) := by decide +kernel
theorem dX6_bits_21 : decode cX6_bits 21 = .ok (.goto (-17), 3) := by decide +kernel
theorem dX6_bits_24 : decode cX6_bits 24 = .ok (.iload_n 1, 1) := by decide +kernel
theorem dX6_bits_25 : decode cX6_bits 25 = .ok (.ireturn, 1) := by decide +kernel
theorem dX6_shrinks_0 : decode cX6_shrinks 0 = .ok (.iconst 0, 1) := by decide +kernel
theorem dX6_shrinks_1 : decode cX6_shrinks 1 = .ok (.istore_n 3, 1) := by decide +kernel
theorem dX6_shrinks_2 : decode cX6_shrinks 2 = .ok (.iload_n 3, 1) := by decide +kernel
theorem dX6_shrinks_3 : decode cX6_shrinks 3 = .ok (.bipush 16, 2) := by decide +kernel
theorem dX6_shrinks_5 : decode cX6_shrinks 5 = .ok (.if_icmp .ge 80, 3) := by decide +kernel
theorem dX6_shrinks_8 : decode cX6_shrinks 8 = .ok (.aload_n 0, 1) := by decide +kernel
theorem dX6_shrinks_9 : decode cX6_shrinks 9 = .ok (.getfield 16, 3) := by decide +kernel
theorem dX6_shrinks_12 : decode cX6_shrinks 12 = .ok (.iload_n 3, 1) := by decide +kernel
theorem dX6_shrinks_13 : decode cX6_shrinks 13 = .ok (.iaload, 1) := by decide +kernel
theorem dX6_shrinks_14 : decode cX6_shrinks 14 = .ok (.ifCond .ne 65, 3) := by decide +kernel
theorem dX6_shrinks_17 : decode cX6_shrinks 17 = .ok (.aload_n 0, 1) := by decide +kernel
theorem dX6_shrinks_18 : decode cX6_shrinks 18 = .ok (.getfield 77, 3) := by decide +kernel
theorem dX6_shrinks_21 : decode cX6_shrinks 21 = .ok (.iload_n 3, 1) := by decide +kernel
theorem dX6_shrinks_22 : decode cX6_shrinks 22 = .ok (.iaload, 1) := by decide +kernel
theorem dX6_shrinks_23 : decode cX6_shrinks 23 = .ok (.aload_n 0, 1) := by decide +kernel
theorem dX6_shrinks_24 : decode cX6_shrinks 24 = .ok (.getfield 25, 3) := by decide +kernel
theorem dX6_shrinks_27 : decode cX6_shrinks 27 = .ok (.iload_n 3, 1) := by decide +kernel
theorem dX6_shrinks_28 : decode cX6_shrinks 28 = .ok (.iaload, 1) := by decide +kernel
theorem dX6_shrinks_29 : decode cX6_shrinks 29 = .ok (.isub, 1) := by decide +kernel
theorem dX6_shrinks_30 : decode cX6_shrinks 30 = .ok (.istore 4, 2) := by decide +kernel
theorem dX6_shrinks_32 : decode cX6_shrinks 32 = .ok (.iload 4, 2) := by decide +kernel
theorem dX6_shrinks_34 : decode cX6_shrinks 34 = .ok (.ifCond .le 45, 3) := by decide +kernel
theorem dX6_shrinks_37 : decode cX6_shrinks 37 = .ok (.aload_n 0, 1) := by decide +kernel
theorem dX6_shrinks_38 : decode cX6_shrinks 38 = .ok (.getfield 77, 3) := by decide +kernel
theorem dX6_shrinks_41 : decode cX6_shrinks 41 = .ok (.iload_n 3, 1) := by decide +kernel
theorem dX6_shrinks_42 : decode cX6_shrinks 42 = .ok (.dup2, 1) := by decide +kernel
theorem dX6_shrinks_43 : decode cX6_shrinks 43 = .ok (.iaload, 1) := by decide +kernel
theorem dX6_shrinks_44 : decode cX6_shrinks 44 = .ok (.iload 4, 2) := by decide +kernel
theorem dX6_shrinks_46 : decode cX6_shrinks 46 = .ok (.isub, 1) := by decide +kernel
theorem dX6_shrinks_47 : decode cX6_shrinks 47 = .ok (.iastore, 1) := by decide +kernel
theorem dX6_shrinks_48 : decode cX6_shrinks 48 = .ok (.aload_n 0, 1) := by decide +kernel
theorem dX6_shrinks_49 : decode cX6_shrinks 49 = .ok (.iload_n 1, 1) := by decide +kernel
theorem dX6_shrinks_50 : decode cX6_shrinks 50 = .ok (.iload_n 2, 1) := by decide +kernel
theorem dX6_shrinks_51 : decode cX6_shrinks 51 = .ok (.invokevirtual 143, 3) := by decide +kernel
theorem dX6_shrinks_54 : decode cX6_shrinks 54 = .ok (.ifCond .ne 5, 3) := by decide +kernel
theorem dX6_shrinks_57 : decode cX6_shrinks 57 = .ok (.iconst 1, 1) := by decide +kernel
theorem dX6_shrinks_58 : decode cX6_shrinks 58 = .ok (.ireturn, 1) := by decide +kernel
theorem dX6_shrinks_59 : decode cX6_shrinks 59 = .ok (.aload_n 0, 1) := by decide +kernel
theorem dX6_shrinks_60 : decode cX6_shrinks 60 = .ok (.getfield 77, 3) := by decide +kernel
theorem dX6_shrinks_63 : decode cX6_shrinks 63 = .ok (.iload_n 3, 1) := by decide +kernel
theorem dX6_shrinks_64 : decode cX6_shrinks 64 = .ok (.dup2, 1) := by decide +kernel
theorem dX6_shrinks_65 : decode cX6_shrinks 65 = .ok (.iaload, 1) := by decide +kernel
theorem dX6_shrinks_66 : decode cX6_shrinks 66 = .ok (.iload 4, 2) := by decide +kernel
theorem dX6_shrinks_68 : decode cX6_shrinks 68 = .ok (.iadd, 1) := by decide +kernel
theorem dX6_shrinks_69 : decode cX6_shrinks 69 = .ok (.iastore, 1) := by decide +kernel
theorem dX6_shrinks_70 : decode cX6_shrinks 70 = .ok (.iload 4, 2) := by decide +kernel
theorem dX6_shrinks_72 : decode cX6_shrinks 72 = .ok (.iconst 2, 1) := by decide +kernel
theorem dX6_shrinks_73 : decode cX6_shrinks 73 = .ok (.idiv, 1) := by decide +kernel
theorem dX6_shrinks_74 : decode cX6_shrinks 74 = .ok (.istore 4, 2) := by decide +kernel
theorem dX6_shrinks_76 : decode cX6_shrinks 76 = .ok (.goto (-44), 3) := by decide +kernel
theorem dX6_shrinks_79 : decode cX6_shrinks 79 = .ok (.iinc 3 1, 3) := by decide +kernel
theorem dX6_shrinks_82 : decode cX6_shrinks 82 = .ok (.goto (-80), 3) := by decide +kernel
theorem dX6_shrinks_85 : decode cX6_shrinks 85 = .ok (.iconst 0, 1) := by decide +kernel
theorem dX6_shrinks_86 : decode cX6_shrinks 86 = .ok (.ireturn, 1) := by decide +kernel
theorem dX6_exemplifies_0 : decode cX6_exemplifies 0 = .ok (.iconst 0, 1) := by decide +kernel
theorem dX6_exemplifies_1 : decode cX6_exemplifies 1 = .ok (.istore_n 3, 1) := by decide +kernel
theorem dX6_exemplifies_2 : decode cX6_exemplifies 2 = .ok (.iload_n 3, 1) := by decide +kernel
theorem dX6_exemplifies_3 : decode cX6_exemplifies 3 = .ok (.bipush 60, 2) := by decide +kernel
theorem dX6_exemplifies_5 : decode cX6_exemplifies 5 = .ok (.if_icmp .ge 18, 3) := by decide +kernel
theorem dX6_exemplifies_8 : decode cX6_exemplifies 8 = .ok (.aload_n 0, 1) := by decide +kernel
theorem dX6_exemplifies_9 : decode cX6_exemplifies 9 = .ok (.iload_n 1, 1) := by decide +kernel
theorem dX6_exemplifies_10 : decode cX6_exemplifies 10 = .ok (.iload_n 2, 1) := by decide +kernel
theorem dX6_exemplifies_11 : decode cX6_exemplifies 11 = .ok (.invokevirtual 147, 3) := by decide +kernel
theorem dX6_exemplifies_14 : decode cX6_exemplifies 14 = .ok (.ifCond .eq 9, 3) := by decide +kernel
theorem dX6_exemplifies_17 : decode cX6_exemplifies 17 = .ok (.iinc 3 1, 3) := by decide +kernel
theorem dX6_exemplifies_20 : decode cX6_exemplifies 20 = .ok (.goto (-18), 3) := by decide +kernel
theorem dX6_exemplifies_23 : decode cX6_exemplifies 23 = .ok (.aload_n 0, 1) := by decide +kernel
theorem dX6_exemplifies_24 : decode cX6_exemplifies 24 = .ok (.getfield 46, 3) := by decide +kernel
theorem dX6_exemplifies_27 : decode cX6_exemplifies 27 = .ok (.iload_n 1, 1) := by decide +kernel
theorem dX6_exemplifies_28 : decode cX6_exemplifies 28 = .ok (.iconst 2, 1) := by decide +kernel
theorem dX6_exemplifies_29 : decode cX6_exemplifies 29 = .ok (.iastore, 1) := by decide +kernel
theorem dX6_exemplifies_30 : decode cX6_exemplifies 30 = .ok (.aload_n 0, 1) := by decide +kernel
theorem dX6_exemplifies_31 : decode cX6_exemplifies 31 = .ok (.getfield 49, 3) := by decide +kernel
theorem dX6_exemplifies_34 : decode cX6_exemplifies 34 = .ok (.iload_n 1, 1) := by decide +kernel
theorem dX6_exemplifies_35 : decode cX6_exemplifies 35 = .ok (.iload_n 2, 1) := by decide +kernel
theorem dX6_exemplifies_36 : decode cX6_exemplifies 36 = .ok (.iastore, 1) := by decide +kernel
theorem dX6_exemplifies_37 : decode cX6_exemplifies 37 = .ok (.aload_n 0, 1) := by decide +kernel
theorem dX6_exemplifies_38 : decode cX6_exemplifies 38 = .ok (.getfield 58, 3) := by decide +kernel
theorem dX6_exemplifies_41 : decode cX6_exemplifies 41 = .ok (.iload_n 1, 1) := by decide +kernel
theorem dX6_exemplifies_42 : decode cX6_exemplifies 42 = .ok (.iload_n 3, 1) := by decide +kernel
theorem dX6_exemplifies_43 : decode cX6_exemplifies 43 = .ok (.iastore, 1) := by decide +kernel
theorem dX6_exemplifies_44 : decode cX6_exemplifies 44 = .ok (.aload_n 0, 1) := by decide +kernel
theorem dX6_exemplifies_45 : decode cX6_exemplifies 45 = .ok (.getfield 55, 3) := by decide +kernel
theorem dX6_exemplifies_48 : decode cX6_exemplifies 48 = .ok (.iload_n 1, 1) := by decide +kernel
theorem dX6_exemplifies_49 : decode cX6_exemplifies 49 = .ok (.iconst 0, 1) := by decide +kernel
theorem dX6_exemplifies_50 : decode cX6_exemplifies 50 = .ok (.iastore, 1) := by decide +kernel
theorem dX6_exemplifies_51 : decode cX6_exemplifies 51 = .ok (.iconst 0, 1) := by decide +kernel
theorem dX6_exemplifies_52 : decode cX6_exemplifies 52 = .ok (.istore 4, 2) := by decide +kernel
theorem dX6_exemplifies_54 : decode cX6_exemplifies 54 = .ok (.iload 4, 2) := by decide +kernel
theorem dX6_exemplifies_56 : decode cX6_exemplifies 56 = .ok (.bipush 16, 2) := by decide +kernel
theorem dX6_exemplifies_58 : decode cX6_exemplifies 58 = .ok (.if_icmp .ge 55, 3) := by decide +kernel
theorem dX6_exemplifies_61 : decode cX6_exemplifies 61 = .ok (.aload_n 0, 1) := by decide +kernel
theorem dX6_exemplifies_62 : decode cX6_exemplifies 62 = .ok (.getfield 52, 3) := by decide +kernel
theorem dX6_exemplifies_65 : decode cX6_exemplifies 65 = .ok (.bipush 16, 2) := by decide +kernel
theorem dX6_exemplifies_67 : decode cX6_exemplifies 67 = .ok (.iload_n 1, 1) := by decide +kernel
theorem dX6_exemplifies_68 : decode cX6_exemplifies 68 = .ok (.imul, 1) := by decide +kernel
theorem dX6_exemplifies_69 : decode cX6_exemplifies 69 = .ok (.iload 4, 2) := by decide +kernel
theorem dX6_exemplifies_71 : decode cX6_exemplifies 71 = .ok (.iadd, 1) := by decide +kernel
theorem dX6_exemplifies_72 : decode cX6_exemplifies 72 = .ok (.aload_n 0, 1) := by decide +kernel
theorem dX6_exemplifies_73 : decode cX6_exemplifies 73 = .ok (.getfield 77, 3) := by decide +kernel
theorem dX6_exemplifies_76 : decode cX6_exemplifies 76 = .ok (.iload 4, 2) := by decide +kernel
theorem dX6_exemplifies_78 : decode cX6_exemplifies 78 = .ok (.iaload, 1) := by decide +kernel
theorem dX6_exemplifies_79 : decode cX6_exemplifies 79 = .ok (.iastore, 1) := by decide +kernel
theorem dX6_exemplifies_80 : decode cX6_exemplifies 80 = .ok (.aload_n 0, 1) := by decide +kernel
theorem dX6_exemplifies_81 : decode cX6_exemplifies 81 = .ok (.getfield 55, 3) := by decide +kernel
theorem dX6_exemplifies_84 : decode cX6_exemplifies 84 = .ok (.iload_n 1, 1) := by decide +kernel
theorem dX6_exemplifies_85 : decode cX6_exemplifies 85 = .ok (.dup2, 1) := by decide +kernel
theorem dX6_exemplifies_86 : decode cX6_exemplifies 86 = .ok (.iaload, 1) := by decide +kernel
theorem dX6_exemplifies_87 : decode cX6_exemplifies 87 = .ok (.aload_n 0, 1) := by decide +kernel
theorem dX6_exemplifies_88 : decode cX6_exemplifies 88 = .ok (.getfield 16, 3) := by decide +kernel
theorem dX6_exemplifies_91 : decode cX6_exemplifies 91 = .ok (.iload 4, 2) := by decide +kernel
theorem dX6_exemplifies_93 : decode cX6_exemplifies 93 = .ok (.iaload, 1) := by decide +kernel
theorem dX6_exemplifies_94 : decode cX6_exemplifies 94 = .ok (.ifCond .ne 10, 3) := by decide +kernel
theorem dX6_exemplifies_97 : decode cX6_exemplifies 97 = .ok (.iconst 1, 1) := by decide +kernel
theorem dX6_exemplifies_98 : decode cX6_exemplifies 98 = .ok (.iload 4, 2) := by decide +kernel
theorem dX6_exemplifies_100 : decode cX6_exemplifies 100 = .ok (.ishl, 1) := by decide +kernel
theorem dX6_exemplifies_101 : decode cX6_exemplifies 101 = .ok (.goto 4, 3) := by decide +kernel
theorem dX6_exemplifies_104 : decode cX6_exemplifies 104 = .ok (.iconst 0, 1) := by decide +kernel
theorem dX6_exemplifies_105 : decode cX6_exemplifies 105 = .ok (.ior, 1) := by decide +kernel
theorem dX6_exemplifies_106 : decode cX6_exemplifies 106 = .ok (.iastore, 1) := by decide +kernel
theorem dX6_exemplifies_107 : decode cX6_exemplifies 107 = .ok (.iinc 4 1, 3) := by decide +kernel
theorem dX6_exemplifies_110 : decode cX6_exemplifies 110 = .ok (.goto (-56), 3) := by decide +kernel
theorem dX6_exemplifies_113 : decode cX6_exemplifies 113 = .ok (.return_, 1) := by decide +kernel
theorem dX6_unlocks_0 : decode cX6_unlocks 0 = .ok (.iload_n 2, 1) := by decide +kernel
theorem dX6_unlocks_1 : decode cX6_unlocks 1 = .ok (.aload_n 0, 1) := by decide +kernel
theorem dX6_unlocks_2 : decode cX6_unlocks 2 = .ok (.invokevirtual 150, 3) := by decide +kernel
theorem dX6_unlocks_5 : decode cX6_unlocks 5 = .ok (.iconst (-1), 1) := by decide +kernel
theorem dX6_unlocks_6 : decode cX6_unlocks 6 = .ok (.ixor, 1) := by decide +kernel
theorem dX6_unlocks_7 : decode cX6_unlocks 7 = .ok (.iand, 1) := by decide +kernel
theorem dX6_unlocks_8 : decode cX6_unlocks 8 = .ok (.istore_n 3, 1) := by decide +kernel
theorem dX6_unlocks_9 : decode cX6_unlocks 9 = .ok (.iconst 1, 1) := by decide +kernel
theorem dX6_unlocks_10 : decode cX6_unlocks 10 = .ok (.iload_n 1, 1) := by decide +kernel
theorem dX6_unlocks_11 : decode cX6_unlocks 11 = .ok (.ishl, 1) := by decide +kernel
theorem dX6_unlocks_12 : decode cX6_unlocks 12 = .ok (.istore 4, 2) := by decide +kernel
theorem dX6_unlocks_14 : decode cX6_unlocks 14 = .ok (.iconst 1, 1) := by decide +kernel
theorem dX6_unlocks_15 : decode cX6_unlocks 15 = .ok (.istore 5, 2) := by decide +kernel
theorem dX6_unlocks_17 : decode cX6_unlocks 17 = .ok (.aload_n 0, 1) := by decide +kernel
theorem dX6_unlocks_18 : decode cX6_unlocks 18 = .ok (.iconst 0, 1) := by decide +kernel
theorem dX6_unlocks_19 : decode cX6_unlocks 19 = .ok (.putfield 154, 3) := by decide +kernel
theorem dX6_unlocks_22 : decode cX6_unlocks 22 = .ok (.aload_n 0, 1) := by decide +kernel
theorem dX6_unlocks_23 : decode cX6_unlocks 23 = .ok (.getfield 83, 3) := by decide +kernel
theorem dX6_unlocks_26 : decode cX6_unlocks 26 = .ok (.iconst 0, 1) := by decide +kernel
theorem dX6_unlocks_27 : decode cX6_unlocks 27 = .ok (.iload_n 1, 1) := by decide +kernel
theorem dX6_unlocks_28 : decode cX6_unlocks 28 = .ok (.iastore, 1) := by decide +kernel
theorem dX6_unlocks_29 : decode cX6_unlocks 29 = .ok (.iconst 0, 1) := by decide +kernel
theorem dX6_unlocks_30 : decode cX6_unlocks 30 = .ok (.istore 6, 2) := by decide +kernel
theorem dX6_unlocks_32 : decode cX6_unlocks 32 = .ok (.iload 6, 2) := by decide +kernel
theorem dX6_unlocks_34 : decode cX6_unlocks 34 = .ok (.iload 5, 2) := by decide +kernel
theorem dX6_unlocks_36 : decode cX6_unlocks 36 = .ok (.if_icmp .ge 111, 3) := by decide +kernel
theorem dX6_unlocks_39 : decode cX6_unlocks 39 = .ok (.aload_n 0, 1) := by decide +kernel
theorem dX6_unlocks_40 : decode cX6_unlocks 40 = .ok (.getfield 83, 3) := by decide +kernel
theorem dX6_unlocks_43 : decode cX6_unlocks 43 = .ok (.iload 6, 2) := by decide +kernel
theorem dX6_unlocks_45 : decode cX6_unlocks 45 = .ok (.iaload, 1) := by decide +kernel
theorem dX6_unlocks_46 : decode cX6_unlocks 46 = .ok (.istore 7, 2) := by decide +kernel
theorem dX6_unlocks_48 : decode cX6_unlocks 48 = .ok (.iload_n 3, 1) := by decide +kernel
theorem dX6_unlocks_49 : decode cX6_unlocks 49 = .ok (.iload 7, 2) := by decide +kernel
theorem dX6_unlocks_51 : decode cX6_unlocks 51 = .ok (.ishr, 1) := by decide +kernel
theorem dX6_unlocks_52 : decode cX6_unlocks 52 = .ok (.iconst 1, 1) := by decide +kernel
theorem dX6_unlocks_53 : decode cX6_unlocks 53 = .ok (.iand, 1) := by decide +kernel
theorem dX6_unlocks_54 : decode cX6_unlocks 54 = .ok (.iconst 1, 1) := by decide +kernel
theorem dX6_unlocks_55 : decode cX6_unlocks 55 = .ok (.if_icmp .ne 24, 3) := by decide +kernel
theorem dX6_unlocks_58 : decode cX6_unlocks 58 = .ok (.aload_n 0, 1) := by decide +kernel
theorem dX6_unlocks_59 : decode cX6_unlocks 59 = .ok (.getfield 64, 3) := by decide +kernel
theorem dX6_unlocks_62 : decode cX6_unlocks 62 = .ok (.aload_n 0, 1) := by decide +kernel
theorem dX6_unlocks_63 : decode cX6_unlocks 63 = .ok (.getfield 154, 3) := by decide +kernel
theorem dX6_unlocks_66 : decode cX6_unlocks 66 = .ok (.iload 7, 2) := by decide +kernel
theorem dX6_unlocks_68 : decode cX6_unlocks 68 = .ok (.iastore, 1) := by decide +kernel
theorem dX6_unlocks_69 : decode cX6_unlocks 69 = .ok (.aload_n 0, 1) := by decide +kernel
theorem dX6_unlocks_70 : decode cX6_unlocks 70 = .ok (.dup, 1) := by decide +kernel
theorem dX6_unlocks_71 : decode cX6_unlocks 71 = .ok (.getfield 154, 3) := by decide +kernel
theorem dX6_unlocks_74 : decode cX6_unlocks 74 = .ok (.iconst 1, 1) := by decide +kernel
theorem dX6_unlocks_75 : decode cX6_unlocks 75 = .ok (.iadd, 1) := by decide +kernel
theorem dX6_unlocks_76 : decode cX6_unlocks 76 = .ok (.putfield 154, 3) := by decide +kernel
theorem dX6_unlocks_79 : decode cX6_unlocks 79 = .ok (.iconst 0, 1) := by decide +kernel
theorem dX6_unlocks_80 : decode cX6_unlocks 80 = .ok (.istore 8, 2) := by decide +kernel
theorem dX6_unlocks_82 : decode cX6_unlocks 82 = .ok (.iload 8, 2) := by decide +kernel
theorem dX6_unlocks_84 : decode cX6_unlocks 84 = .ok (.bipush 16, 2) := by decide +kernel
theorem dX6_unlocks_86 : decode cX6_unlocks 86 = .ok (.if_icmp .ge 55, 3) := by decide +kernel
theorem dX6_unlocks_89 : decode cX6_unlocks 89 = .ok (.aload_n 0, 1) := by decide +kernel
theorem dX6_unlocks_90 : decode cX6_unlocks 90 = .ok (.iload 8, 2) := by decide +kernel
theorem dX6_unlocks_92 : decode cX6_unlocks 92 = .ok (.invokevirtual 108, 3) := by decide +kernel
theorem dX6_unlocks_95 : decode cX6_unlocks 95 = .ok (.iload 7, 2) := by decide +kernel
theorem dX6_unlocks_97 : decode cX6_unlocks 97 = .ok (.ishr, 1) := by decide +kernel
theorem dX6_unlocks_98 : decode cX6_unlocks 98 = .ok (.iconst 1, 1) := by decide +kernel
theorem dX6_unlocks_99 : decode cX6_unlocks 99 = .ok (.iand, 1) := by decide +kernel
theorem dX6_unlocks_100 : decode cX6_unlocks 100 = .ok (.iconst 1, 1) := by decide +kernel
theorem dX6_unlocks_101 : decode cX6_unlocks 101 = .ok (.if_icmp .ne 34, 3) := by decide +kernel
theorem dX6_unlocks_104 : decode cX6_unlocks 104 = .ok (.iload 4, 2) := by decide +kernel
theorem dX6_unlocks_106 : decode cX6_unlocks 106 = .ok (.iload 8, 2) := by decide +kernel
theorem dX6_unlocks_108 : decode cX6_unlocks 108 = .ok (.ishr, 1) := by decide +kernel
theorem dX6_unlocks_109 : decode cX6_unlocks 109 = .ok (.iconst 1, 1) := by decide +kernel
theorem dX6_unlocks_110 : decode cX6_unlocks 110 = .ok (.iand, 1) := by decide +kernel
theorem dX6_unlocks_111 : decode cX6_unlocks 111 = .ok (.ifCond .ne 24, 3) := by decide +kernel
theorem dX6_unlocks_114 : decode cX6_unlocks 114 = .ok (.iload 4, 2) := by decide +kernel
theorem dX6_unlocks_116 : decode cX6_unlocks 116 = .ok (.iconst 1, 1) := by decide +kernel
theorem dX6_unlocks_117 : decode cX6_unlocks 117 = .ok (.iload 8, 2) := by decide +kernel
theorem dX6_unlocks_119 : decode cX6_unlocks 119 = .ok (.ishl, 1) := by decide +kernel
theorem dX6_unlocks_120 : decode cX6_unlocks 120 = .ok (.ior, 1) := by decide +kernel
theorem dX6_unlocks_121 : decode cX6_unlocks 121 = .ok (.istore 4, 2) := by decide +kernel
theorem dX6_unlocks_123 : decode cX6_unlocks 123 = .ok (.aload_n 0, 1) := by decide +kernel
theorem dX6_unlocks_124 : decode cX6_unlocks 124 = .ok (.getfield 83, 3) := by decide +kernel
theorem dX6_unlocks_127 : decode cX6_unlocks 127 = .ok (.iload 5, 2) := by decide +kernel
theorem dX6_unlocks_129 : decode cX6_unlocks 129 = .ok (.iload 8, 2) := by decide +kernel
theorem dX6_unlocks_131 : decode cX6_unlocks 131 = .ok (.iastore, 1) := by decide +kernel
theorem dX6_unlocks_132 : decode cX6_unlocks 132 = .ok (.iinc 5 1, 3) := by decide +kernel
theorem dX6_unlocks_135 : decode cX6_unlocks 135 = .ok (.iinc 8 1, 3) := by decide +kernel
theorem dX6_unlocks_138 : decode cX6_unlocks 138 = .ok (.goto (-56), 3) := by decide +kernel
theorem dX6_unlocks_141 : decode cX6_unlocks 141 = .ok (.iinc 6 1, 3) := by decide +kernel
theorem dX6_unlocks_144 : decode cX6_unlocks 144 = .ok (.goto (-112), 3) := by decide +kernel
theorem dX6_unlocks_147 : decode cX6_unlocks 147 = .ok (.return_, 1) := by decide +kernel
theorem dX6_attempt_0 : decode cX6_attempt 0 = .ok (.aload_n 0, 1) := by decide +kernel
theorem dX6_attempt_1 : decode cX6_attempt 1 = .ok (.iload_n 1, 1) := by decide +kernel
theorem dX6_attempt_2 : decode cX6_attempt 2 = .ok (.invokestatic 104, 3) := by decide +kernel
theorem dX6_attempt_5 : decode cX6_attempt 5 = .ok (.ifCond .ne 7, 3) := by decide +kernel
theorem dX6_attempt_8 : decode cX6_attempt 8 = .ok (.iconst 1, 1) := by decide +kernel
theorem dX6_attempt_9 : decode cX6_attempt 9 = .ok (.goto 29, 3) := by decide +kernel
theorem dX6_attempt_12 : decode cX6_attempt 12 = .ok (.iload_n 2, 1) := by decide +kernel
theorem dX6_attempt_13 : decode cX6_attempt 13 = .ok (.iconst 0, 1) := by decide +kernel
theorem dX6_attempt_14 : decode cX6_attempt 14 = .ok (.sipush 7874, 3) := by decide +kernel
theorem dX6_attempt_17 : decode cX6_attempt 17 = .ok (.invokestatic 90, 3) := by decide +kernel
theorem dX6_attempt_20 : decode cX6_attempt 20 = .ok (.ifCond .eq 17, 3) := by decide +kernel
theorem dX6_attempt_23 : decode cX6_attempt 23 = .ok (.iload_n 3, 1) := by decide +kernel
theorem dX6_attempt_24 : decode cX6_attempt 24 = .ok (.iconst 1, 1) := by decide +kernel
theorem dX6_attempt_25 : decode cX6_attempt 25 = .ok (.bipush 20, 2) := by decide +kernel
theorem dX6_attempt_27 : decode cX6_attempt 27 = .ok (.invokestatic 90, 3) := by decide +kernel
theorem dX6_attempt_30 : decode cX6_attempt 30 = .ok (.ifCond .eq 7, 3) := by decide +kernel
theorem dX6_attempt_33 : decode cX6_attempt 33 = .ok (.iconst 0, 1) := by decide +kernel
theorem dX6_attempt_34 : decode cX6_attempt 34 = .ok (.goto 4, 3) := by decide +kernel
theorem dX6_attempt_37 : decode cX6_attempt 37 = .ok (.iconst 2, 1) := by decide +kernel
theorem dX6_attempt_38 : decode cX6_attempt 38 = .ok (.putfield 86, 3) := by decide +kernel
theorem dX6_attempt_41 : decode cX6_attempt 41 = .ok (.aload_n 0, 1) := by decide +kernel
theorem dX6_attempt_42 : decode cX6_attempt 42 = .ok (.getfield 86, 3) := by decide +kernel
theorem dX6_attempt_45 : decode cX6_attempt 45 = .ok (.ifCond .le 5, 3) := by decide +kernel
theorem dX6_attempt_48 : decode cX6_attempt 48 = .ok (.iconst 0, 1) := by decide +kernel
theorem dX6_attempt_49 : decode cX6_attempt 49 = .ok (.ireturn, 1) := by decide +kernel
theorem dX6_attempt_50 : decode cX6_attempt 50 = .ok (.iload_n 2, 1) := by decide +kernel
theorem dX6_attempt_51 : decode cX6_attempt 51 = .ok (.istore 4, 2) := by decide +kernel
theorem dX6_attempt_53 : decode cX6_attempt 53 = .ok (.iconst 0, 1) := by decide +kernel
theorem dX6_attempt_54 : decode cX6_attempt 54 = .ok (.istore 5, 2) := by decide +kernel
theorem dX6_attempt_56 : decode cX6_attempt 56 = .ok (.iload 5, 2) := by decide +kernel
theorem dX6_attempt_58 : decode cX6_attempt 58 = .ok (.iload_n 3, 1) := by decide +kernel
theorem dX6_attempt_59 : decode cX6_attempt 59 = .ok (.if_icmp .ge 168, 3) := by decide +kernel
theorem dX6_attempt_62 : decode cX6_attempt 62 = .ok (.iconst 0, 1) := by decide +kernel
theorem dX6_attempt_63 : decode cX6_attempt 63 = .ok (.istore 6, 2) := by decide +kernel
theorem dX6_attempt_65 : decode cX6_attempt 65 = .ok (.iload 6, 2) := by decide +kernel
theorem dX6_attempt_67 : decode cX6_attempt 67 = .ok (.bipush 16, 2) := by decide +kernel
theorem dX6_attempt_69 : decode cX6_attempt 69 = .ok (.if_icmp .ge 112, 3) := by decide +kernel
theorem dX6_attempt_72 : decode cX6_attempt 72 = .ok (.aload_n 0, 1) := by decide +kernel
theorem dX6_attempt_73 : decode cX6_attempt 73 = .ok (.getfield 16, 3) := by decide +kernel
theorem dX6_attempt_76 : decode cX6_attempt 76 = .ok (.iload 6, 2) := by decide +kernel
theorem dX6_attempt_78 : decode cX6_attempt 78 = .ok (.iaload, 1) := by decide +kernel
theorem dX6_attempt_79 : decode cX6_attempt 79 = .ok (.ifCond .ne 96, 3) := by decide +kernel
theorem dX6_attempt_82 : decode cX6_attempt 82 = .ok (.iload 5, 2) := by decide +kernel
theorem dX6_attempt_84 : decode cX6_attempt 84 = .ok (.iconst 1, 1) := by decide +kernel
theorem dX6_attempt_85 : decode cX6_attempt 85 = .ok (.if_icmp .le 20, 3) := by decide +kernel
theorem dX6_attempt_88 : decode cX6_attempt 88 = .ok (.sipush 421, 3) := by decide +kernel
theorem dX6_attempt_91 : decode cX6_attempt 91 = .ok (.iload 4, 2) := by decide +kernel
theorem dX6_attempt_93 : decode cX6_attempt 93 = .ok (.imul, 1) := by decide +kernel
theorem dX6_attempt_94 : decode cX6_attempt 94 = .ok (.sipush 1663, 3) := by decide +kernel
theorem dX6_attempt_97 : decode cX6_attempt 97 = .ok (.iadd, 1) := by decide +kernel
theorem dX6_attempt_98 : decode cX6_attempt 98 = .ok (.sipush 7875, 3) := by decide +kernel
theorem dX6_attempt_101 : decode cX6_attempt 101 = .ok (.irem, 1) := by decide +kernel
theorem dX6_attempt_102 : decode cX6_attempt 102 = .ok (.goto 5, 3) := by decide +kernel
theorem dX6_attempt_105 : decode cX6_attempt 105 = .ok (.iload 4, 2) := by decide +kernel
theorem dX6_attempt_107 : decode cX6_attempt 107 = .ok (.istore 4, 2) := by decide +kernel
theorem dX6_attempt_109 : decode cX6_attempt 109 = .ok (.aload_n 0, 1) := by decide +kernel
theorem dX6_attempt_110 : decode cX6_attempt 110 = .ok (.getfield 77, 3) := by decide +kernel
theorem dX6_attempt_113 : decode cX6_attempt 113 = .ok (.iload 6, 2) := by decide +kernel
theorem dX6_attempt_115 : decode cX6_attempt 115 = .ok (.iload 5, 2) := by decide +kernel
theorem dX6_attempt_117 : decode cX6_attempt 117 = .ok (.ifCond .ne 13, 3) := by decide +kernel
theorem dX6_attempt_120 : decode cX6_attempt 120 = .ok (.aload_n 0, 1) := by decide +kernel
theorem dX6_attempt_121 : decode cX6_attempt 121 = .ok (.getfield 25, 3) := by decide +kernel
theorem dX6_attempt_124 : decode cX6_attempt 124 = .ok (.iload 6, 2) := by decide +kernel
theorem dX6_attempt_126 : decode cX6_attempt 126 = .ok (.iaload, 1) := by decide +kernel
theorem dX6_attempt_127 : decode cX6_attempt 127 = .ok (.goto 47, 3) := by decide +kernel
theorem dX6_attempt_130 : decode cX6_attempt 130 = .ok (.iload 5, 2) := by decide +kernel
theorem dX6_attempt_132 : decode cX6_attempt 132 = .ok (.iconst 1, 1) := by decide +kernel
theorem dX6_attempt_133 : decode cX6_attempt 133 = .ok (.if_icmp .ne 13, 3) := by decide +kernel
theorem dX6_attempt_136 : decode cX6_attempt 136 = .ok (.aload_n 0, 1) := by decide +kernel
theorem dX6_attempt_137 : decode cX6_attempt 137 = .ok (.getfield 28, 3) := by decide +kernel
theorem dX6_attempt_140 : decode cX6_attempt 140 = .ok (.iload 6, 2) := by decide +kernel
theorem dX6_attempt_142 : decode cX6_attempt 142 = .ok (.iaload, 1) := by decide +kernel
theorem dX6_attempt_143 : decode cX6_attempt 143 = .ok (.goto 31, 3) := by decide +kernel
theorem dX6_attempt_146 : decode cX6_attempt 146 = .ok (.aload_n 0, 1) := by decide +kernel
theorem dX6_attempt_147 : decode cX6_attempt 147 = .ok (.getfield 25, 3) := by decide +kernel
theorem dX6_attempt_150 : decode cX6_attempt 150 = .ok (.iload 6, 2) := by decide +kernel
theorem dX6_attempt_152 : decode cX6_attempt 152 = .ok (.iaload, 1) := by decide +kernel
theorem dX6_attempt_153 : decode cX6_attempt 153 = .ok (.iload 4, 2) := by decide +kernel
theorem dX6_attempt_155 : decode cX6_attempt 155 = .ok (.aload_n 0, 1) := by decide +kernel
theorem dX6_attempt_156 : decode cX6_attempt 156 = .ok (.getfield 28, 3) := by decide +kernel
theorem dX6_attempt_159 : decode cX6_attempt 159 = .ok (.iload 6, 2) := by decide +kernel
theorem dX6_attempt_161 : decode cX6_attempt 161 = .ok (.iaload, 1) := by decide +kernel
theorem dX6_attempt_162 : decode cX6_attempt 162 = .ok (.aload_n 0, 1) := by decide +kernel
theorem dX6_attempt_163 : decode cX6_attempt 163 = .ok (.getfield 25, 3) := by decide +kernel
theorem dX6_attempt_166 : decode cX6_attempt 166 = .ok (.iload 6, 2) := by decide +kernel
theorem dX6_attempt_168 : decode cX6_attempt 168 = .ok (.iaload, 1) := by decide +kernel
theorem dX6_attempt_169 : decode cX6_attempt 169 = .ok (.isub, 1) := by decide +kernel
theorem dX6_attempt_170 : decode cX6_attempt 170 = .ok (.iconst 1, 1) := by decide +kernel
theorem dX6_attempt_171 : decode cX6_attempt 171 = .ok (.iadd, 1) := by decide +kernel
theorem dX6_attempt_172 : decode cX6_attempt 172 = .ok (.irem, 1) := by decide +kernel
theorem dX6_attempt_173 : decode cX6_attempt 173 = .ok (.iadd, 1) := by decide +kernel
theorem dX6_attempt_174 : decode cX6_attempt 174 = .ok (.iastore, 1) := by decide +kernel
theorem dX6_attempt_175 : decode cX6_attempt 175 = .ok (.iinc 6 1, 3) := by decide +kernel
theorem dX6_attempt_178 : decode cX6_attempt 178 = .ok (.goto (-113), 3) := by decide +kernel
theorem dX6_attempt_181 : decode cX6_attempt 181 = .ok (.iconst 0, 1) := by decide +kernel
theorem dX6_attempt_182 : decode cX6_attempt 182 = .ok (.istore 6, 2) := by decide +kernel
theorem dX6_attempt_184 : decode cX6_attempt 184 = .ok (.iload 6, 2) := by decide +kernel
theorem dX6_attempt_186 : decode cX6_attempt 186 = .ok (.aload_n 0, 1) := by decide +kernel
theorem dX6_attempt_187 : decode cX6_attempt 187 = .ok (.getfield 37, 3) := by decide +kernel
theorem dX6_attempt_190 : decode cX6_attempt 190 = .ok (.iload_n 1, 1) := by decide +kernel
theorem dX6_attempt_191 : decode cX6_attempt 191 = .ok (.iaload, 1) := by decide +kernel
theorem dX6_attempt_192 : decode cX6_attempt 192 = .ok (.if_icmp .ge 29, 3) := by decide +kernel
theorem dX6_attempt_195 : decode cX6_attempt 195 = .ok (.aload_n 0, 1) := by decide +kernel
theorem dX6_attempt_196 : decode cX6_attempt 196 = .ok (.iload_n 1, 1) := by decide +kernel
theorem dX6_attempt_197 : decode cX6_attempt 197 = .ok (.iload 6, 2) := by decide +kernel
theorem dX6_attempt_199 : decode cX6_attempt 199 = .ok (.invokevirtual 143, 3) := by decide +kernel
theorem dX6_attempt_202 : decode cX6_attempt 202 = .ok (.ifCond .ne 13, 3) := by decide +kernel
theorem dX6_attempt_205 : decode cX6_attempt 205 = .ok (.aload_n 0, 1) := by decide +kernel
theorem dX6_attempt_206 : decode cX6_attempt 206 = .ok (.iload_n 1, 1) := by decide +kernel
theorem dX6_attempt_207 : decode cX6_attempt 207 = .ok (.iload 6, 2) := by decide +kernel
theorem dX6_attempt_209 : decode cX6_attempt 209 = .ok (.invokevirtual 157, 3) := by decide +kernel
theorem dX6_attempt_212 : decode cX6_attempt 212 = .ok (.iload 5, 2) := by decide +kernel
theorem dX6_attempt_214 : decode cX6_attempt 214 = .ok (.ireturn, 1) := by decide +kernel
theorem dX6_attempt_215 : decode cX6_attempt 215 = .ok (.iinc 6 1, 3) := by decide +kernel
theorem dX6_attempt_218 : decode cX6_attempt 218 = .ok (.goto (-34), 3) := by decide +kernel
theorem dX6_attempt_221 : decode cX6_attempt 221 = .ok (.iinc 5 1, 3) := by decide +kernel
theorem dX6_attempt_224 : decode cX6_attempt 224 = .ok (.goto (-168), 3) := by decide +kernel
theorem dX6_attempt_227 : decode cX6_attempt 227 = .ok (.aload_n 0, 1) := by decide +kernel
theorem dX6_attempt_228 : decode cX6_attempt 228 = .ok (.invokevirtual 150, 3) := by decide +kernel
theorem dX6_attempt_231 : decode cX6_attempt 231 = .ok (.istore 5, 2) := by decide +kernel
theorem dX6_attempt_233 : decode cX6_attempt 233 = .ok (.aload_n 0, 1) := by decide +kernel
theorem dX6_attempt_234 : decode cX6_attempt 234 = .ok (.getfield 46, 3) := by decide +kernel
theorem dX6_attempt_237 : decode cX6_attempt 237 = .ok (.iload_n 1, 1) := by decide +kernel
theorem dX6_attempt_238 : decode cX6_attempt 238 = .ok (.iaload, 1) := by decide +kernel
theorem dX6_attempt_239 : decode cX6_attempt 239 = .ok (.iconst 2, 1) := by decide +kernel
theorem dX6_attempt_240 : decode cX6_attempt 240 = .ok (.if_icmp .ne 7, 3) := by decide +kernel
theorem dX6_attempt_243 : decode cX6_attempt 243 = .ok (.iconst 1, 1) := by decide +kernel
theorem dX6_attempt_244 : decode cX6_attempt 244 = .ok (.goto 4, 3) := by decide +kernel
theorem dX6_attempt_247 : decode cX6_attempt 247 = .ok (.iconst 0, 1) := by decide +kernel
theorem dX6_attempt_248 : decode cX6_attempt 248 = .ok (.istore 6, 2) := by decide +kernel
theorem dX6_attempt_250 : decode cX6_attempt 250 = .ok (.aload_n 0, 1) := by decide +kernel
theorem dX6_attempt_251 : decode cX6_attempt 251 = .ok (.getfield 46, 3) := by decide +kernel
theorem dX6_attempt_254 : decode cX6_attempt 254 = .ok (.iload_n 1, 1) := by decide +kernel
theorem dX6_attempt_255 : decode cX6_attempt 255 = .ok (.iconst 1, 1) := by decide +kernel
theorem dX6_attempt_256 : decode cX6_attempt 256 = .ok (.iastore, 1) := by decide +kernel
theorem dX6_attempt_257 : decode cX6_attempt 257 = .ok (.aload_n 0, 1) := by decide +kernel
theorem dX6_attempt_258 : decode cX6_attempt 258 = .ok (.getfield 55, 3) := by decide +kernel
theorem dX6_attempt_261 : decode cX6_attempt 261 = .ok (.iload_n 1, 1) := by decide +kernel
theorem dX6_attempt_262 : decode cX6_attempt 262 = .ok (.iconst (-1), 1) := by decide +kernel
theorem dX6_attempt_263 : decode cX6_attempt 263 = .ok (.iastore, 1) := by decide +kernel
theorem dX6_attempt_264 : decode cX6_attempt 264 = .ok (.iload 6, 2) := by decide +kernel
theorem dX6_attempt_266 : decode cX6_attempt 266 = .ok (.ifCond .eq 10, 3) := by decide +kernel
theorem dX6_attempt_269 : decode cX6_attempt 269 = .ok (.aload_n 0, 1) := by decide +kernel
theorem dX6_attempt_270 : decode cX6_attempt 270 = .ok (.iload_n 1, 1) := by decide +kernel
theorem dX6_attempt_271 : decode cX6_attempt 271 = .ok (.iload 5, 2) := by decide +kernel
theorem dX6_attempt_273 : decode cX6_attempt 273 = .ok (.invokevirtual 161, 3) := by decide +kernel
theorem dX6_attempt_276 : decode cX6_attempt 276 = .ok (.iconst (-1), 1) := by decide +kernel
theorem dX6_attempt_277 : decode cX6_attempt 277 = .ok (.ireturn, 1) := by decide +kernel
theorem dX6_waive_0 : decode cX6_waive 0 = .ok (.aload_n 0, 1) := by decide +kernel
theorem dX6_waive_1 : decode cX6_waive 1 = .ok (.iload_n 1, 1) := by decide +kernel
theorem dX6_waive_2 : decode cX6_waive 2 = .ok (.invokestatic 104, 3) := by decide +kernel
theorem dX6_waive_5 : decode cX6_waive 5 = .ok (.ifCond .ne 7, 3) := by decide +kernel
theorem dX6_waive_8 : decode cX6_waive 8 = .ok (.iconst 1, 1) := by decide +kernel
theorem dX6_waive_9 : decode cX6_waive 9 = .ok (.goto 44, 3) := by decide +kernel
theorem dX6_waive_12 : decode cX6_waive 12 = .ok (.iload_n 2, 1) := by decide +kernel
theorem dX6_waive_13 : decode cX6_waive 13 = .ok (.aload_n 0, 1) := by decide +kernel
theorem dX6_waive_14 : decode cX6_waive 14 = .ok (.getfield 34, 3) := by decide +kernel
theorem dX6_waive_17 : decode cX6_waive 17 = .ok (.iload_n 1, 1) := by decide +kernel
theorem dX6_waive_18 : decode cX6_waive 18 = .ok (.iaload, 1) := by decide +kernel
theorem dX6_waive_19 : decode cX6_waive 19 = .ok (.if_icmp .ne 13, 3) := by decide +kernel
theorem dX6_waive_22 : decode cX6_waive 22 = .ok (.iload_n 3, 1) := by decide +kernel
theorem dX6_waive_23 : decode cX6_waive 23 = .ok (.iconst 0, 1) := by decide +kernel
theorem dX6_waive_24 : decode cX6_waive 24 = .ok (.bipush 30, 2) := by decide +kernel
theorem dX6_waive_26 : decode cX6_waive 26 = .ok (.invokestatic 90, 3) := by decide +kernel
theorem dX6_waive_29 : decode cX6_waive 29 = .ok (.ifCond .ne 7, 3) := by decide +kernel
theorem dX6_waive_32 : decode cX6_waive 32 = .ok (.iconst 2, 1) := by decide +kernel
theorem dX6_waive_33 : decode cX6_waive 33 = .ok (.goto 20, 3) := by decide +kernel
theorem dX6_waive_36 : decode cX6_waive 36 = .ok (.aload_n 0, 1) := by decide +kernel
theorem dX6_waive_37 : decode cX6_waive 37 = .ok (.invokevirtual 150, 3) := by decide +kernel
theorem dX6_waive_40 : decode cX6_waive 40 = .ok (.iload_n 1, 1) := by decide +kernel
theorem dX6_waive_41 : decode cX6_waive 41 = .ok (.ishr, 1) := by decide +kernel
theorem dX6_waive_42 : decode cX6_waive 42 = .ok (.iconst 1, 1) := by decide +kernel
theorem dX6_waive_43 : decode cX6_waive 43 = .ok (.iand, 1) := by decide +kernel
theorem dX6_waive_44 : decode cX6_waive 44 = .ok (.iconst 1, 1) := by decide +kernel
theorem dX6_waive_45 : decode cX6_waive 45 = .ok (.if_icmp .ne 7, 3) := by decide +kernel
theorem dX6_waive_48 : decode cX6_waive 48 = .ok (.iconst 0, 1) := by decide +kernel
theorem dX6_waive_49 : decode cX6_waive 49 = .ok (.goto 4, 3) := by decide +kernel
theorem dX6_waive_52 : decode cX6_waive 52 = .ok (.iconst 3, 1) := by decide +kernel
theorem dX6_waive_53 : decode cX6_waive 53 = .ok (.putfield 86, 3) := by decide +kernel
theorem dX6_waive_56 : decode cX6_waive 56 = .ok (.aload_n 0, 1) := by decide +kernel
theorem dX6_waive_57 : decode cX6_waive 57 = .ok (.getfield 86, 3) := by decide +kernel
theorem dX6_waive_60 : decode cX6_waive 60 = .ok (.ifCond .le 5, 3) := by decide +kernel
theorem dX6_waive_63 : decode cX6_waive 63 = .ok (.iconst 0, 1) := by decide +kernel
theorem dX6_waive_64 : decode cX6_waive 64 = .ok (.ireturn, 1) := by decide +kernel
theorem dX6_waive_65 : decode cX6_waive 65 = .ok (.aload_n 0, 1) := by decide +kernel
theorem dX6_waive_66 : decode cX6_waive 66 = .ok (.getfield 61, 3) := by decide +kernel
theorem dX6_waive_69 : decode cX6_waive 69 = .ok (.iload_n 1, 1) := by decide +kernel
theorem dX6_waive_70 : decode cX6_waive 70 = .ok (.aload_n 0, 1) := by decide +kernel
theorem dX6_waive_71 : decode cX6_waive 71 = .ok (.getfield 137, 3) := by decide +kernel
theorem dX6_waive_74 : decode cX6_waive 74 = .ok (.iload_n 3, 1) := by decide +kernel
theorem dX6_waive_75 : decode cX6_waive 75 = .ok (.iadd, 1) := by decide +kernel
theorem dX6_waive_76 : decode cX6_waive 76 = .ok (.iastore, 1) := by decide +kernel
theorem dX6_waive_77 : decode cX6_waive 77 = .ok (.aload_n 0, 1) := by decide +kernel
theorem dX6_waive_78 : decode cX6_waive 78 = .ok (.invokevirtual 150, 3) := by decide +kernel
theorem dX6_waive_81 : decode cX6_waive 81 = .ok (.invokestatic 164, 3) := by decide +kernel
theorem dX6_waive_84 : decode cX6_waive 84 = .ok (.ireturn, 1) := by decide +kernel
theorem dX6_pass_0 : decode cX6_pass 0 = .ok (.aload_n 0, 1) := by decide +kernel
theorem dX6_pass_1 : decode cX6_pass 1 = .ok (.iload_n 1, 1) := by decide +kernel
theorem dX6_pass_2 : decode cX6_pass 2 = .ok (.iconst 1, 1) := by decide +kernel
theorem dX6_pass_3 : decode cX6_pass 3 = .ok (.bipush 100, 2) := by decide +kernel
theorem dX6_pass_5 : decode cX6_pass 5 = .ok (.invokestatic 90, 3) := by decide +kernel
theorem dX6_pass_8 : decode cX6_pass 8 = .ok (.ifCond .ne 7, 3) := by decide +kernel
theorem dX6_pass_11 : decode cX6_pass 11 = .ok (.iconst 1, 1) := by decide +kernel
theorem dX6_pass_12 : decode cX6_pass 12 = .ok (.goto 20, 3) := by decide +kernel
theorem dX6_pass_15 : decode cX6_pass 15 = .ok (.aload_n 0, 1) := by decide +kernel
theorem dX6_pass_16 : decode cX6_pass 16 = .ok (.getfield 137, 3) := by decide +kernel
theorem dX6_pass_19 : decode cX6_pass 19 = .ok (.iload_n 1, 1) := by decide +kernel
theorem dX6_pass_20 : decode cX6_pass 20 = .ok (.iadd, 1) := by decide +kernel
theorem dX6_pass_21 : decode cX6_pass 21 = .ok (.sipush 10000, 3) := by decide +kernel
theorem dX6_pass_24 : decode cX6_pass 24 = .ok (.if_icmp .le 7, 3) := by decide +kernel
theorem dX6_pass_27 : decode cX6_pass 27 = .ok (.iconst 2, 1) := by decide +kernel
theorem dX6_pass_28 : decode cX6_pass 28 = .ok (.goto 4, 3) := by decide +kernel
theorem dX6_pass_31 : decode cX6_pass 31 = .ok (.iconst 0, 1) := by decide +kernel
theorem dX6_pass_32 : decode cX6_pass 32 = .ok (.putfield 86, 3) := by decide +kernel
theorem dX6_pass_35 : decode cX6_pass 35 = .ok (.aload_n 0, 1) := by decide +kernel
theorem dX6_pass_36 : decode cX6_pass 36 = .ok (.getfield 86, 3) := by decide +kernel
theorem dX6_pass_39 : decode cX6_pass 39 = .ok (.ifCond .le 5, 3) := by decide +kernel
theorem dX6_pass_42 : decode cX6_pass 42 = .ok (.iconst 0, 1) := by decide +kernel
theorem dX6_pass_43 : decode cX6_pass 43 = .ok (.ireturn, 1) := by decide +kernel
theorem dX6_pass_44 : decode cX6_pass 44 = .ok (.aload_n 0, 1) := by decide +kernel
theorem dX6_pass_45 : decode cX6_pass 45 = .ok (.dup, 1) := by decide +kernel
theorem dX6_pass_46 : decode cX6_pass 46 = .ok (.getfield 137, 3) := by decide +kernel
theorem dX6_pass_49 : decode cX6_pass 49 = .ok (.iload_n 1, 1) := by decide +kernel
theorem dX6_pass_50 : decode cX6_pass 50 = .ok (.iadd, 1) := by decide +kernel
theorem dX6_pass_51 : decode cX6_pass 51 = .ok (.putfield 137, 3) := by decide +kernel
theorem dX6_pass_54 : decode cX6_pass 54 = .ok (.aload_n 0, 1) := by decide +kernel
theorem dX6_pass_55 : decode cX6_pass 55 = .ok (.invokevirtual 150, 3) := by decide +kernel
theorem dX6_pass_58 : decode cX6_pass 58 = .ok (.invokestatic 164, 3) := by decide +kernel
theorem dX6_pass_61 : decode cX6_pass 61 = .ok (.ireturn, 1) := by decide +kernel
theorem dX6_drafted_0 : decode cX6_drafted 0 = .ok (.aload_n 0, 1) := by decide +kernel
theorem dX6_drafted_1 : decode cX6_drafted 1 = .ok (.iconst 0, 1) := by decide +kernel
theorem dX6_drafted_2 : decode cX6_drafted 2 = .ok (.putfield 86, 3) := by decide +kernel
theorem dX6_drafted_5 : decode cX6_drafted 5 = .ok (.aload_n 0, 1) := by decide +kernel
theorem dX6_drafted_6 : decode cX6_drafted 6 = .ok (.getfield 94, 3) := by decide +kernel
theorem dX6_drafted_9 : decode cX6_drafted 9 = .ok (.ireturn, 1) := by decide +kernel
theorem dX6_today_0 : decode cX6_today 0 = .ok (.aload_n 0, 1) := by decide +kernel
theorem dX6_today_1 : decode cX6_today 1 = .ok (.iconst 0, 1) := by decide +kernel
theorem dX6_today_2 : decode cX6_today 2 = .ok (.putfield 86, 3) := by decide +kernel
theorem dX6_today_5 : decode cX6_today 5 = .ok (.aload_n 0, 1) := by decide +kernel
theorem dX6_today_6 : decode cX6_today 6 = .ok (.getfield 137, 3) := by decide +kernel
theorem dX6_today_9 : decode cX6_today 9 = .ok (.ireturn, 1) := by decide +kernel
theorem dX6_reads_0 : decode cX6_reads 0 = .ok (.aload_n 0, 1) := by decide +kernel
theorem dX6_reads_1 : decode cX6_reads 1 = .ok (.iconst 0, 1) := by decide +kernel
theorem dX6_reads_2 : decode cX6_reads 2 = .ok (.putfield 86, 3) := by decide +kernel
theorem dX6_reads_5 : decode cX6_reads 5 = .ok (.iload_n 1, 1) := by decide +kernel
theorem dX6_reads_6 : decode cX6_reads 6 = .ok (.invokestatic 104, 3) := by decide +kernel
theorem dX6_reads_9 : decode cX6_reads 9 = .ok (.ifCond .eq 11, 3) := by decide +kernel
theorem dX6_reads_12 : decode cX6_reads 12 = .ok (.aload_n 0, 1) := by decide +kernel
theorem dX6_reads_13 : decode cX6_reads 13 = .ok (.iload_n 1, 1) := by decide +kernel
theorem dX6_reads_14 : decode cX6_reads 14 = .ok (.invokevirtual 108, 3) := by decide +kernel
theorem dX6_reads_17 : decode cX6_reads 17 = .ok (.goto 8, 3) := by decide +kernel
theorem dX6_reads_20 : decode cX6_reads 20 = .ok (.aload_n 0, 1) := by decide +kernel
theorem dX6_reads_21 : decode cX6_reads 21 = .ok (.iconst 1, 1) := by decide +kernel
theorem dX6_reads_22 : decode cX6_reads 22 = .ok (.invokevirtual 118, 3) := by decide +kernel
theorem dX6_reads_25 : decode cX6_reads 25 = .ok (.ireturn, 1) := by decide +kernel
theorem dX6_rests_0 : decode cX6_rests 0 = .ok (.aload_n 0, 1) := by decide +kernel
theorem dX6_rests_1 : decode cX6_rests 1 = .ok (.iconst 0, 1) := by decide +kernel
theorem dX6_rests_2 : decode cX6_rests 2 = .ok (.putfield 86, 3) := by decide +kernel
theorem dX6_rests_5 : decode cX6_rests 5 = .ok (.iload_n 1, 1) := by decide +kernel
theorem dX6_rests_6 : decode cX6_rests 6 = .ok (.invokestatic 104, 3) := by decide +kernel
theorem dX6_rests_9 : decode cX6_rests 9 = .ok (.ifCond .eq 15, 3) := by decide +kernel
theorem dX6_rests_12 : decode cX6_rests 12 = .ok (.aload_n 0, 1) := by decide +kernel
theorem dX6_rests_13 : decode cX6_rests 13 = .ok (.aload_n 0, 1) := by decide +kernel
theorem dX6_rests_14 : decode cX6_rests 14 = .ok (.iload_n 1, 1) := by decide +kernel
theorem dX6_rests_15 : decode cX6_rests 15 = .ok (.invokevirtual 108, 3) := by decide +kernel
theorem dX6_rests_18 : decode cX6_rests 18 = .ok (.invokevirtual 115, 3) := by decide +kernel
theorem dX6_rests_21 : decode cX6_rests 21 = .ok (.goto 8, 3) := by decide +kernel
theorem dX6_rests_24 : decode cX6_rests 24 = .ok (.aload_n 0, 1) := by decide +kernel
theorem dX6_rests_25 : decode cX6_rests 25 = .ok (.iconst 1, 1) := by decide +kernel
theorem dX6_rests_26 : decode cX6_rests 26 = .ok (.invokevirtual 118, 3) := by decide +kernel
theorem dX6_rests_29 : decode cX6_rests 29 = .ok (.ireturn, 1) := by decide +kernel
theorem dX6_show_0 : decode cX6_show 0 = .ok (.aload_n 0, 1) := by decide +kernel
theorem dX6_show_1 : decode cX6_show 1 = .ok (.iload_n 1, 1) := by decide +kernel
theorem dX6_show_2 : decode cX6_show 2 = .ok (.invokestatic 104, 3) := by decide +kernel
theorem dX6_show_5 : decode cX6_show 5 = .ok (.ifCond .ne 7, 3) := by decide +kernel
theorem dX6_show_8 : decode cX6_show 8 = .ok (.iconst 1, 1) := by decide +kernel
theorem dX6_show_9 : decode cX6_show 9 = .ok (.goto 20, 3) := by decide +kernel
theorem dX6_show_12 : decode cX6_show 12 = .ok (.aload_n 0, 1) := by decide +kernel
theorem dX6_show_13 : decode cX6_show 13 = .ok (.invokevirtual 150, 3) := by decide +kernel
theorem dX6_show_16 : decode cX6_show 16 = .ok (.iload_n 1, 1) := by decide +kernel
theorem dX6_show_17 : decode cX6_show 17 = .ok (.ishr, 1) := by decide +kernel
theorem dX6_show_18 : decode cX6_show 18 = .ok (.iconst 1, 1) := by decide +kernel
theorem dX6_show_19 : decode cX6_show 19 = .ok (.iand, 1) := by decide +kernel
theorem dX6_show_20 : decode cX6_show 20 = .ok (.iconst 1, 1) := by decide +kernel
theorem dX6_show_21 : decode cX6_show 21 = .ok (.if_icmp .ne 7, 3) := by decide +kernel
theorem dX6_show_24 : decode cX6_show 24 = .ok (.iconst 2, 1) := by decide +kernel
theorem dX6_show_25 : decode cX6_show 25 = .ok (.goto 4, 3) := by decide +kernel
theorem dX6_show_28 : decode cX6_show 28 = .ok (.iconst 0, 1) := by decide +kernel
theorem dX6_show_29 : decode cX6_show 29 = .ok (.putfield 86, 3) := by decide +kernel
theorem dX6_show_32 : decode cX6_show 32 = .ok (.aload_n 0, 1) := by decide +kernel
theorem dX6_show_33 : decode cX6_show 33 = .ok (.getfield 86, 3) := by decide +kernel
theorem dX6_show_36 : decode cX6_show 36 = .ok (.ifCond .le 5, 3) := by decide +kernel
theorem dX6_show_39 : decode cX6_show 39 = .ok (.iconst 0, 1) := by decide +kernel
theorem dX6_show_40 : decode cX6_show 40 = .ok (.ireturn, 1) := by decide +kernel
theorem dX6_show_41 : decode cX6_show 41 = .ok (.aload_n 0, 1) := by decide +kernel
theorem dX6_show_42 : decode cX6_show 42 = .ok (.aload_n 0, 1) := by decide +kernel
theorem dX6_show_43 : decode cX6_show 43 = .ok (.getfield 31, 3) := by decide +kernel
theorem dX6_show_46 : decode cX6_show 46 = .ok (.invokevirtual 133, 3) := by decide +kernel
theorem dX6_show_49 : decode cX6_show 49 = .ok (.aload_n 0, 1) := by decide +kernel
theorem dX6_show_50 : decode cX6_show 50 = .ok (.getfield 73, 3) := by decide +kernel
theorem dX6_show_53 : decode cX6_show 53 = .ok (.iload_n 1, 1) := by decide +kernel
theorem dX6_show_54 : decode cX6_show 54 = .ok (.baload, 1) := by decide +kernel
theorem dX6_show_55 : decode cX6_show 55 = .ok (.ifCond .eq 11, 3) := by decide +kernel
theorem dX6_show_58 : decode cX6_show 58 = .ok (.aload_n 0, 1) := by decide +kernel
theorem dX6_show_59 : decode cX6_show 59 = .ok (.iconst 3, 1) := by decide +kernel
theorem dX6_show_60 : decode cX6_show 60 = .ok (.invokevirtual 118, 3) := by decide +kernel
theorem dX6_show_63 : decode cX6_show 63 = .ok (.goto 9, 3) := by decide +kernel
theorem dX6_show_66 : decode cX6_show 66 = .ok (.aload_n 0, 1) := by decide +kernel
theorem dX6_show_67 : decode cX6_show 67 = .ok (.getfield 70, 3) := by decide +kernel
theorem dX6_show_70 : decode cX6_show 70 = .ok (.iload_n 1, 1) := by decide +kernel
theorem dX6_show_71 : decode cX6_show 71 = .ok (.iaload, 1) := by decide +kernel
theorem dX6_show_72 : decode cX6_show 72 = .ok (.ireturn, 1) := by decide +kernel
theorem dX6_verdict_0 : decode cX6_verdict 0 = .ok (.aload_n 0, 1) := by decide +kernel
theorem dX6_verdict_1 : decode cX6_verdict 1 = .ok (.iconst 0, 1) := by decide +kernel
theorem dX6_verdict_2 : decode cX6_verdict 2 = .ok (.putfield 86, 3) := by decide +kernel
theorem dX6_verdict_5 : decode cX6_verdict 5 = .ok (.iload_n 1, 1) := by decide +kernel
theorem dX6_verdict_6 : decode cX6_verdict 6 = .ok (.invokestatic 104, 3) := by decide +kernel
theorem dX6_verdict_9 : decode cX6_verdict 9 = .ok (.ifCond .eq 12, 3) := by decide +kernel
theorem dX6_verdict_12 : decode cX6_verdict 12 = .ok (.aload_n 0, 1) := by decide +kernel
theorem dX6_verdict_13 : decode cX6_verdict 13 = .ok (.getfield 46, 3) := by decide +kernel
theorem dX6_verdict_16 : decode cX6_verdict 16 = .ok (.iload_n 1, 1) := by decide +kernel
theorem dX6_verdict_17 : decode cX6_verdict 17 = .ok (.iaload, 1) := by decide +kernel
theorem dX6_verdict_18 : decode cX6_verdict 18 = .ok (.goto 8, 3) := by decide +kernel
theorem dX6_verdict_21 : decode cX6_verdict 21 = .ok (.aload_n 0, 1) := by decide +kernel
theorem dX6_verdict_22 : decode cX6_verdict 22 = .ok (.iconst 1, 1) := by decide +kernel
theorem dX6_verdict_23 : decode cX6_verdict 23 = .ok (.invokevirtual 118, 3) := by decide +kernel
theorem dX6_verdict_26 : decode cX6_verdict 26 = .ok (.ireturn, 1) := by decide +kernel
theorem dX6_failing_0 : decode cX6_failing 0 = .ok (.aload_n 0, 1) := by decide +kernel
theorem dX6_failing_1 : decode cX6_failing 1 = .ok (.iconst 0, 1) := by decide +kernel
theorem dX6_failing_2 : decode cX6_failing 2 = .ok (.putfield 86, 3) := by decide +kernel
theorem dX6_failing_5 : decode cX6_failing 5 = .ok (.iload_n 1, 1) := by decide +kernel
theorem dX6_failing_6 : decode cX6_failing 6 = .ok (.invokestatic 104, 3) := by decide +kernel
theorem dX6_failing_9 : decode cX6_failing 9 = .ok (.ifCond .ne 11, 3) := by decide +kernel
theorem dX6_failing_12 : decode cX6_failing 12 = .ok (.aload_n 0, 1) := by decide +kernel
theorem dX6_failing_13 : decode cX6_failing 13 = .ok (.iconst 1, 1) := by decide +kernel
theorem dX6_failing_14 : decode cX6_failing 14 = .ok (.invokevirtual 118, 3) := by decide +kernel
theorem dX6_failing_17 : decode cX6_failing 17 = .ok (.goto 23, 3) := by decide +kernel
theorem dX6_failing_20 : decode cX6_failing 20 = .ok (.aload_n 0, 1) := by decide +kernel
theorem dX6_failing_21 : decode cX6_failing 21 = .ok (.getfield 46, 3) := by decide +kernel
theorem dX6_failing_24 : decode cX6_failing 24 = .ok (.iload_n 1, 1) := by decide +kernel
theorem dX6_failing_25 : decode cX6_failing 25 = .ok (.iaload, 1) := by decide +kernel
theorem dX6_failing_26 : decode cX6_failing 26 = .ok (.iconst 2, 1) := by decide +kernel
theorem dX6_failing_27 : decode cX6_failing 27 = .ok (.if_icmp .ne 12, 3) := by decide +kernel
theorem dX6_failing_30 : decode cX6_failing 30 = .ok (.aload_n 0, 1) := by decide +kernel
theorem dX6_failing_31 : decode cX6_failing 31 = .ok (.getfield 49, 3) := by decide +kernel
theorem dX6_failing_34 : decode cX6_failing 34 = .ok (.iload_n 1, 1) := by decide +kernel
theorem dX6_failing_35 : decode cX6_failing 35 = .ok (.iaload, 1) := by decide +kernel
theorem dX6_failing_36 : decode cX6_failing 36 = .ok (.goto 4, 3) := by decide +kernel
theorem dX6_failing_39 : decode cX6_failing 39 = .ok (.iconst (-1), 1) := by decide +kernel
theorem dX6_failing_40 : decode cX6_failing 40 = .ok (.ireturn, 1) := by decide +kernel
theorem dX6_example_0 : decode cX6_example 0 = .ok (.aload_n 0, 1) := by decide +kernel
theorem dX6_example_1 : decode cX6_example 1 = .ok (.iload_n 1, 1) := by decide +kernel
theorem dX6_example_2 : decode cX6_example 2 = .ok (.invokestatic 104, 3) := by decide +kernel
theorem dX6_example_5 : decode cX6_example 5 = .ok (.ifCond .eq 10, 3) := by decide +kernel
theorem dX6_example_8 : decode cX6_example 8 = .ok (.iload_n 2, 1) := by decide +kernel
theorem dX6_example_9 : decode cX6_example 9 = .ok (.invokestatic 104, 3) := by decide +kernel
theorem dX6_example_12 : decode cX6_example 12 = .ok (.ifCond .ne 7, 3) := by decide +kernel
theorem dX6_example_15 : decode cX6_example 15 = .ok (.iconst 1, 1) := by decide +kernel
theorem dX6_example_16 : decode cX6_example 16 = .ok (.goto 31, 3) := by decide +kernel
theorem dX6_example_19 : decode cX6_example 19 = .ok (.aload_n 0, 1) := by decide +kernel
theorem dX6_example_20 : decode cX6_example 20 = .ok (.getfield 55, 3) := by decide +kernel
theorem dX6_example_23 : decode cX6_example 23 = .ok (.iload_n 1, 1) := by decide +kernel
theorem dX6_example_24 : decode cX6_example 24 = .ok (.iaload, 1) := by decide +kernel
theorem dX6_example_25 : decode cX6_example 25 = .ok (.iconst (-1), 1) := by decide +kernel
theorem dX6_example_26 : decode cX6_example 26 = .ok (.if_icmp .eq 16, 3) := by decide +kernel
theorem dX6_example_29 : decode cX6_example 29 = .ok (.aload_n 0, 1) := by decide +kernel
theorem dX6_example_30 : decode cX6_example 30 = .ok (.getfield 55, 3) := by decide +kernel
theorem dX6_example_33 : decode cX6_example 33 = .ok (.iload_n 1, 1) := by decide +kernel
theorem dX6_example_34 : decode cX6_example 34 = .ok (.iaload, 1) := by decide +kernel
theorem dX6_example_35 : decode cX6_example 35 = .ok (.iload_n 2, 1) := by decide +kernel
theorem dX6_example_36 : decode cX6_example 36 = .ok (.ishr, 1) := by decide +kernel
theorem dX6_example_37 : decode cX6_example 37 = .ok (.iconst 1, 1) := by decide +kernel
theorem dX6_example_38 : decode cX6_example 38 = .ok (.iand, 1) := by decide +kernel
theorem dX6_example_39 : decode cX6_example 39 = .ok (.ifCond .ne 7, 3) := by decide +kernel
theorem dX6_example_42 : decode cX6_example 42 = .ok (.iconst 2, 1) := by decide +kernel
theorem dX6_example_43 : decode cX6_example 43 = .ok (.goto 4, 3) := by decide +kernel
theorem dX6_example_46 : decode cX6_example 46 = .ok (.iconst 0, 1) := by decide +kernel
theorem dX6_example_47 : decode cX6_example 47 = .ok (.putfield 86, 3) := by decide +kernel
theorem dX6_example_50 : decode cX6_example 50 = .ok (.aload_n 0, 1) := by decide +kernel
theorem dX6_example_51 : decode cX6_example 51 = .ok (.getfield 86, 3) := by decide +kernel
theorem dX6_example_54 : decode cX6_example 54 = .ok (.ifCond .le 7, 3) := by decide +kernel
theorem dX6_example_57 : decode cX6_example 57 = .ok (.iconst 0, 1) := by decide +kernel
theorem dX6_example_58 : decode cX6_example 58 = .ok (.goto 14, 3) := by decide +kernel
theorem dX6_example_61 : decode cX6_example 61 = .ok (.aload_n 0, 1) := by decide +kernel
theorem dX6_example_62 : decode cX6_example 62 = .ok (.getfield 52, 3) := by decide +kernel
theorem dX6_example_65 : decode cX6_example 65 = .ok (.bipush 16, 2) := by decide +kernel
theorem dX6_example_67 : decode cX6_example 67 = .ok (.iload_n 1, 1) := by decide +kernel
theorem dX6_example_68 : decode cX6_example 68 = .ok (.imul, 1) := by decide +kernel
theorem dX6_example_69 : decode cX6_example 69 = .ok (.iload_n 2, 1) := by decide +kernel
theorem dX6_example_70 : decode cX6_example 70 = .ok (.iadd, 1) := by decide +kernel
theorem dX6_example_71 : decode cX6_example 71 = .ok (.iaload, 1) := by decide +kernel
theorem dX6_example_72 : decode cX6_example 72 = .ok (.ireturn, 1) := by decide +kernel
theorem dX6_smaller_0 : decode cX6_smaller 0 = .ok (.aload_n 0, 1) := by decide +kernel
theorem dX6_smaller_1 : decode cX6_smaller 1 = .ok (.iconst 0, 1) := by decide +kernel
theorem dX6_smaller_2 : decode cX6_smaller 2 = .ok (.putfield 86, 3) := by decide +kernel
theorem dX6_smaller_5 : decode cX6_smaller 5 = .ok (.iload_n 1, 1) := by decide +kernel
theorem dX6_smaller_6 : decode cX6_smaller 6 = .ok (.invokestatic 104, 3) := by decide +kernel
theorem dX6_smaller_9 : decode cX6_smaller 9 = .ok (.ifCond .ne 11, 3) := by decide +kernel
theorem dX6_smaller_12 : decode cX6_smaller 12 = .ok (.aload_n 0, 1) := by decide +kernel
theorem dX6_smaller_13 : decode cX6_smaller 13 = .ok (.iconst 1, 1) := by decide +kernel
theorem dX6_smaller_14 : decode cX6_smaller 14 = .ok (.invokevirtual 118, 3) := by decide +kernel
theorem dX6_smaller_17 : decode cX6_smaller 17 = .ok (.goto 23, 3) := by decide +kernel
theorem dX6_smaller_20 : decode cX6_smaller 20 = .ok (.aload_n 0, 1) := by decide +kernel
theorem dX6_smaller_21 : decode cX6_smaller 21 = .ok (.getfield 55, 3) := by decide +kernel
theorem dX6_smaller_24 : decode cX6_smaller 24 = .ok (.iload_n 1, 1) := by decide +kernel
theorem dX6_smaller_25 : decode cX6_smaller 25 = .ok (.iaload, 1) := by decide +kernel
theorem dX6_smaller_26 : decode cX6_smaller 26 = .ok (.iconst (-1), 1) := by decide +kernel
theorem dX6_smaller_27 : decode cX6_smaller 27 = .ok (.if_icmp .ne 7, 3) := by decide +kernel
theorem dX6_smaller_30 : decode cX6_smaller 30 = .ok (.iconst (-1), 1) := by decide +kernel
theorem dX6_smaller_31 : decode cX6_smaller 31 = .ok (.goto 9, 3) := by decide +kernel
theorem dX6_smaller_34 : decode cX6_smaller 34 = .ok (.aload_n 0, 1) := by decide +kernel
theorem dX6_smaller_35 : decode cX6_smaller 35 = .ok (.getfield 58, 3) := by decide +kernel
theorem dX6_smaller_38 : decode cX6_smaller 38 = .ok (.iload_n 1, 1) := by decide +kernel
theorem dX6_smaller_39 : decode cX6_smaller 39 = .ok (.iaload, 1) := by decide +kernel
theorem dX6_smaller_40 : decode cX6_smaller 40 = .ok (.ireturn, 1) := by decide +kernel
theorem dX6_isLocked_0 : decode cX6_isLocked 0 = .ok (.aload_n 0, 1) := by decide +kernel
theorem dX6_isLocked_1 : decode cX6_isLocked 1 = .ok (.iload_n 1, 1) := by decide +kernel
theorem dX6_isLocked_2 : decode cX6_isLocked 2 = .ok (.invokestatic 104, 3) := by decide +kernel
theorem dX6_isLocked_5 : decode cX6_isLocked 5 = .ok (.ifCond .eq 7, 3) := by decide +kernel
theorem dX6_isLocked_8 : decode cX6_isLocked 8 = .ok (.iconst 0, 1) := by decide +kernel
theorem dX6_isLocked_9 : decode cX6_isLocked 9 = .ok (.goto 4, 3) := by decide +kernel
theorem dX6_isLocked_12 : decode cX6_isLocked 12 = .ok (.iconst 1, 1) := by decide +kernel
theorem dX6_isLocked_13 : decode cX6_isLocked 13 = .ok (.putfield 86, 3) := by decide +kernel
theorem dX6_isLocked_16 : decode cX6_isLocked 16 = .ok (.aload_n 0, 1) := by decide +kernel
theorem dX6_isLocked_17 : decode cX6_isLocked 17 = .ok (.getfield 86, 3) := by decide +kernel
theorem dX6_isLocked_20 : decode cX6_isLocked 20 = .ok (.ifCond .ne 19, 3) := by decide +kernel
theorem dX6_isLocked_23 : decode cX6_isLocked 23 = .ok (.aload_n 0, 1) := by decide +kernel
theorem dX6_isLocked_24 : decode cX6_isLocked 24 = .ok (.invokevirtual 150, 3) := by decide +kernel
theorem dX6_isLocked_27 : decode cX6_isLocked 27 = .ok (.iload_n 1, 1) := by decide +kernel
theorem dX6_isLocked_28 : decode cX6_isLocked 28 = .ok (.ishr, 1) := by decide +kernel
theorem dX6_isLocked_29 : decode cX6_isLocked 29 = .ok (.iconst 1, 1) := by decide +kernel
theorem dX6_isLocked_30 : decode cX6_isLocked 30 = .ok (.iand, 1) := by decide +kernel
theorem dX6_isLocked_31 : decode cX6_isLocked 31 = .ok (.iconst 1, 1) := by decide +kernel
theorem dX6_isLocked_32 : decode cX6_isLocked 32 = .ok (.if_icmp .ne 7, 3) := by decide +kernel
theorem dX6_isLocked_35 : decode cX6_isLocked 35 = .ok (.iconst 1, 1) := by decide +kernel
theorem dX6_isLocked_36 : decode cX6_isLocked 36 = .ok (.goto 4, 3) := by decide +kernel
theorem dX6_isLocked_39 : decode cX6_isLocked 39 = .ok (.iconst 0, 1) := by decide +kernel
theorem dX6_isLocked_40 : decode cX6_isLocked 40 = .ok (.ireturn, 1) := by decide +kernel
theorem dX6_isLockedByWays_0 : decode cX6_isLockedByWays 0 = .ok (.aload_n 0, 1) := by decide +kernel
theorem dX6_isLockedByWays_1 : decode cX6_isLockedByWays 1 = .ok (.iload_n 1, 1) := by decide +kernel
theorem dX6_isLockedByWays_2 : decode cX6_isLockedByWays 2 = .ok (.invokevirtual 167, 3) := by decide +kernel
theorem dX6_isLockedByWays_5 : decode cX6_isLockedByWays 5 = .ok (.ireturn, 1) := by decide +kernel
theorem dX6_isMarked_0 : decode cX6_isMarked 0 = .ok (.aload_n 0, 1) := by decide +kernel
theorem dX6_isMarked_1 : decode cX6_isMarked 1 = .ok (.iload_n 1, 1) := by decide +kernel
theorem dX6_isMarked_2 : decode cX6_isMarked 2 = .ok (.invokestatic 104, 3) := by decide +kernel
theorem dX6_isMarked_5 : decode cX6_isMarked 5 = .ok (.ifCond .eq 7, 3) := by decide +kernel
theorem dX6_isMarked_8 : decode cX6_isMarked 8 = .ok (.iconst 0, 1) := by decide +kernel
theorem dX6_isMarked_9 : decode cX6_isMarked 9 = .ok (.goto 4, 3) := by decide +kernel
theorem dX6_isMarked_12 : decode cX6_isMarked 12 = .ok (.iconst 1, 1) := by decide +kernel
theorem dX6_isMarked_13 : decode cX6_isMarked 13 = .ok (.putfield 86, 3) := by decide +kernel
theorem dX6_isMarked_16 : decode cX6_isMarked 16 = .ok (.iconst 0, 1) := by decide +kernel
theorem dX6_isMarked_17 : decode cX6_isMarked 17 = .ok (.istore_n 2, 1) := by decide +kernel
theorem dX6_isMarked_18 : decode cX6_isMarked 18 = .ok (.iconst 0, 1) := by decide +kernel
theorem dX6_isMarked_19 : decode cX6_isMarked 19 = .ok (.istore_n 3, 1) := by decide +kernel
theorem dX6_isMarked_20 : decode cX6_isMarked 20 = .ok (.iload_n 3, 1) := by decide +kernel
theorem dX6_isMarked_21 : decode cX6_isMarked 21 = .ok (.bipush 16, 2) := by decide +kernel
theorem dX6_isMarked_23 : decode cX6_isMarked 23 = .ok (.if_icmp .ge 70, 3) := by decide +kernel
theorem dX6_isMarked_26 : decode cX6_isMarked 26 = .ok (.aload_n 0, 1) := by decide +kernel
theorem dX6_isMarked_27 : decode cX6_isMarked 27 = .ok (.getfield 86, 3) := by decide +kernel
theorem dX6_isMarked_30 : decode cX6_isMarked 30 = .ok (.ifCond .ne 63, 3) := by decide +kernel
theorem dX6_isMarked_33 : decode cX6_isMarked 33 = .ok (.iload_n 3, 1) := by decide +kernel
theorem dX6_isMarked_34 : decode cX6_isMarked 34 = .ok (.iload_n 1, 1) := by decide +kernel
theorem dX6_isMarked_35 : decode cX6_isMarked 35 = .ok (.if_icmp .eq 20, 3) := by decide +kernel
theorem dX6_isMarked_38 : decode cX6_isMarked 38 = .ok (.aload_n 0, 1) := by decide +kernel
theorem dX6_isMarked_39 : decode cX6_isMarked 39 = .ok (.aload_n 0, 1) := by decide +kernel
theorem dX6_isMarked_40 : decode cX6_isMarked 40 = .ok (.iload_n 1, 1) := by decide +kernel
theorem dX6_isMarked_41 : decode cX6_isMarked 41 = .ok (.invokevirtual 108, 3) := by decide +kernel
theorem dX6_isMarked_44 : decode cX6_isMarked 44 = .ok (.invokevirtual 115, 3) := by decide +kernel
theorem dX6_isMarked_47 : decode cX6_isMarked 47 = .ok (.iload_n 3, 1) := by decide +kernel
theorem dX6_isMarked_48 : decode cX6_isMarked 48 = .ok (.ishr, 1) := by decide +kernel
theorem dX6_isMarked_49 : decode cX6_isMarked 49 = .ok (.iconst 1, 1) := by decide +kernel
theorem dX6_isMarked_50 : decode cX6_isMarked 50 = .ok (.iand, 1) := by decide +kernel
theorem dX6_isMarked_51 : decode cX6_isMarked 51 = .ok (.iconst 1, 1) := by decide +kernel
theorem dX6_isMarked_52 : decode cX6_isMarked 52 = .ok (.if_icmp .ne 7, 3) := by decide +kernel
theorem dX6_isMarked_55 : decode cX6_isMarked 55 = .ok (.iconst 1, 1) := by decide +kernel
theorem dX6_isMarked_56 : decode cX6_isMarked 56 = .ok (.goto 4, 3) := by decide +kernel
theorem dX6_isMarked_59 : decode cX6_isMarked 59 = .ok (.iconst 0, 1) := by decide +kernel
theorem dX6_isMarked_60 : decode cX6_isMarked 60 = .ok (.istore 4, 2) := by decide +kernel
theorem dX6_isMarked_62 : decode cX6_isMarked 62 = .ok (.iload_n 2, 1) := by decide +kernel
theorem dX6_isMarked_63 : decode cX6_isMarked 63 = .ok (.ifCond .ne 18, 3) := by decide +kernel
theorem dX6_isMarked_66 : decode cX6_isMarked 66 = .ok (.iload 4, 2) := by decide +kernel
theorem dX6_isMarked_68 : decode cX6_isMarked 68 = .ok (.ifCond .eq 17, 3) := by decide +kernel
theorem dX6_isMarked_71 : decode cX6_isMarked 71 = .ok (.aload_n 0, 1) := by decide +kernel
theorem dX6_isMarked_72 : decode cX6_isMarked 72 = .ok (.getfield 46, 3) := by decide +kernel
theorem dX6_isMarked_75 : decode cX6_isMarked 75 = .ok (.iload_n 3, 1) := by decide +kernel
theorem dX6_isMarked_76 : decode cX6_isMarked 76 = .ok (.iaload, 1) := by decide +kernel
theorem dX6_isMarked_77 : decode cX6_isMarked 77 = .ok (.iconst 2, 1) := by decide +kernel
theorem dX6_isMarked_78 : decode cX6_isMarked 78 = .ok (.if_icmp .ne 7, 3) := by decide +kernel
theorem dX6_isMarked_81 : decode cX6_isMarked 81 = .ok (.iconst 1, 1) := by decide +kernel
theorem dX6_isMarked_82 : decode cX6_isMarked 82 = .ok (.goto 4, 3) := by decide +kernel
theorem dX6_isMarked_85 : decode cX6_isMarked 85 = .ok (.iconst 0, 1) := by decide +kernel
theorem dX6_isMarked_86 : decode cX6_isMarked 86 = .ok (.istore_n 2, 1) := by decide +kernel
theorem dX6_isMarked_87 : decode cX6_isMarked 87 = .ok (.iinc 3 1, 3) := by decide +kernel
theorem dX6_isMarked_90 : decode cX6_isMarked 90 = .ok (.goto (-70), 3) := by decide +kernel
theorem dX6_isMarked_93 : decode cX6_isMarked 93 = .ok (.iload_n 2, 1) := by decide +kernel
theorem dX6_isMarked_94 : decode cX6_isMarked 94 = .ok (.ireturn, 1) := by decide +kernel
theorem dX6_locked_0 : decode cX6_locked 0 = .ok (.aload_n 0, 1) := by decide +kernel
theorem dX6_locked_1 : decode cX6_locked 1 = .ok (.iconst 0, 1) := by decide +kernel
theorem dX6_locked_2 : decode cX6_locked 2 = .ok (.putfield 86, 3) := by decide +kernel
theorem dX6_locked_5 : decode cX6_locked 5 = .ok (.aload_n 0, 1) := by decide +kernel
theorem dX6_locked_6 : decode cX6_locked 6 = .ok (.invokevirtual 150, 3) := by decide +kernel
theorem dX6_locked_9 : decode cX6_locked 9 = .ok (.invokestatic 164, 3) := by decide +kernel
theorem dX6_locked_12 : decode cX6_locked 12 = .ok (.ireturn, 1) := by decide +kernel
theorem dX6_unlocked_0 : decode cX6_unlocked 0 = .ok (.aload_n 0, 1) := by decide +kernel
theorem dX6_unlocked_1 : decode cX6_unlocked 1 = .ok (.iconst 0, 1) := by decide +kernel
theorem dX6_unlocked_2 : decode cX6_unlocked 2 = .ok (.putfield 86, 3) := by decide +kernel
theorem dX6_unlocked_5 : decode cX6_unlocked 5 = .ok (.aload_n 0, 1) := by decide +kernel
theorem dX6_unlocked_6 : decode cX6_unlocked 6 = .ok (.getfield 154, 3) := by decide +kernel
theorem dX6_unlocked_9 : decode cX6_unlocked 9 = .ok (.ireturn, 1) := by decide +kernel
theorem dX6_unlockedAt_0 : decode cX6_unlockedAt 0 = .ok (.aload_n 0, 1) := by decide +kernel
theorem dX6_unlockedAt_1 : decode cX6_unlockedAt 1 = .ok (.iconst 0, 1) := by decide +kernel
theorem dX6_unlockedAt_2 : decode cX6_unlockedAt 2 = .ok (.putfield 86, 3) := by decide +kernel
theorem dX6_unlockedAt_5 : decode cX6_unlockedAt 5 = .ok (.iload_n 1, 1) := by decide +kernel
theorem dX6_unlockedAt_6 : decode cX6_unlockedAt 6 = .ok (.iconst 0, 1) := by decide +kernel
theorem dX6_unlockedAt_7 : decode cX6_unlockedAt 7 = .ok (.aload_n 0, 1) := by decide +kernel
theorem dX6_unlockedAt_8 : decode cX6_unlockedAt 8 = .ok (.getfield 154, 3) := by decide +kernel
theorem dX6_unlockedAt_11 : decode cX6_unlockedAt 11 = .ok (.iconst 1, 1) := by decide +kernel
theorem dX6_unlockedAt_12 : decode cX6_unlockedAt 12 = .ok (.isub, 1) := by decide +kernel
theorem dX6_unlockedAt_13 : decode cX6_unlockedAt 13 = .ok (.invokestatic 90, 3) := by decide +kernel
theorem dX6_unlockedAt_16 : decode cX6_unlockedAt 16 = .ok (.ifCond .eq 12, 3) := by decide +kernel
theorem dX6_unlockedAt_19 : decode cX6_unlockedAt 19 = .ok (.aload_n 0, 1) := by decide +kernel
theorem dX6_unlockedAt_20 : decode cX6_unlockedAt 20 = .ok (.getfield 64, 3) := by decide +kernel
theorem dX6_unlockedAt_23 : decode cX6_unlockedAt 23 = .ok (.iload_n 1, 1) := by decide +kernel
theorem dX6_unlockedAt_24 : decode cX6_unlockedAt 24 = .ok (.iaload, 1) := by decide +kernel
theorem dX6_unlockedAt_25 : decode cX6_unlockedAt 25 = .ok (.goto 8, 3) := by decide +kernel
theorem dX6_unlockedAt_28 : decode cX6_unlockedAt 28 = .ok (.aload_n 0, 1) := by decide +kernel
theorem dX6_unlockedAt_29 : decode cX6_unlockedAt 29 = .ok (.iconst 1, 1) := by decide +kernel
theorem dX6_unlockedAt_30 : decode cX6_unlockedAt 30 = .ok (.invokevirtual 118, 3) := by decide +kernel
theorem dX6_unlockedAt_33 : decode cX6_unlockedAt 33 = .ok (.ireturn, 1) := by decide +kernel
