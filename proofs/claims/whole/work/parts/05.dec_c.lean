theorem dX11_init_0 : decode cX11_init 0 = .ok (.aload_n 0, 1) := by decide +kernel
theorem dX11_init_1 : decode cX11_init 1 = .ok (.invokespecial 1, 3) := by decide +kernel
theorem dX11_init_4 : decode cX11_init 4 = .ok (.aload_n 0, 1) := by decide +kernel
theorem dX11_init_5 : decode cX11_init 5 = .ok (.sipush 160, 3) := by decide +kernel
theorem dX11_init_8 : decode cX11_init 8 = .ok (.newarray .int, 2) := by decide +kernel
theorem dX11_init_10 : decode cX11_init 10 = .ok (.putfield 9, 3) := by decide +kernel
theorem dX11_init_13 : decode cX11_init 13 = .ok (.aload_n 0, 1) := by decide +kernel
theorem dX11_init_14 : decode cX11_init 14 = .ok (.bipush 10, 2) := by decide +kernel
theorem dX11_init_16 : decode cX11_init 16 = .ok (.newarray .int, 2) := by decide +kernel
theorem dX11_init_18 : decode cX11_init 18 = .ok (.putfield 13, 3) := by decide +kernel
theorem dX11_init_21 : decode cX11_init 21 = .ok (.aload_n 0, 1) := by decide +kernel
theorem dX11_init_22 : decode cX11_init 22 = .ok (.bipush 100, 2) := by decide +kernel
theorem dX11_init_24 : decode cX11_init 24 = .ok (.newarray .boolean, 2) := by decide +kernel
theorem dX11_init_26 : decode cX11_init 26 = .ok (.putfield 16, 3) := by decide +kernel
theorem dX11_init_29 : decode cX11_init 29 = .ok (.aload_n 0, 1) := by decide +kernel
theorem dX11_init_30 : decode cX11_init 30 = .ok (.bipush 100, 2) := by decide +kernel
theorem dX11_init_32 : decode cX11_init 32 = .ok (.newarray .int, 2) := by decide +kernel
theorem dX11_init_34 : decode cX11_init 34 = .ok (.putfield 20, 3) := by decide +kernel
theorem dX11_init_37 : decode cX11_init 37 = .ok (.aload_n 0, 1) := by decide +kernel
theorem dX11_init_38 : decode cX11_init 38 = .ok (.bipush 64, 2) := by decide +kernel
theorem dX11_init_40 : decode cX11_init 40 = .ok (.newarray .boolean, 2) := by decide +kernel
theorem dX11_init_42 : decode cX11_init 42 = .ok (.putfield 23, 3) := by decide +kernel
theorem dX11_init_45 : decode cX11_init 45 = .ok (.aload_n 0, 1) := by decide +kernel
theorem dX11_init_46 : decode cX11_init 46 = .ok (.bipush 64, 2) := by decide +kernel
theorem dX11_init_48 : decode cX11_init 48 = .ok (.newarray .int, 2) := by decide +kernel
theorem dX11_init_50 : decode cX11_init 50 = .ok (.putfield 26, 3) := by decide +kernel
theorem dX11_init_53 : decode cX11_init 53 = .ok (.aload_n 0, 1) := by decide +kernel
theorem dX11_init_54 : decode cX11_init 54 = .ok (.bipush 8, 2) := by decide +kernel
theorem dX11_init_56 : decode cX11_init 56 = .ok (.newarray .boolean, 2) := by decide +kernel
theorem dX11_init_58 : decode cX11_init 58 = .ok (.putfield 29, 3) := by decide +kernel
theorem dX11_init_61 : decode cX11_init 61 = .ok (.aload_n 0, 1) := by decide +kernel
theorem dX11_init_62 : decode cX11_init 62 = .ok (.bipush 64, 2) := by decide +kernel
theorem dX11_init_64 : decode cX11_init 64 = .ok (.newarray .int, 2) := by decide +kernel
theorem dX11_init_66 : decode cX11_init 66 = .ok (.putfield 32, 3) := by decide +kernel
theorem dX11_init_69 : decode cX11_init 69 = .ok (.aload_n 0, 1) := by decide +kernel
theorem dX11_init_70 : decode cX11_init 70 = .ok (.sipush 1280, 3) := by decide +kernel
theorem dX11_init_73 : decode cX11_init 73 = .ok (.newarray .int, 2) := by decide +kernel
theorem dX11_init_75 : decode cX11_init 75 = .ok (.putfield 35, 3) := by decide +kernel
theorem dX11_init_78 : decode cX11_init 78 = .ok (.aload_n 0, 1) := by decide +kernel
theorem dX11_init_79 : decode cX11_init 79 = .ok (.sipush 1280, 3) := by decide +kernel
theorem dX11_init_82 : decode cX11_init 82 = .ok (.newarray .int, 2) := by decide +kernel
theorem dX11_init_84 : decode cX11_init 84 = .ok (.putfield 38, 3) := by decide +kernel
theorem dX11_init_87 : decode cX11_init 87 = .ok (.aload_n 0, 1) := by decide +kernel
theorem dX11_init_88 : decode cX11_init 88 = .ok (.sipush 1280, 3) := by decide +kernel
theorem dX11_init_91 : decode cX11_init 91 = .ok (.newarray .int, 2) := by decide +kernel
theorem dX11_init_93 : decode cX11_init 93 = .ok (.putfield 41, 3) := by decide +kernel
theorem dX11_init_96 : decode cX11_init 96 = .ok (.aload_n 0, 1) := by decide +kernel
theorem dX11_init_97 : decode cX11_init 97 = .ok (.sipush 1280, 3) := by decide +kernel
theorem dX11_init_100 : decode cX11_init 100 = .ok (.newarray .int, 2) := by decide +kernel
theorem dX11_init_102 : decode cX11_init 102 = .ok (.putfield 44, 3) := by decide +kernel
theorem dX11_init_105 : decode cX11_init 105 = .ok (.aload_n 0, 1) := by decide +kernel
theorem dX11_init_106 : decode cX11_init 106 = .ok (.sipush 1280, 3) := by decide +kernel
theorem dX11_init_109 : decode cX11_init 109 = .ok (.newarray .int, 2) := by decide +kernel
theorem dX11_init_111 : decode cX11_init 111 = .ok (.putfield 47, 3) := by decide +kernel
theorem dX11_init_114 : decode cX11_init 114 = .ok (.aload_n 0, 1) := by decide +kernel
theorem dX11_init_115 : decode cX11_init 115 = .ok (.bipush 20, 2) := by decide +kernel
theorem dX11_init_117 : decode cX11_init 117 = .ok (.newarray .boolean, 2) := by decide +kernel
theorem dX11_init_119 : decode cX11_init 119 = .ok (.putfield 50, 3) := by decide +kernel
theorem dX11_init_122 : decode cX11_init 122 = .ok (.aload_n 0, 1) := by decide +kernel
theorem dX11_init_123 : decode cX11_init 123 = .ok (.sipush 200, 3) := by decide +kernel
theorem dX11_init_126 : decode cX11_init 126 = .ok (.newarray .int, 2) := by decide +kernel
theorem dX11_init_128 : decode cX11_init 128 = .ok (.putfield 53, 3) := by decide +kernel
theorem dX11_init_131 : decode cX11_init 131 = .ok (.aload_n 0, 1) := by decide +kernel
theorem dX11_init_132 : decode cX11_init 132 = .ok (.sipush 200, 3) := by decide +kernel
theorem dX11_init_135 : decode cX11_init 135 = .ok (.newarray .int, 2) := by decide +kernel
theorem dX11_init_137 : decode cX11_init 137 = .ok (.putfield 56, 3) := by decide +kernel
theorem dX11_init_140 : decode cX11_init 140 = .ok (.aload_n 0, 1) := by decide +kernel
theorem dX11_init_141 : decode cX11_init 141 = .ok (.sipush 200, 3) := by decide +kernel
theorem dX11_init_144 : decode cX11_init 144 = .ok (.newarray .int, 2) := by decide +kernel
theorem dX11_init_146 : decode cX11_init 146 = .ok (.putfield 59, 3) := by decide +kernel
theorem dX11_init_149 : decode cX11_init 149 = .ok (.aload_n 0, 1) := by decide +kernel
theorem dX11_init_150 : decode cX11_init 150 = .ok (.sipush 200, 3) := by decide +kernel
theorem dX11_init_153 : decode cX11_init 153 = .ok (.newarray .int, 2) := by decide +kernel
theorem dX11_init_155 : decode cX11_init 155 = .ok (.putfield 62, 3) := by decide +kernel
theorem dX11_init_158 : decode cX11_init 158 = .ok (.aload_n 0, 1) := by decide +kernel
theorem dX11_init_159 : decode cX11_init 159 = .ok (.sipush 200, 3) := by decide +kernel
theorem dX11_init_162 : decode cX11_init 162 = .ok (.newarray .int, 2) := by decide +kernel
theorem dX11_init_164 : decode cX11_init 164 = .ok (.putfield 65, 3) := by decide +kernel
theorem dX11_init_167 : decode cX11_init 167 = .ok (.aload_n 0, 1) := by decide +kernel
theorem dX11_init_168 : decode cX11_init 168 = .ok (.bipush 8, 2) := by decide +kernel
theorem dX11_init_170 : decode cX11_init 170 = .ok (.newarray .int, 2) := by decide +kernel
theorem dX11_init_172 : decode cX11_init 172 = .ok (.putfield 68, 3) := by decide +kernel
theorem dX11_init_175 : decode cX11_init 175 = .ok (.aload_n 0, 1) := by decide +kernel
theorem dX11_init_176 : decode cX11_init 176 = .ok (.bipush 16, 2) := by decide +kernel
theorem dX11_init_178 : decode cX11_init 178 = .ok (.newarray .int, 2) := by decide +kernel
theorem dX11_init_180 : decode cX11_init 180 = .ok (.putfield 71, 3) := by decide +kernel
theorem dX11_init_183 : decode cX11_init 183 = .ok (.aload_n 0, 1) := by decide +kernel
theorem dX11_init_184 : decode cX11_init 184 = .ok (.iconst 5, 1) := by decide +kernel
theorem dX11_init_185 : decode cX11_init 185 = .ok (.newarray .int, 2) := by decide +kernel
theorem dX11_init_187 : decode cX11_init 187 = .ok (.putfield 74, 3) := by decide +kernel
theorem dX11_init_190 : decode cX11_init 190 = .ok (.aload_n 0, 1) := by decide +kernel
theorem dX11_init_191 : decode cX11_init 191 = .ok (.iconst 5, 1) := by decide +kernel
theorem dX11_init_192 : decode cX11_init 192 = .ok (.newarray .int, 2) := by decide +kernel
theorem dX11_init_194 : decode cX11_init 194 = .ok (.putfield 77, 3) := by decide +kernel
theorem dX11_init_197 : decode cX11_init 197 = .ok (.aload_n 0, 1) := by decide +kernel
theorem dX11_init_198 : decode cX11_init 198 = .ok (.iconst (-1), 1) := by decide +kernel
theorem dX11_init_199 : decode cX11_init 199 = .ok (.putfield 80, 3) := by decide +kernel
theorem dX11_init_202 : decode cX11_init 202 = .ok (.aload_n 0, 1) := by decide +kernel
theorem dX11_init_203 : decode cX11_init 203 = .ok (.bipush 16, 2) := by decide +kernel
theorem dX11_init_205 : decode cX11_init 205 = .ok (.newarray .int, 2) := by decide +kernel
theorem dX11_init_207 : decode cX11_init 207 = .ok (.putfield 84, 3) := by decide +kernel
theorem dX11_init_210 : decode cX11_init 210 = .ok (.aload_n 0, 1) := by decide +kernel
theorem dX11_init_211 : decode cX11_init 211 = .ok (.iconst 5, 1) := by decide +kernel
theorem dX11_init_212 : decode cX11_init 212 = .ok (.newarray .int, 2) := by decide +kernel
theorem dX11_init_214 : decode cX11_init 214 = .ok (.putfield 87, 3) := by decide +kernel
theorem dX11_init_217 : decode cX11_init 217 = .ok (.iconst 0, 1) := by decide +kernel
theorem dX11_init_218 : decode cX11_init 218 = .ok (.istore_n 1, 1) := by decide +kernel
theorem dX11_init_219 : decode cX11_init 219 = .ok (.iload_n 1, 1) := by decide +kernel
theorem dX11_init_220 : decode cX11_init 220 = .ok (.bipush 10, 2) := by decide +kernel
theorem dX11_init_222 : decode cX11_init 222 = .ok (.if_icmp .ge 45, 3) := by decide +kernel
theorem dX11_init_225 : decode cX11_init 225 = .ok (.aload_n 0, 1) := by decide +kernel
theorem dX11_init_226 : decode cX11_init 226 = .ok (.getfield 13, 3) := by decide +kernel
theorem dX11_init_229 : decode cX11_init 229 = .ok (.iload_n 1, 1) := by decide +kernel
theorem dX11_init_230 : decode cX11_init 230 = .ok (.bipush 60, 2) := by decide +kernel
theorem dX11_init_232 : decode cX11_init 232 = .ok (.iastore, 1) := by decide +kernel
theorem dX11_init_233 : decode cX11_init 233 = .ok (.iconst 0, 1) := by decide +kernel
theorem dX11_init_234 : decode cX11_init 234 = .ok (.istore_n 2, 1) := by decide +kernel
theorem dX11_init_235 : decode cX11_init 235 = .ok (.iload_n 2, 1) := by decide +kernel
theorem dX11_init_236 : decode cX11_init 236 = .ok (.bipush 16, 2) := by decide +kernel
theorem dX11_init_238 : decode cX11_init 238 = .ok (.if_icmp .ge 23, 3) := by decide +kernel
theorem dX11_init_241 : decode cX11_init 241 = .ok (.aload_n 0, 1) := by decide +kernel
theorem dX11_init_242 : decode cX11_init 242 = .ok (.getfield 9, 3) := by decide +kernel
theorem dX11_init_245 : decode cX11_init 245 = .ok (.bipush 16, 2) := by decide +kernel
theorem dX11_init_247 : decode cX11_init 247 = .ok (.iload_n 1, 1) := by decide +kernel
theorem dX11_init_248 : decode cX11_init 248 = .ok (.imul, 1) := by decide +kernel
theorem dX11_init_249 : decode cX11_init 249 = .ok (.iload_n 2, 1) := by decide +kernel
theorem dX11_init_250 : decode cX11_init 250 = .ok (.iadd, 1) := by decide +kernel
theorem dX11_init_251 : decode cX11_init 251 = .ok (.iload_n 1, 1) := by decide +kernel
theorem dX11_init_252 : decode cX11_init 252 = .ok (.iconst 1, 1) := by decide +kernel
theorem dX11_init_253 : decode cX11_init 253 = .ok (.iadd, 1) := by decide +kernel
theorem dX11_init_254 : decode cX11_init 254 = .ok (.iastore, 1) := by decide +kernel
theorem dX11_init_255 : decode cX11_init 255 = .ok (.iinc 2 1, 3) := by decide +kernel
theorem dX11_init_258 : decode cX11_init 258 = .ok (.goto (-23), 3) := by decide +kernel
theorem dX11_init_261 : decode cX11_init 261 = .ok (.iinc 1 1, 3) := by decide +kernel
theorem dX11_init_264 : decode cX11_init 264 = .ok (.goto (-45), 3) := by decide +kernel
theorem dX11_init_267 : decode cX11_init 267 = .ok (.return_, 1) := by decide +kernel
theorem dX11_within_0 : decode cX11_within 0 = .ok (.iload_n 0, 1) := by decide +kernel
theorem dX11_within_1 : decode cX11_within 1 = .ok (.iload_n 1, 1) := by decide +kernel
theorem dX11_within_2 : decode cX11_within 2 = .ok (.if_icmp .lt 12, 3) := by decide +kernel
theorem dX11_within_5 : decode cX11_within 5 = .ok (.iload_n 0, 1) := by decide +kernel
theorem dX11_within_6 : decode cX11_within 6 = .ok (.iload_n 2, 1) := by decide +kernel
theorem dX11_within_7 : decode cX11_within 7 = .ok (.if_icmp .gt 7, 3) := by decide +kernel
theorem dX11_within_10 : decode cX11_within 10 = .ok (.iconst 1, 1) := by decide +kernel
theorem dX11_within_11 : decode cX11_within 11 = .ok (.goto 4, 3) := by decide +kernel
theorem dX11_within_14 : decode cX11_within 14 = .ok (.iconst 0, 1) := by decide +kernel
theorem dX11_within_15 : decode cX11_within 15 = .ok (.ireturn, 1) := by decide +kernel
theorem dX11_isInk_0 : decode cX11_isInk 0 = .ok (.iload_n 0, 1) := by decide +kernel
theorem dX11_isInk_1 : decode cX11_isInk 1 = .ok (.iconst 0, 1) := by decide +kernel
theorem dX11_isInk_2 : decode cX11_isInk 2 = .ok (.bipush 9, 2) := by decide +kernel
theorem dX11_isInk_4 : decode cX11_isInk 4 = .ok (.invokestatic 90, 3) := by decide +kernel
theorem dX11_isInk_7 : decode cX11_isInk 7 = .ok (.ireturn, 1) := by decide +kernel
theorem dX11_isColour_0 : decode cX11_isColour 0 = .ok (.iload_n 0, 1) := by decide +kernel
theorem dX11_isColour_1 : decode cX11_isColour 1 = .ok (.iconst 0, 1) := by decide +kernel
theorem dX11_isColour_2 : decode cX11_isColour 2 = .ok (.bipush 15, 2) := by decide +kernel
theorem dX11_isColour_4 : decode cX11_isColour 4 = .ok (.invokestatic 90, 3) := by decide +kernel
theorem dX11_isColour_7 : decode cX11_isColour 7 = .ok (.ireturn, 1) := by decide +kernel
theorem dX11_board_0 : decode cX11_board 0 = .ok (.iload_n 1, 1) := by decide +kernel
theorem dX11_board_1 : decode cX11_board 1 = .ok (.iconst 1, 1) := by decide +kernel
theorem dX11_board_2 : decode cX11_board 2 = .ok (.bipush 8, 2) := by decide +kernel
theorem dX11_board_4 : decode cX11_board 4 = .ok (.invokestatic 90, 3) := by decide +kernel
theorem dX11_board_7 : decode cX11_board 7 = .ok (.ifCond .eq 13, 3) := by decide +kernel
theorem dX11_board_10 : decode cX11_board 10 = .ok (.iload_n 2, 1) := by decide +kernel
theorem dX11_board_11 : decode cX11_board 11 = .ok (.iconst 1, 1) := by decide +kernel
theorem dX11_board_12 : decode cX11_board 12 = .ok (.bipush 8, 2) := by decide +kernel
theorem dX11_board_14 : decode cX11_board 14 = .ok (.invokestatic 90, 3) := by decide +kernel
theorem dX11_board_17 : decode cX11_board 17 = .ok (.ifCond .ne 5, 3) := by decide +kernel
theorem dX11_board_20 : decode cX11_board 20 = .ok (.iconst (-1), 1) := by decide +kernel
theorem dX11_board_21 : decode cX11_board 21 = .ok (.ireturn, 1) := by decide +kernel
theorem dX11_board_22 : decode cX11_board 22 = .ok (.aload_n 0, 1) := by decide +kernel
theorem dX11_board_23 : decode cX11_board 23 = .ok (.getfield 94, 3) := by decide +kernel
theorem dX11_board_26 : decode cX11_board 26 = .ok (.ifCond .le 6, 3) := by decide +kernel
theorem dX11_board_29 : decode cX11_board 29 = .ok (.bipush (-3), 2) := by decide +kernel
theorem dX11_board_31 : decode cX11_board 31 = .ok (.ireturn, 1) := by decide +kernel
theorem dX11_board_32 : decode cX11_board 32 = .ok (.aload_n 0, 1) := by decide +kernel
theorem dX11_board_33 : decode cX11_board 33 = .ok (.iload_n 1, 1) := by decide +kernel
theorem dX11_board_34 : decode cX11_board 34 = .ok (.putfield 94, 3) := by decide +kernel
theorem dX11_board_37 : decode cX11_board 37 = .ok (.aload_n 0, 1) := by decide +kernel
theorem dX11_board_38 : decode cX11_board 38 = .ok (.iload_n 2, 1) := by decide +kernel
theorem dX11_board_39 : decode cX11_board 39 = .ok (.putfield 97, 3) := by decide +kernel
theorem dX11_board_42 : decode cX11_board 42 = .ok (.aload_n 0, 1) := by decide +kernel
theorem dX11_board_43 : decode cX11_board 43 = .ok (.iconst 1, 1) := by decide +kernel
theorem dX11_board_44 : decode cX11_board 44 = .ok (.putfield 100, 3) := by decide +kernel
theorem dX11_board_47 : decode cX11_board 47 = .ok (.iconst 1, 1) := by decide +kernel
theorem dX11_board_48 : decode cX11_board 48 = .ok (.ireturn, 1) := by decide +kernel
theorem dX11_table_0 : decode cX11_table 0 = .ok (.iload_n 1, 1) := by decide +kernel
theorem dX11_table_1 : decode cX11_table 1 = .ok (.invokestatic 103, 3) := by decide +kernel
theorem dX11_table_4 : decode cX11_table 4 = .ok (.ifCond .eq 17, 3) := by decide +kernel
theorem dX11_table_7 : decode cX11_table 7 = .ok (.iload_n 2, 1) := by decide +kernel
theorem dX11_table_8 : decode cX11_table 8 = .ok (.invokestatic 107, 3) := by decide +kernel
theorem dX11_table_11 : decode cX11_table 11 = .ok (.ifCond .eq 10, 3) := by decide +kernel
theorem dX11_table_14 : decode cX11_table 14 = .ok (.iload_n 3, 1) := by decide +kernel
theorem dX11_table_15 : decode cX11_table 15 = .ok (.invokestatic 107, 3) := by decide +kernel
theorem dX11_table_18 : decode cX11_table 18 = .ok (.ifCond .ne 5, 3) := by decide +kernel
theorem dX11_table_21 : decode cX11_table 21 = .ok (.iconst (-1), 1) := by decide +kernel
theorem dX11_table_22 : decode cX11_table 22 = .ok (.ireturn, 1) := by decide +kernel
theorem dX11_table_23 : decode cX11_table 23 = .ok (.aload_n 0, 1) := by decide +kernel
theorem dX11_table_24 : decode cX11_table 24 = .ok (.getfield 9, 3) := by decide +kernel
theorem dX11_table_27 : decode cX11_table 27 = .ok (.bipush 16, 2) := by decide +kernel
theorem dX11_table_29 : decode cX11_table 29 = .ok (.iload_n 1, 1) := by decide +kernel
theorem dX11_table_30 : decode cX11_table 30 = .ok (.imul, 1) := by decide +kernel
theorem dX11_table_31 : decode cX11_table 31 = .ok (.iload_n 2, 1) := by decide +kernel
theorem dX11_table_32 : decode cX11_table 32 = .ok (.iadd, 1) := by decide +kernel
theorem dX11_table_33 : decode cX11_table 33 = .ok (.iaload, 1) := by decide +kernel
theorem dX11_table_34 : decode cX11_table 34 = .ok (.istore 4, 2) := by decide +kernel
theorem dX11_table_36 : decode cX11_table 36 = .ok (.aload_n 0, 1) := by decide +kernel
theorem dX11_table_37 : decode cX11_table 37 = .ok (.getfield 9, 3) := by decide +kernel
theorem dX11_table_40 : decode cX11_table 40 = .ok (.bipush 16, 2) := by decide +kernel
theorem dX11_table_42 : decode cX11_table 42 = .ok (.iload_n 1, 1) := by decide +kernel
theorem dX11_table_43 : decode cX11_table 43 = .ok (.imul, 1) := by decide +kernel
theorem dX11_table_44 : decode cX11_table 44 = .ok (.iload_n 2, 1) := by decide +kernel
theorem dX11_table_45 : decode cX11_table 45 = .ok (.iadd, 1) := by decide +kernel
theorem dX11_table_46 : decode cX11_table 46 = .ok (.iload_n 3, 1) := by decide +kernel
theorem dX11_table_47 : decode cX11_table 47 = .ok (.iastore, 1) := by decide +kernel
theorem dX11_table_48 : decode cX11_table 48 = .ok (.iload 4, 2) := by decide +kernel
theorem dX11_table_50 : decode cX11_table 50 = .ok (.ireturn, 1) := by decide +kernel
theorem dX11_drying_0 : decode cX11_drying 0 = .ok (.iload_n 1, 1) := by decide +kernel
theorem dX11_drying_1 : decode cX11_drying 1 = .ok (.invokestatic 103, 3) := by decide +kernel
theorem dX11_drying_4 : decode cX11_drying 4 = .ok (.ifCond .eq 14, 3) := by decide +kernel
theorem dX11_drying_7 : decode cX11_drying 7 = .ok (.iload_n 2, 1) := by decide +kernel
theorem dX11_drying_8 : decode cX11_drying 8 = .ok (.iconst 0, 1) := by decide +kernel
theorem dX11_drying_9 : decode cX11_drying 9 = .ok (.sipush 999, 3) := by decide +kernel
theorem dX11_drying_12 : decode cX11_drying 12 = .ok (.invokestatic 90, 3) := by decide +kernel
theorem dX11_drying_15 : decode cX11_drying 15 = .ok (.ifCond .ne 5, 3) := by decide +kernel
theorem dX11_drying_18 : decode cX11_drying 18 = .ok (.iconst (-1), 1) := by decide +kernel
theorem dX11_drying_19 : decode cX11_drying 19 = .ok (.ireturn, 1) := by decide +kernel
theorem dX11_drying_20 : decode cX11_drying 20 = .ok (.aload_n 0, 1) := by decide +kernel
theorem dX11_drying_21 : decode cX11_drying 21 = .ok (.getfield 13, 3) := by decide +kernel
theorem dX11_drying_24 : decode cX11_drying 24 = .ok (.iload_n 1, 1) := by decide +kernel
theorem dX11_drying_25 : decode cX11_drying 25 = .ok (.iaload, 1) := by decide +kernel
theorem dX11_drying_26 : decode cX11_drying 26 = .ok (.istore_n 3, 1) := by decide +kernel
theorem dX11_drying_27 : decode cX11_drying 27 = .ok (.aload_n 0, 1) := by decide +kernel
theorem dX11_drying_28 : decode cX11_drying 28 = .ok (.getfield 13, 3) := by decide +kernel
theorem dX11_drying_31 : decode cX11_drying 31 = .ok (.iload_n 1, 1) := by decide +kernel
theorem dX11_drying_32 : decode cX11_drying 32 = .ok (.iload_n 2, 1) := by decide +kernel
theorem dX11_drying_33 : decode cX11_drying 33 = .ok (.iastore, 1) := by decide +kernel
theorem dX11_drying_34 : decode cX11_drying 34 = .ok (.iload_n 3, 1) := by decide +kernel
theorem dX11_drying_35 : decode cX11_drying 35 = .ok (.ireturn, 1) := by decide +kernel
theorem dX11_against_0 : decode cX11_against 0 = .ok (.iload_n 1, 1) := by decide +kernel
theorem dX11_against_1 : decode cX11_against 1 = .ok (.invokestatic 103, 3) := by decide +kernel
theorem dX11_against_4 : decode cX11_against 4 = .ok (.ifCond .eq 19, 3) := by decide +kernel
theorem dX11_against_7 : decode cX11_against 7 = .ok (.iload_n 2, 1) := by decide +kernel
theorem dX11_against_8 : decode cX11_against 8 = .ok (.invokestatic 103, 3) := by decide +kernel
theorem dX11_against_11 : decode cX11_against 11 = .ok (.ifCond .eq 12, 3) := by decide +kernel
theorem dX11_against_14 : decode cX11_against 14 = .ok (.iload_n 3, 1) := by decide +kernel
theorem dX11_against_15 : decode cX11_against 15 = .ok (.iconst 0, 1) := by decide +kernel
theorem dX11_against_16 : decode cX11_against 16 = .ok (.iconst 1, 1) := by decide +kernel
theorem dX11_against_17 : decode cX11_against 17 = .ok (.invokestatic 90, 3) := by decide +kernel
theorem dX11_against_20 : decode cX11_against 20 = .ok (.ifCond .ne 5, 3) := by decide +kernel
theorem dX11_against_23 : decode cX11_against 23 = .ok (.iconst (-1), 1) := by decide +kernel
theorem dX11_against_24 : decode cX11_against 24 = .ok (.ireturn, 1) := by decide +kernel
theorem dX11_against_25 : decode cX11_against 25 = .ok (.aload_n 0, 1) := by decide +kernel
theorem dX11_against_26 : decode cX11_against 26 = .ok (.getfield 16, 3) := by decide +kernel
theorem dX11_against_29 : decode cX11_against 29 = .ok (.bipush 10, 2) := by decide +kernel
theorem dX11_against_31 : decode cX11_against 31 = .ok (.iload_n 1, 1) := by decide +kernel
theorem dX11_against_32 : decode cX11_against 32 = .ok (.imul, 1) := by decide +kernel
theorem dX11_against_33 : decode cX11_against 33 = .ok (.iload_n 2, 1) := by decide +kernel
theorem dX11_against_34 : decode cX11_against 34 = .ok (.iadd, 1) := by decide +kernel
theorem dX11_against_35 : decode cX11_against 35 = .ok (.baload, 1) := by decide +kernel
theorem dX11_against_36 : decode cX11_against 36 = .ok (.istore 4, 2) := by decide +kernel
theorem dX11_against_38 : decode cX11_against 38 = .ok (.aload_n 0, 1) := by decide +kernel
theorem dX11_against_39 : decode cX11_against 39 = .ok (.getfield 16, 3) := by decide +kernel
theorem dX11_against_42 : decode cX11_against 42 = .ok (.bipush 10, 2) := by decide +kernel
theorem dX11_against_44 : decode cX11_against 44 = .ok (.iload_n 1, 1) := by decide +kernel
theorem dX11_against_45 : decode cX11_against 45 = .ok (.imul, 1) := by decide +kernel
theorem dX11_against_46 : decode cX11_against 46 = .ok (.iload_n 2, 1) := by decide +kernel
theorem dX11_against_47 : decode cX11_against 47 = .ok (.iadd, 1) := by decide +kernel
theorem dX11_against_48 : decode cX11_against 48 = .ok (.iload_n 3, 1) := by decide +kernel
theorem dX11_against_49 : decode cX11_against 49 = .ok (.iconst 1, 1) := by decide +kernel
theorem dX11_against_50 : decode cX11_against 50 = .ok (.if_icmp .ne 7, 3) := by decide +kernel
theorem dX11_against_53 : decode cX11_against 53 = .ok (.iconst 1, 1) := by decide +kernel
theorem dX11_against_54 : decode cX11_against 54 = .ok (.goto 4, 3) := by decide +kernel
theorem dX11_against_57 : decode cX11_against 57 = .ok (.iconst 0, 1) := by decide +kernel
theorem dX11_against_58 : decode cX11_against 58 = .ok (.bastore, 1) := by decide +kernel
theorem dX11_against_59 : decode cX11_against 59 = .ok (.iload 4, 2) := by decide +kernel
theorem dX11_against_61 : decode cX11_against 61 = .ok (.ifCond .eq 7, 3) := by decide +kernel
theorem dX11_against_64 : decode cX11_against 64 = .ok (.iconst 1, 1) := by decide +kernel
theorem dX11_against_65 : decode cX11_against 65 = .ok (.goto 4, 3) := by decide +kernel
theorem dX11_against_68 : decode cX11_against 68 = .ok (.iconst 0, 1) := by decide +kernel
theorem dX11_against_69 : decode cX11_against 69 = .ok (.ireturn, 1) := by decide +kernel
theorem dX11_mixed_0 : decode cX11_mixed 0 = .ok (.iload_n 1, 1) := by decide +kernel
theorem dX11_mixed_1 : decode cX11_mixed 1 = .ok (.invokestatic 103, 3) := by decide +kernel
theorem dX11_mixed_4 : decode cX11_mixed 4 = .ok (.ifCond .eq 22, 3) := by decide +kernel
theorem dX11_mixed_7 : decode cX11_mixed 7 = .ok (.iload_n 2, 1) := by decide +kernel
theorem dX11_mixed_8 : decode cX11_mixed 8 = .ok (.invokestatic 103, 3) := by decide +kernel
theorem dX11_mixed_11 : decode cX11_mixed 11 = .ok (.ifCond .eq 15, 3) := by decide +kernel
theorem dX11_mixed_14 : decode cX11_mixed 14 = .ok (.iload_n 1, 1) := by decide +kernel
theorem dX11_mixed_15 : decode cX11_mixed 15 = .ok (.iload_n 2, 1) := by decide +kernel
theorem dX11_mixed_16 : decode cX11_mixed 16 = .ok (.if_icmp .eq 10, 3) := by decide +kernel
theorem dX11_mixed_19 : decode cX11_mixed 19 = .ok (.iload_n 3, 1) := by decide +kernel
theorem dX11_mixed_20 : decode cX11_mixed 20 = .ok (.invokestatic 103, 3) := by decide +kernel
theorem dX11_mixed_23 : decode cX11_mixed 23 = .ok (.ifCond .ne 5, 3) := by decide +kernel
theorem dX11_mixed_26 : decode cX11_mixed 26 = .ok (.iconst (-1), 1) := by decide +kernel
theorem dX11_mixed_27 : decode cX11_mixed 27 = .ok (.ireturn, 1) := by decide +kernel
theorem dX11_mixed_28 : decode cX11_mixed 28 = .ok (.aload_n 0, 1) := by decide +kernel
theorem dX11_mixed_29 : decode cX11_mixed 29 = .ok (.getfield 20, 3) := by decide +kernel
theorem dX11_mixed_32 : decode cX11_mixed 32 = .ok (.bipush 10, 2) := by decide +kernel
theorem dX11_mixed_34 : decode cX11_mixed 34 = .ok (.iload_n 1, 1) := by decide +kernel
theorem dX11_mixed_35 : decode cX11_mixed 35 = .ok (.imul, 1) := by decide +kernel
theorem dX11_mixed_36 : decode cX11_mixed 36 = .ok (.iload_n 2, 1) := by decide +kernel
theorem dX11_mixed_37 : decode cX11_mixed 37 = .ok (.iadd, 1) := by decide +kernel
theorem dX11_mixed_38 : decode cX11_mixed 38 = .ok (.iaload, 1) := by decide +kernel
theorem dX11_mixed_39 : decode cX11_mixed 39 = .ok (.istore 4, 2) := by decide +kernel
theorem dX11_mixed_41 : decode cX11_mixed 41 = .ok (.aload_n 0, 1) := by decide +kernel
theorem dX11_mixed_42 : decode cX11_mixed 42 = .ok (.getfield 20, 3) := by decide +kernel
theorem dX11_mixed_45 : decode cX11_mixed 45 = .ok (.bipush 10, 2) := by decide +kernel
theorem dX11_mixed_47 : decode cX11_mixed 47 = .ok (.iload_n 1, 1) := by decide +kernel
theorem dX11_mixed_48 : decode cX11_mixed 48 = .ok (.imul, 1) := by decide +kernel
theorem dX11_mixed_49 : decode cX11_mixed 49 = .ok (.iload_n 2, 1) := by decide +kernel
theorem dX11_mixed_50 : decode cX11_mixed 50 = .ok (.iadd, 1) := by decide +kernel
theorem dX11_mixed_51 : decode cX11_mixed 51 = .ok (.iload_n 3, 1) := by decide +kernel
theorem dX11_mixed_52 : decode cX11_mixed 52 = .ok (.iastore, 1) := by decide +kernel
theorem dX11_mixed_53 : decode cX11_mixed 53 = .ok (.aload_n 0, 1) := by decide +kernel
theorem dX11_mixed_54 : decode cX11_mixed 54 = .ok (.getfield 20, 3) := by decide +kernel
theorem dX11_mixed_57 : decode cX11_mixed 57 = .ok (.bipush 10, 2) := by decide +kernel
theorem dX11_mixed_59 : decode cX11_mixed 59 = .ok (.iload_n 2, 1) := by decide +kernel
theorem dX11_mixed_60 : decode cX11_mixed 60 = .ok (.imul, 1) := by decide +kernel
theorem dX11_mixed_61 : decode cX11_mixed 61 = .ok (.iload_n 1, 1) := by decide +kernel
theorem dX11_mixed_62 : decode cX11_mixed 62 = .ok (.iadd, 1) := by decide +kernel
theorem dX11_mixed_63 : decode cX11_mixed 63 = .ok (.iload_n 3, 1) := by decide +kernel
theorem dX11_mixed_64 : decode cX11_mixed 64 = .ok (.iastore, 1) := by decide +kernel
theorem dX11_mixed_65 : decode cX11_mixed 65 = .ok (.iload 4, 2) := by decide +kernel
theorem dX11_mixed_67 : decode cX11_mixed 67 = .ok (.ireturn, 1) := by decide +kernel
theorem dX11_lots_0 : decode cX11_lots 0 = .ok (.iload_n 1, 1) := by decide +kernel
theorem dX11_lots_1 : decode cX11_lots 1 = .ok (.iconst 0, 1) := by decide +kernel
theorem dX11_lots_2 : decode cX11_lots 2 = .ok (.iconst 1, 1) := by decide +kernel
theorem dX11_lots_3 : decode cX11_lots 3 = .ok (.invokestatic 90, 3) := by decide +kernel
theorem dX11_lots_6 : decode cX11_lots 6 = .ok (.ifCond .eq 18, 3) := by decide +kernel
theorem dX11_lots_9 : decode cX11_lots 9 = .ok (.iload_n 1, 1) := by decide +kernel
theorem dX11_lots_10 : decode cX11_lots 10 = .ok (.ifCond .ne 16, 3) := by decide +kernel
theorem dX11_lots_13 : decode cX11_lots 13 = .ok (.iload_n 2, 1) := by decide +kernel
theorem dX11_lots_14 : decode cX11_lots 14 = .ok (.iconst 0, 1) := by decide +kernel
theorem dX11_lots_15 : decode cX11_lots 15 = .ok (.sipush 999, 3) := by decide +kernel
theorem dX11_lots_18 : decode cX11_lots 18 = .ok (.invokestatic 90, 3) := by decide +kernel
theorem dX11_lots_21 : decode cX11_lots 21 = .ok (.ifCond .ne 5, 3) := by decide +kernel
theorem dX11_lots_24 : decode cX11_lots 24 = .ok (.iconst (-1), 1) := by decide +kernel
theorem dX11_lots_25 : decode cX11_lots 25 = .ok (.ireturn, 1) := by decide +kernel
theorem dX11_lots_26 : decode cX11_lots 26 = .ok (.iload_n 1, 1) := by decide +kernel
theorem dX11_lots_27 : decode cX11_lots 27 = .ok (.ifCond .ne 11, 3) := by decide +kernel
theorem dX11_lots_30 : decode cX11_lots 30 = .ok (.aload_n 0, 1) := by decide +kernel
theorem dX11_lots_31 : decode cX11_lots 31 = .ok (.iload_n 2, 1) := by decide +kernel
theorem dX11_lots_32 : decode cX11_lots 32 = .ok (.putfield 110, 3) := by decide +kernel
theorem dX11_lots_35 : decode cX11_lots 35 = .ok (.goto 8, 3) := by decide +kernel
theorem dX11_lots_38 : decode cX11_lots 38 = .ok (.aload_n 0, 1) := by decide +kernel
theorem dX11_lots_39 : decode cX11_lots 39 = .ok (.iload_n 2, 1) := by decide +kernel
theorem dX11_lots_40 : decode cX11_lots 40 = .ok (.putfield 113, 3) := by decide +kernel
theorem dX11_lots_43 : decode cX11_lots 43 = .ok (.iconst 1, 1) := by decide +kernel
theorem dX11_lots_44 : decode cX11_lots 44 = .ok (.ireturn, 1) := by decide +kernel
theorem dX11_minutes_0 : decode cX11_minutes 0 = .ok (.iload_n 1, 1) := by decide +kernel
theorem dX11_minutes_1 : decode cX11_minutes 1 = .ok (.iconst 1, 1) := by decide +kernel
theorem dX11_minutes_2 : decode cX11_minutes 2 = .ok (.sipush 1000, 3) := by decide +kernel
theorem dX11_minutes_5 : decode cX11_minutes 5 = .ok (.invokestatic 90, 3) := by decide +kernel
theorem dX11_minutes_8 : decode cX11_minutes 8 = .ok (.ifCond .eq 14, 3) := by decide +kernel
theorem dX11_minutes_11 : decode cX11_minutes 11 = .ok (.aload_n 0, 1) := by decide +kernel
theorem dX11_minutes_12 : decode cX11_minutes 12 = .ok (.getfield 116, 3) := by decide +kernel
theorem dX11_minutes_15 : decode cX11_minutes 15 = .ok (.iload_n 1, 1) := by decide +kernel
theorem dX11_minutes_16 : decode cX11_minutes 16 = .ok (.iadd, 1) := by decide +kernel
theorem dX11_minutes_17 : decode cX11_minutes 17 = .ok (.ldc 119, 2) := by decide +kernel
theorem dX11_minutes_19 : decode cX11_minutes 19 = .ok (.if_icmp .le 5, 3) := by decide +kernel
theorem dX11_minutes_22 : decode cX11_minutes 22 = .ok (.iconst (-1), 1) := by decide +kernel
theorem dX11_minutes_23 : decode cX11_minutes 23 = .ok (.ireturn, 1) := by decide +kernel
theorem dX11_minutes_24 : decode cX11_minutes 24 = .ok (.aload_n 0, 1) := by decide +kernel
theorem dX11_minutes_25 : decode cX11_minutes 25 = .ok (.dup, 1) := by decide +kernel
theorem dX11_minutes_26 : decode cX11_minutes 26 = .ok (.getfield 116, 3) := by decide +kernel
theorem dX11_minutes_29 : decode cX11_minutes 29 = .ok (.iload_n 1, 1) := by decide +kernel
theorem dX11_minutes_30 : decode cX11_minutes 30 = .ok (.iadd, 1) := by decide +kernel
theorem dX11_minutes_31 : decode cX11_minutes 31 = .ok (.putfield 116, 3) := by decide +kernel
theorem dX11_minutes_34 : decode cX11_minutes 34 = .ok (.aload_n 0, 1) := by decide +kernel
theorem dX11_minutes_35 : decode cX11_minutes 35 = .ok (.getfield 116, 3) := by decide +kernel
theorem dX11_minutes_38 : decode cX11_minutes 38 = .ok (.ireturn, 1) := by decide +kernel
theorem dX11_takeCells_0 : decode cX11_takeCells 0 = .ok (.iload_n 1, 1) := by decide +kernel
theorem dX11_takeCells_1 : decode cX11_takeCells 1 = .ok (.ifCond .lt 10, 3) := by decide +kernel
theorem dX11_takeCells_4 : decode cX11_takeCells 4 = .ok (.iload_n 1, 1) := by decide +kernel
theorem dX11_takeCells_5 : decode cX11_takeCells 5 = .ok (.sipush 4096, 3) := by decide +kernel
theorem dX11_takeCells_8 : decode cX11_takeCells 8 = .ok (.if_icmp .lt 5, 3) := by decide +kernel
theorem dX11_takeCells_11 : decode cX11_takeCells 11 = .ok (.iconst 0, 1) := by decide +kernel
theorem dX11_takeCells_12 : decode cX11_takeCells 12 = .ok (.ireturn, 1) := by decide +kernel
theorem dX11_takeCells_13 : decode cX11_takeCells 13 = .ok (.aload_n 0, 1) := by decide +kernel
theorem dX11_takeCells_14 : decode cX11_takeCells 14 = .ok (.iload_n 1, 1) := by decide +kernel
theorem dX11_takeCells_15 : decode cX11_takeCells 15 = .ok (.sipush 512, 3) := by decide +kernel
theorem dX11_takeCells_18 : decode cX11_takeCells 18 = .ok (.idiv, 1) := by decide +kernel
theorem dX11_takeCells_19 : decode cX11_takeCells 19 = .ok (.putfield 120, 3) := by decide +kernel
theorem dX11_takeCells_22 : decode cX11_takeCells 22 = .ok (.aload_n 0, 1) := by decide +kernel
theorem dX11_takeCells_23 : decode cX11_takeCells 23 = .ok (.iload_n 1, 1) := by decide +kernel
theorem dX11_takeCells_24 : decode cX11_takeCells 24 = .ok (.bipush 64, 2) := by decide +kernel
theorem dX11_takeCells_26 : decode cX11_takeCells 26 = .ok (.idiv, 1) := by decide +kernel
theorem dX11_takeCells_27 : decode cX11_takeCells 27 = .ok (.bipush 8, 2) := by decide +kernel
theorem dX11_takeCells_29 : decode cX11_takeCells 29 = .ok (.irem, 1) := by decide +kernel
theorem dX11_takeCells_30 : decode cX11_takeCells 30 = .ok (.putfield 123, 3) := by decide +kernel
theorem dX11_takeCells_33 : decode cX11_takeCells 33 = .ok (.aload_n 0, 1) := by decide +kernel
theorem dX11_takeCells_34 : decode cX11_takeCells 34 = .ok (.iload_n 1, 1) := by decide +kernel
theorem dX11_takeCells_35 : decode cX11_takeCells 35 = .ok (.bipush 8, 2) := by decide +kernel
theorem dX11_takeCells_37 : decode cX11_takeCells 37 = .ok (.idiv, 1) := by decide +kernel
theorem dX11_takeCells_38 : decode cX11_takeCells 38 = .ok (.bipush 8, 2) := by decide +kernel
theorem dX11_takeCells_40 : decode cX11_takeCells 40 = .ok (.irem, 1) := by decide +kernel
theorem dX11_takeCells_41 : decode cX11_takeCells 41 = .ok (.putfield 126, 3) := by decide +kernel
theorem dX11_takeCells_44 : decode cX11_takeCells 44 = .ok (.aload_n 0, 1) := by decide +kernel
theorem dX11_takeCells_45 : decode cX11_takeCells 45 = .ok (.iload_n 1, 1) := by decide +kernel
theorem dX11_takeCells_46 : decode cX11_takeCells 46 = .ok (.bipush 8, 2) := by decide +kernel
theorem dX11_takeCells_48 : decode cX11_takeCells 48 = .ok (.irem, 1) := by decide +kernel
theorem dX11_takeCells_49 : decode cX11_takeCells 49 = .ok (.putfield 129, 3) := by decide +kernel
theorem dX11_takeCells_52 : decode cX11_takeCells 52 = .ok (.aload_n 0, 1) := by decide +kernel
theorem dX11_takeCells_53 : decode cX11_takeCells 53 = .ok (.getfield 120, 3) := by decide +kernel
theorem dX11_takeCells_56 : decode cX11_takeCells 56 = .ok (.aload_n 0, 1) := by decide +kernel
theorem dX11_takeCells_57 : decode cX11_takeCells 57 = .ok (.getfield 123, 3) := by decide +kernel
theorem dX11_takeCells_60 : decode cX11_takeCells 60 = .ok (.if_icmp .gt 40, 3) := by decide +kernel
theorem dX11_takeCells_63 : decode cX11_takeCells 63 = .ok (.aload_n 0, 1) := by decide +kernel
theorem dX11_takeCells_64 : decode cX11_takeCells 64 = .ok (.getfield 123, 3) := by decide +kernel
theorem dX11_takeCells_67 : decode cX11_takeCells 67 = .ok (.aload_n 0, 1) := by decide +kernel
theorem dX11_takeCells_68 : decode cX11_takeCells 68 = .ok (.getfield 94, 3) := by decide +kernel
theorem dX11_takeCells_71 : decode cX11_takeCells 71 = .ok (.if_icmp .ge 29, 3) := by decide +kernel
theorem dX11_takeCells_74 : decode cX11_takeCells 74 = .ok (.aload_n 0, 1) := by decide +kernel
theorem dX11_takeCells_75 : decode cX11_takeCells 75 = .ok (.getfield 126, 3) := by decide +kernel
theorem dX11_takeCells_78 : decode cX11_takeCells 78 = .ok (.aload_n 0, 1) := by decide +kernel
theorem dX11_takeCells_79 : decode cX11_takeCells 79 = .ok (.getfield 129, 3) := by decide +kernel
theorem dX11_takeCells_82 : decode cX11_takeCells 82 = .ok (.if_icmp .gt 18, 3) := by decide +kernel
theorem dX11_takeCells_85 : decode cX11_takeCells 85 = .ok (.aload_n 0, 1) := by decide +kernel
theorem dX11_takeCells_86 : decode cX11_takeCells 86 = .ok (.getfield 129, 3) := by decide +kernel
theorem dX11_takeCells_89 : decode cX11_takeCells 89 = .ok (.aload_n 0, 1) := by decide +kernel
theorem dX11_takeCells_90 : decode cX11_takeCells 90 = .ok (.getfield 97, 3) := by decide +kernel
theorem dX11_takeCells_93 : decode cX11_takeCells 93 = .ok (.if_icmp .ge 7, 3) := by decide +kernel
theorem dX11_takeCells_96 : decode cX11_takeCells 96 = .ok (.iconst 1, 1) := by decide +kernel
theorem dX11_takeCells_97 : decode cX11_takeCells 97 = .ok (.goto 4, 3) := by decide +kernel
theorem dX11_takeCells_100 : decode cX11_takeCells 100 = .ok (.iconst 0, 1) := by decide +kernel
theorem dX11_takeCells_101 : decode cX11_takeCells 101 = .ok (.ireturn, 1) := by decide +kernel
theorem dX11_cut_0 : decode cX11_cut 0 = .ok (.aload_n 0, 1) := by decide +kernel
theorem dX11_cut_1 : decode cX11_cut 1 = .ok (.iload_n 1, 1) := by decide +kernel
theorem dX11_cut_2 : decode cX11_cut 2 = .ok (.invokevirtual 132, 3) := by decide +kernel
theorem dX11_cut_5 : decode cX11_cut 5 = .ok (.ifCond .ne 5, 3) := by decide +kernel
theorem dX11_cut_8 : decode cX11_cut 8 = .ok (.iconst (-1), 1) := by decide +kernel
theorem dX11_cut_9 : decode cX11_cut 9 = .ok (.ireturn, 1) := by decide +kernel
theorem dX11_cut_10 : decode cX11_cut 10 = .ok (.iconst 0, 1) := by decide +kernel
theorem dX11_cut_11 : decode cX11_cut 11 = .ok (.istore_n 2, 1) := by decide +kernel
theorem dX11_cut_12 : decode cX11_cut 12 = .ok (.aload_n 0, 1) := by decide +kernel
theorem dX11_cut_13 : decode cX11_cut 13 = .ok (.getfield 120, 3) := by decide +kernel
theorem dX11_cut_16 : decode cX11_cut 16 = .ok (.istore_n 3, 1) := by decide +kernel
theorem dX11_cut_17 : decode cX11_cut 17 = .ok (.iload_n 3, 1) := by decide +kernel
theorem dX11_cut_18 : decode cX11_cut 18 = .ok (.aload_n 0, 1) := by decide +kernel
theorem dX11_cut_19 : decode cX11_cut 19 = .ok (.getfield 123, 3) := by decide +kernel
theorem dX11_cut_22 : decode cX11_cut 22 = .ok (.if_icmp .gt 85, 3) := by decide +kernel
theorem dX11_cut_25 : decode cX11_cut 25 = .ok (.aload_n 0, 1) := by decide +kernel
theorem dX11_cut_26 : decode cX11_cut 26 = .ok (.getfield 126, 3) := by decide +kernel
theorem dX11_cut_29 : decode cX11_cut 29 = .ok (.istore 4, 2) := by decide +kernel
theorem dX11_cut_31 : decode cX11_cut 31 = .ok (.iload 4, 2) := by decide +kernel
theorem dX11_cut_33 : decode cX11_cut 33 = .ok (.aload_n 0, 1) := by decide +kernel
theorem dX11_cut_34 : decode cX11_cut 34 = .ok (.getfield 129, 3) := by decide +kernel
theorem dX11_cut_37 : decode cX11_cut 37 = .ok (.if_icmp .gt 64, 3) := by decide +kernel
theorem dX11_cut_40 : decode cX11_cut 40 = .ok (.bipush 8, 2) := by decide +kernel
theorem dX11_cut_42 : decode cX11_cut 42 = .ok (.iload_n 3, 1) := by decide +kernel
theorem dX11_cut_43 : decode cX11_cut 43 = .ok (.imul, 1) := by decide +kernel
theorem dX11_cut_44 : decode cX11_cut 44 = .ok (.iload 4, 2) := by decide +kernel
theorem dX11_cut_46 : decode cX11_cut 46 = .ok (.iadd, 1) := by decide +kernel
theorem dX11_cut_47 : decode cX11_cut 47 = .ok (.istore 5, 2) := by decide +kernel
theorem dX11_cut_49 : decode cX11_cut 49 = .ok (.aload_n 0, 1) := by decide +kernel
theorem dX11_cut_50 : decode cX11_cut 50 = .ok (.getfield 23, 3) := by decide +kernel
theorem dX11_cut_53 : decode cX11_cut 53 = .ok (.iload 5, 2) := by decide +kernel
theorem dX11_cut_55 : decode cX11_cut 55 = .ok (.baload, 1) := by decide +kernel
theorem dX11_cut_56 : decode cX11_cut 56 = .ok (.ifCond .ne 21, 3) := by decide +kernel
theorem dX11_cut_59 : decode cX11_cut 59 = .ok (.aload_n 0, 1) := by decide +kernel
theorem dX11_cut_60 : decode cX11_cut 60 = .ok (.getfield 29, 3) := by decide +kernel
theorem dX11_cut_63 : decode cX11_cut 63 = .ok (.aload_n 0, 1) := by decide +kernel
theorem dX11_cut_64 : decode cX11_cut 64 = .ok (.getfield 26, 3) := by decide +kernel
theorem dX11_cut_67 : decode cX11_cut 67 = .ok (.iload 5, 2) := by decide +kernel
theorem dX11_cut_69 : decode cX11_cut 69 = .ok (.iaload, 1) := by decide +kernel
theorem dX11_cut_70 : decode cX11_cut 70 = .ok (.baload, 1) := by decide +kernel
theorem dX11_cut_71 : decode cX11_cut 71 = .ok (.ifCond .eq 6, 3) := by decide +kernel
theorem dX11_cut_74 : decode cX11_cut 74 = .ok (.bipush (-3), 2) := by decide +kernel
theorem dX11_cut_76 : decode cX11_cut 76 = .ok (.ireturn, 1) := by decide +kernel
theorem dX11_cut_77 : decode cX11_cut 77 = .ok (.iload_n 2, 1) := by decide +kernel
theorem dX11_cut_78 : decode cX11_cut 78 = .ok (.aload_n 0, 1) := by decide +kernel
theorem dX11_cut_79 : decode cX11_cut 79 = .ok (.getfield 23, 3) := by decide +kernel
theorem dX11_cut_82 : decode cX11_cut 82 = .ok (.iload 5, 2) := by decide +kernel
theorem dX11_cut_84 : decode cX11_cut 84 = .ok (.baload, 1) := by decide +kernel
theorem dX11_cut_85 : decode cX11_cut 85 = .ok (.ifCond .eq 7, 3) := by decide +kernel
theorem dX11_cut_88 : decode cX11_cut 88 = .ok (.iconst 0, 1) := by decide +kernel
theorem dX11_cut_89 : decode cX11_cut 89 = .ok (.goto 4, 3) := by decide +kernel
theorem dX11_cut_92 : decode cX11_cut 92 = .ok (.iconst 1, 1) := by decide +kernel
theorem dX11_cut_93 : decode cX11_cut 93 = .ok (.iadd, 1) := by decide +kernel
theorem dX11_cut_94 : decode cX11_cut 94 = .ok (.istore_n 2, 1) := by decide +kernel
theorem dX11_cut_95 : decode cX11_cut 95 = .ok (.iinc 4 1, 3) := by decide +kernel
theorem dX11_cut_98 : decode cX11_cut 98 = .ok (.goto (-67), 3) := by decide +kernel
theorem dX11_cut_101 : decode cX11_cut 101 = .ok (.iinc 3 1, 3) := by decide +kernel
theorem dX11_cut_104 : decode cX11_cut 104 = .ok (.goto (-87), 3) := by decide +kernel
theorem dX11_cut_107 : decode cX11_cut 107 = .ok (.aload_n 0, 1) := by decide +kernel
theorem dX11_cut_108 : decode cX11_cut 108 = .ok (.getfield 120, 3) := by decide +kernel
theorem dX11_cut_111 : decode cX11_cut 111 = .ok (.istore_n 3, 1) := by decide +kernel
theorem dX11_cut_112 : decode cX11_cut 112 = .ok (.iload_n 3, 1) := by decide +kernel
theorem dX11_cut_113 : decode cX11_cut 113 = .ok (.aload_n 0, 1) := by decide +kernel
theorem dX11_cut_114 : decode cX11_cut 114 = .ok (.getfield 123, 3) := by decide +kernel
theorem dX11_cut_117 : decode cX11_cut 117 = .ok (.if_icmp .gt 43, 3) := by decide +kernel
theorem dX11_cut_120 : decode cX11_cut 120 = .ok (.aload_n 0, 1) := by decide +kernel
theorem dX11_cut_121 : decode cX11_cut 121 = .ok (.getfield 126, 3) := by decide +kernel
theorem dX11_cut_124 : decode cX11_cut 124 = .ok (.istore 4, 2) := by decide +kernel
theorem dX11_cut_126 : decode cX11_cut 126 = .ok (.iload 4, 2) := by decide +kernel
theorem dX11_cut_128 : decode cX11_cut 128 = .ok (.aload_n 0, 1) := by decide +kernel
theorem dX11_cut_129 : decode cX11_cut 129 = .ok (.getfield 129, 3) := by decide +kernel
theorem dX11_cut_132 : decode cX11_cut 132 = .ok (.if_icmp .gt 22, 3) := by decide +kernel
theorem dX11_cut_135 : decode cX11_cut 135 = .ok (.aload_n 0, 1) := by decide +kernel
theorem dX11_cut_136 : decode cX11_cut 136 = .ok (.getfield 23, 3) := by decide +kernel
theorem dX11_cut_139 : decode cX11_cut 139 = .ok (.bipush 8, 2) := by decide +kernel
theorem dX11_cut_141 : decode cX11_cut 141 = .ok (.iload_n 3, 1) := by decide +kernel
theorem dX11_cut_142 : decode cX11_cut 142 = .ok (.imul, 1) := by decide +kernel
theorem dX11_cut_143 : decode cX11_cut 143 = .ok (.iload 4, 2) := by decide +kernel
theorem dX11_cut_145 : decode cX11_cut 145 = .ok (.iadd, 1) := by decide +kernel
theorem dX11_cut_146 : decode cX11_cut 146 = .ok (.iconst 1, 1) := by decide +kernel
theorem dX11_cut_147 : decode cX11_cut 147 = .ok (.bastore, 1) := by decide +kernel
theorem dX11_cut_148 : decode cX11_cut 148 = .ok (.iinc 4 1, 3) := by decide +kernel
theorem dX11_cut_151 : decode cX11_cut 151 = .ok (.goto (-25), 3) := by decide +kernel
theorem dX11_cut_154 : decode cX11_cut 154 = .ok (.iinc 3 1, 3) := by decide +kernel
theorem dX11_cut_157 : decode cX11_cut 157 = .ok (.goto (-45), 3) := by decide +kernel
theorem dX11_cut_160 : decode cX11_cut 160 = .ok (.iload_n 2, 1) := by decide +kernel
theorem dX11_cut_161 : decode cX11_cut 161 = .ok (.ireturn, 1) := by decide +kernel
theorem dX11_isPiece_0 : decode cX11_isPiece 0 = .ok (.iload_n 1, 1) := by decide +kernel
theorem dX11_isPiece_1 : decode cX11_isPiece 1 = .ok (.ifCond .lt 15, 3) := by decide +kernel
theorem dX11_isPiece_4 : decode cX11_isPiece 4 = .ok (.iload_n 1, 1) := by decide +kernel
theorem dX11_isPiece_5 : decode cX11_isPiece 5 = .ok (.aload_n 0, 1) := by decide +kernel
theorem dX11_isPiece_6 : decode cX11_isPiece 6 = .ok (.getfield 100, 3) := by decide +kernel
theorem dX11_isPiece_9 : decode cX11_isPiece 9 = .ok (.if_icmp .ge 7, 3) := by decide +kernel
theorem dX11_isPiece_12 : decode cX11_isPiece 12 = .ok (.iconst 1, 1) := by decide +kernel
theorem dX11_isPiece_13 : decode cX11_isPiece 13 = .ok (.goto 4, 3) := by decide +kernel
theorem dX11_isPiece_16 : decode cX11_isPiece 16 = .ok (.iconst 0, 1) := by decide +kernel
theorem dX11_isPiece_17 : decode cX11_isPiece 17 = .ok (.ireturn, 1) := by decide +kernel
theorem dX11_cellsOf_0 : decode cX11_cellsOf 0 = .ok (.iconst 0, 1) := by decide +kernel
theorem dX11_cellsOf_1 : decode cX11_cellsOf 1 = .ok (.istore_n 2, 1) := by decide +kernel
theorem dX11_cellsOf_2 : decode cX11_cellsOf 2 = .ok (.iconst 0, 1) := by decide +kernel
theorem dX11_cellsOf_3 : decode cX11_cellsOf 3 = .ok (.istore_n 3, 1) := by decide +kernel
theorem dX11_cellsOf_4 : decode cX11_cellsOf 4 = .ok (.iload_n 3, 1) := by decide +kernel
theorem dX11_cellsOf_5 : decode cX11_cellsOf 5 = .ok (.aload_n 0, 1) := by decide +kernel
theorem dX11_cellsOf_6 : decode cX11_cellsOf 6 = .ok (.getfield 94, 3) := by decide +kernel
theorem dX11_cellsOf_9 : decode cX11_cellsOf 9 = .ok (.if_icmp .ge 51, 3) := by decide +kernel
theorem dX11_cellsOf_12 : decode cX11_cellsOf 12 = .ok (.iconst 0, 1) := by decide +kernel
theorem dX11_cellsOf_13 : decode cX11_cellsOf 13 = .ok (.istore 4, 2) := by decide +kernel
theorem dX11_cellsOf_15 : decode cX11_cellsOf 15 = .ok (.iload 4, 2) := by decide +kernel
theorem dX11_cellsOf_17 : decode cX11_cellsOf 17 = .ok (.aload_n 0, 1) := by decide +kernel
theorem dX11_cellsOf_18 : decode cX11_cellsOf 18 = .ok (.getfield 97, 3) := by decide +kernel
theorem dX11_cellsOf_21 : decode cX11_cellsOf 21 = .ok (.if_icmp .ge 33, 3) := by decide +kernel
theorem dX11_cellsOf_24 : decode cX11_cellsOf 24 = .ok (.iload_n 2, 1) := by decide +kernel
theorem dX11_cellsOf_25 : decode cX11_cellsOf 25 = .ok (.aload_n 0, 1) := by decide +kernel
theorem dX11_cellsOf_26 : decode cX11_cellsOf 26 = .ok (.getfield 26, 3) := by decide +kernel
theorem dX11_cellsOf_29 : decode cX11_cellsOf 29 = .ok (.bipush 8, 2) := by decide +kernel
theorem dX11_cellsOf_31 : decode cX11_cellsOf 31 = .ok (.iload_n 3, 1) := by decide +kernel
theorem dX11_cellsOf_32 : decode cX11_cellsOf 32 = .ok (.imul, 1) := by decide +kernel
theorem dX11_cellsOf_33 : decode cX11_cellsOf 33 = .ok (.iload 4, 2) := by decide +kernel
theorem dX11_cellsOf_35 : decode cX11_cellsOf 35 = .ok (.iadd, 1) := by decide +kernel
theorem dX11_cellsOf_36 : decode cX11_cellsOf 36 = .ok (.iaload, 1) := by decide +kernel
theorem dX11_cellsOf_37 : decode cX11_cellsOf 37 = .ok (.iload_n 1, 1) := by decide +kernel
theorem dX11_cellsOf_38 : decode cX11_cellsOf 38 = .ok (.if_icmp .ne 7, 3) := by decide +kernel
theorem dX11_cellsOf_41 : decode cX11_cellsOf 41 = .ok (.iconst 1, 1) := by decide +kernel
theorem dX11_cellsOf_42 : decode cX11_cellsOf 42 = .ok (.goto 4, 3) := by decide +kernel
theorem dX11_cellsOf_45 : decode cX11_cellsOf 45 = .ok (.iconst 0, 1) := by decide +kernel
theorem dX11_cellsOf_46 : decode cX11_cellsOf 46 = .ok (.iadd, 1) := by decide +kernel
theorem dX11_cellsOf_47 : decode cX11_cellsOf 47 = .ok (.istore_n 2, 1) := by decide +kernel
theorem dX11_cellsOf_48 : decode cX11_cellsOf 48 = .ok (.iinc 4 1, 3) := by decide +kernel
theorem dX11_cellsOf_51 : decode cX11_cellsOf 51 = .ok (.goto (-36), 3) := by decide +kernel
theorem dX11_cellsOf_54 : decode cX11_cellsOf 54 = .ok (.iinc 3 1, 3) := by decide +kernel
theorem dX11_cellsOf_57 : decode cX11_cellsOf 57 = .ok (.goto (-53), 3) := by decide +kernel
theorem dX11_cellsOf_60 : decode cX11_cellsOf 60 = .ok (.iload_n 2, 1) := by decide +kernel
theorem dX11_cellsOf_61 : decode cX11_cellsOf 61 = .ok (.ireturn, 1) := by decide +kernel
theorem dX11_saw_0 : decode cX11_saw 0 = .ok (.aload_n 0, 1) := by decide +kernel
theorem dX11_saw_1 : decode cX11_saw 1 = .ok (.iload_n 1, 1) := by decide +kernel
theorem dX11_saw_2 : decode cX11_saw 2 = .ok (.invokevirtual 135, 3) := by decide +kernel
theorem dX11_saw_5 : decode cX11_saw 5 = .ok (.ifCond .eq 11, 3) := by decide +kernel
theorem dX11_saw_8 : decode cX11_saw 8 = .ok (.aload_n 0, 1) := by decide +kernel
theorem dX11_saw_9 : decode cX11_saw 9 = .ok (.iload_n 2, 1) := by decide +kernel
theorem dX11_saw_10 : decode cX11_saw 10 = .ok (.invokevirtual 132, 3) := by decide +kernel
theorem dX11_saw_13 : decode cX11_saw 13 = .ok (.ifCond .ne 5, 3) := by decide +kernel
theorem dX11_saw_16 : decode cX11_saw 16 = .ok (.iconst (-1), 1) := by decide +kernel
theorem dX11_saw_17 : decode cX11_saw 17 = .ok (.ireturn, 1) := by decide +kernel
theorem dX11_saw_18 : decode cX11_saw 18 = .ok (.iconst 0, 1) := by decide +kernel
theorem dX11_saw_19 : decode cX11_saw 19 = .ok (.istore_n 3, 1) := by decide +kernel
theorem dX11_saw_20 : decode cX11_saw 20 = .ok (.aload_n 0, 1) := by decide +kernel
theorem dX11_saw_21 : decode cX11_saw 21 = .ok (.getfield 120, 3) := by decide +kernel
theorem dX11_saw_24 : decode cX11_saw 24 = .ok (.istore 4, 2) := by decide +kernel
theorem dX11_saw_26 : decode cX11_saw 26 = .ok (.iload 4, 2) := by decide +kernel
theorem dX11_saw_28 : decode cX11_saw 28 = .ok (.aload_n 0, 1) := by decide +kernel
theorem dX11_saw_29 : decode cX11_saw 29 = .ok (.getfield 123, 3) := by decide +kernel
theorem dX11_saw_32 : decode cX11_saw 32 = .ok (.if_icmp .gt 55, 3) := by decide +kernel
theorem dX11_saw_35 : decode cX11_saw 35 = .ok (.aload_n 0, 1) := by decide +kernel
theorem dX11_saw_36 : decode cX11_saw 36 = .ok (.getfield 126, 3) := by decide +kernel
theorem dX11_saw_39 : decode cX11_saw 39 = .ok (.istore 5, 2) := by decide +kernel
theorem dX11_saw_41 : decode cX11_saw 41 = .ok (.iload 5, 2) := by decide +kernel
theorem dX11_saw_43 : decode cX11_saw 43 = .ok (.aload_n 0, 1) := by decide +kernel
theorem dX11_saw_44 : decode cX11_saw 44 = .ok (.getfield 129, 3) := by decide +kernel
theorem dX11_saw_47 : decode cX11_saw 47 = .ok (.if_icmp .gt 34, 3) := by decide +kernel
theorem dX11_saw_50 : decode cX11_saw 50 = .ok (.iload_n 3, 1) := by decide +kernel
theorem dX11_saw_51 : decode cX11_saw 51 = .ok (.aload_n 0, 1) := by decide +kernel
theorem dX11_saw_52 : decode cX11_saw 52 = .ok (.getfield 26, 3) := by decide +kernel
theorem dX11_saw_55 : decode cX11_saw 55 = .ok (.bipush 8, 2) := by decide +kernel
theorem dX11_saw_57 : decode cX11_saw 57 = .ok (.iload 4, 2) := by decide +kernel
theorem dX11_saw_59 : decode cX11_saw 59 = .ok (.imul, 1) := by decide +kernel
theorem dX11_saw_60 : decode cX11_saw 60 = .ok (.iload 5, 2) := by decide +kernel
theorem dX11_saw_62 : decode cX11_saw 62 = .ok (.iadd, 1) := by decide +kernel
theorem dX11_saw_63 : decode cX11_saw 63 = .ok (.iaload, 1) := by decide +kernel
theorem dX11_saw_64 : decode cX11_saw 64 = .ok (.iload_n 1, 1) := by decide +kernel
theorem dX11_saw_65 : decode cX11_saw 65 = .ok (.if_icmp .ne 7, 3) := by decide +kernel
theorem dX11_saw_68 : decode cX11_saw 68 = .ok (.iconst 1, 1) := by decide +kernel
theorem dX11_saw_69 : decode cX11_saw 69 = .ok (.goto 4, 3) := by decide +kernel
theorem dX11_saw_72 : decode cX11_saw 72 = .ok (.iconst 0, 1) := by decide +kernel
theorem dX11_saw_73 : decode cX11_saw 73 = .ok (.iadd, 1) := by decide +kernel
theorem dX11_saw_74 : decode cX11_saw 74 = .ok (.istore_n 3, 1) := by decide +kernel
theorem dX11_saw_75 : decode cX11_saw 75 = .ok (.iinc 5 1, 3) := by decide +kernel
theorem dX11_saw_78 : decode cX11_saw 78 = .ok (.goto (-37), 3) := by decide +kernel
theorem dX11_saw_81 : decode cX11_saw 81 = .ok (.iinc 4 1, 3) := by decide +kernel
theorem dX11_saw_84 : decode cX11_saw 84 = .ok (.goto (-58), 3) := by decide +kernel
theorem dX11_saw_87 : decode cX11_saw 87 = .ok (.iload_n 3, 1) := by decide +kernel
theorem dX11_saw_88 : decode cX11_saw 88 = .ok (.ifCond .eq 12, 3) := by decide +kernel
theorem dX11_saw_91 : decode cX11_saw 91 = .ok (.iload_n 3, 1) := by decide +kernel
theorem dX11_saw_92 : decode cX11_saw 92 = .ok (.aload_n 0, 1) := by decide +kernel
theorem dX11_saw_93 : decode cX11_saw 93 = .ok (.iload_n 1, 1) := by decide +kernel
theorem dX11_saw_94 : decode cX11_saw 94 = .ok (.invokevirtual 138, 3) := by decide +kernel
theorem dX11_saw_97 : decode cX11_saw 97 = .ok (.if_icmp .ne 6, 3) := by decide +kernel
theorem dX11_saw_100 : decode cX11_saw 100 = .ok (.bipush (-4), 2) := by decide +kernel
theorem dX11_saw_102 : decode cX11_saw 102 = .ok (.ireturn, 1) := by decide +kernel
theorem dX11_saw_103 : decode cX11_saw 103 = .ok (.aload_n 0, 1) := by decide +kernel
theorem dX11_saw_104 : decode cX11_saw 104 = .ok (.getfield 100, 3) := by decide +kernel
theorem dX11_saw_107 : decode cX11_saw 107 = .ok (.bipush 8, 2) := by decide +kernel
theorem dX11_saw_109 : decode cX11_saw 109 = .ok (.if_icmp .ne 6, 3) := by decide +kernel
theorem dX11_saw_112 : decode cX11_saw 112 = .ok (.bipush (-2), 2) := by decide +kernel
theorem dX11_saw_114 : decode cX11_saw 114 = .ok (.ireturn, 1) := by decide +kernel
theorem dX11_saw_115 : decode cX11_saw 115 = .ok (.aload_n 0, 1) := by decide +kernel
theorem dX11_saw_116 : decode cX11_saw 116 = .ok (.getfield 120, 3) := by decide +kernel
theorem dX11_saw_119 : decode cX11_saw 119 = .ok (.istore 4, 2) := by decide +kernel
theorem dX11_saw_121 : decode cX11_saw 121 = .ok (.iload 4, 2) := by decide +kernel
theorem dX11_saw_123 : decode cX11_saw 123 = .ok (.aload_n 0, 1) := by decide +kernel
theorem dX11_saw_124 : decode cX11_saw 124 = .ok (.getfield 123, 3) := by decide +kernel
theorem dX11_saw_127 : decode cX11_saw 127 = .ok (.if_icmp .gt 64, 3) := by decide +kernel
theorem dX11_saw_130 : decode cX11_saw 130 = .ok (.aload_n 0, 1) := by decide +kernel
theorem dX11_saw_131 : decode cX11_saw 131 = .ok (.getfield 126, 3) := by decide +kernel
theorem dX11_saw_134 : decode cX11_saw 134 = .ok (.istore 5, 2) := by decide +kernel
theorem dX11_saw_136 : decode cX11_saw 136 = .ok (.iload 5, 2) := by decide +kernel
theorem dX11_saw_138 : decode cX11_saw 138 = .ok (.aload_n 0, 1) := by decide +kernel
theorem dX11_saw_139 : decode cX11_saw 139 = .ok (.getfield 129, 3) := by decide +kernel
theorem dX11_saw_142 : decode cX11_saw 142 = .ok (.if_icmp .gt 43, 3) := by decide +kernel
theorem dX11_saw_145 : decode cX11_saw 145 = .ok (.aload_n 0, 1) := by decide +kernel
theorem dX11_saw_146 : decode cX11_saw 146 = .ok (.getfield 26, 3) := by decide +kernel
theorem dX11_saw_149 : decode cX11_saw 149 = .ok (.bipush 8, 2) := by decide +kernel
theorem dX11_saw_151 : decode cX11_saw 151 = .ok (.iload 4, 2) := by decide +kernel
theorem dX11_saw_153 : decode cX11_saw 153 = .ok (.imul, 1) := by decide +kernel
theorem dX11_saw_154 : decode cX11_saw 154 = .ok (.iload 5, 2) := by decide +kernel
theorem dX11_saw_156 : decode cX11_saw 156 = .ok (.iadd, 1) := by decide +kernel
theorem dX11_saw_157 : decode cX11_saw 157 = .ok (.iaload, 1) := by decide +kernel
theorem dX11_saw_158 : decode cX11_saw 158 = .ok (.iload_n 1, 1) := by decide +kernel
theorem dX11_saw_159 : decode cX11_saw 159 = .ok (.if_icmp .ne 20, 3) := by decide +kernel
theorem dX11_saw_162 : decode cX11_saw 162 = .ok (.aload_n 0, 1) := by decide +kernel
theorem dX11_saw_163 : decode cX11_saw 163 = .ok (.getfield 26, 3) := by decide +kernel
theorem dX11_saw_166 : decode cX11_saw 166 = .ok (.bipush 8, 2) := by decide +kernel
theorem dX11_saw_168 : decode cX11_saw 168 = .ok (.iload 4, 2) := by decide +kernel
theorem dX11_saw_170 : decode cX11_saw 170 = .ok (.imul, 1) := by decide +kernel
theorem dX11_saw_171 : decode cX11_saw 171 = .ok (.iload 5, 2) := by decide +kernel
theorem dX11_saw_173 : decode cX11_saw 173 = .ok (.iadd, 1) := by decide +kernel
theorem dX11_saw_174 : decode cX11_saw 174 = .ok (.aload_n 0, 1) := by decide +kernel
theorem dX11_saw_175 : decode cX11_saw 175 = .ok (.getfield 100, 3) := by decide +kernel
theorem dX11_saw_178 : decode cX11_saw 178 = .ok (.iastore, 1) := by decide +kernel
theorem dX11_saw_179 : decode cX11_saw 179 = .ok (.iinc 5 1, 3) := by decide +kernel
theorem dX11_saw_182 : decode cX11_saw 182 = .ok (.goto (-46), 3) := by decide +kernel
theorem dX11_saw_185 : decode cX11_saw 185 = .ok (.iinc 4 1, 3) := by decide +kernel
theorem dX11_saw_188 : decode cX11_saw 188 = .ok (.goto (-67), 3) := by decide +kernel
theorem dX11_saw_191 : decode cX11_saw 191 = .ok (.aload_n 0, 1) := by decide +kernel
theorem dX11_saw_192 : decode cX11_saw 192 = .ok (.getfield 29, 3) := by decide +kernel
theorem dX11_saw_195 : decode cX11_saw 195 = .ok (.aload_n 0, 1) := by decide +kernel
theorem dX11_saw_196 : decode cX11_saw 196 = .ok (.getfield 100, 3) := by decide +kernel
theorem dX11_saw_199 : decode cX11_saw 199 = .ok (.aload_n 0, 1) := by decide +kernel
theorem dX11_saw_200 : decode cX11_saw 200 = .ok (.getfield 29, 3) := by decide +kernel
theorem dX11_saw_203 : decode cX11_saw 203 = .ok (.iload_n 1, 1) := by decide +kernel
theorem dX11_saw_204 : decode cX11_saw 204 = .ok (.baload, 1) := by decide +kernel
theorem dX11_saw_205 : decode cX11_saw 205 = .ok (.bastore, 1) := by decide +kernel
theorem dX11_saw_206 : decode cX11_saw 206 = .ok (.aload_n 0, 1) := by decide +kernel
theorem dX11_saw_207 : decode cX11_saw 207 = .ok (.dup, 1) := by decide +kernel
theorem dX11_saw_208 : decode cX11_saw 208 = .ok (.getfield 100, 3) := by decide +kernel
theorem dX11_saw_211 : decode cX11_saw 211 = .ok (.iconst 1, 1) := by decide +kernel
theorem dX11_saw_212 : decode cX11_saw 212 = .ok (.iadd, 1) := by decide +kernel
theorem dX11_saw_213 : decode cX11_saw 213 = .ok (.putfield 100, 3) := by decide +kernel
theorem dX11_saw_216 : decode cX11_saw 216 = .ok (.aload_n 0, 1) := by decide +kernel
theorem dX11_saw_217 : decode cX11_saw 217 = .ok (.getfield 100, 3) := by decide +kernel
theorem dX11_saw_220 : decode cX11_saw 220 = .ok (.iconst 1, 1) := by decide +kernel
theorem dX11_saw_221 : decode cX11_saw 221 = .ok (.isub, 1) := by decide +kernel
theorem dX11_saw_222 : decode cX11_saw 222 = .ok (.ireturn, 1) := by decide +kernel
theorem dX11_piece_0 : decode cX11_piece 0 = .ok (.aload_n 0, 1) := by decide +kernel
theorem dX11_piece_1 : decode cX11_piece 1 = .ok (.iload_n 1, 1) := by decide +kernel
theorem dX11_piece_2 : decode cX11_piece 2 = .ok (.invokevirtual 135, 3) := by decide +kernel
theorem dX11_piece_5 : decode cX11_piece 5 = .ok (.ifCond .eq 12, 3) := by decide +kernel
theorem dX11_piece_8 : decode cX11_piece 8 = .ok (.iload_n 2, 1) := by decide +kernel
theorem dX11_piece_9 : decode cX11_piece 9 = .ok (.iconst 0, 1) := by decide +kernel
theorem dX11_piece_10 : decode cX11_piece 10 = .ok (.iconst 1, 1) := by decide +kernel
theorem dX11_piece_11 : decode cX11_piece 11 = .ok (.invokestatic 90, 3) := by decide +kernel
theorem dX11_piece_14 : decode cX11_piece 14 = .ok (.ifCond .ne 5, 3) := by decide +kernel
theorem dX11_piece_17 : decode cX11_piece 17 = .ok (.iconst (-1), 1) := by decide +kernel
theorem dX11_piece_18 : decode cX11_piece 18 = .ok (.ireturn, 1) := by decide +kernel
theorem dX11_piece_19 : decode cX11_piece 19 = .ok (.aload_n 0, 1) := by decide +kernel
theorem dX11_piece_20 : decode cX11_piece 20 = .ok (.getfield 29, 3) := by decide +kernel
theorem dX11_piece_23 : decode cX11_piece 23 = .ok (.iload_n 1, 1) := by decide +kernel
theorem dX11_piece_24 : decode cX11_piece 24 = .ok (.baload, 1) := by decide +kernel
theorem dX11_piece_25 : decode cX11_piece 25 = .ok (.istore_n 3, 1) := by decide +kernel
theorem dX11_piece_26 : decode cX11_piece 26 = .ok (.aload_n 0, 1) := by decide +kernel
theorem dX11_piece_27 : decode cX11_piece 27 = .ok (.getfield 29, 3) := by decide +kernel
theorem dX11_piece_30 : decode cX11_piece 30 = .ok (.iload_n 1, 1) := by decide +kernel
theorem dX11_piece_31 : decode cX11_piece 31 = .ok (.iload_n 2, 1) := by decide +kernel
theorem dX11_piece_32 : decode cX11_piece 32 = .ok (.ifCond .ne 7, 3) := by decide +kernel
theorem dX11_piece_35 : decode cX11_piece 35 = .ok (.iconst 1, 1) := by decide +kernel
theorem dX11_piece_36 : decode cX11_piece 36 = .ok (.goto 4, 3) := by decide +kernel
theorem dX11_piece_39 : decode cX11_piece 39 = .ok (.iconst 0, 1) := by decide +kernel
theorem dX11_piece_40 : decode cX11_piece 40 = .ok (.bastore, 1) := by decide +kernel
theorem dX11_piece_41 : decode cX11_piece 41 = .ok (.iload_n 3, 1) := by decide +kernel
theorem dX11_piece_42 : decode cX11_piece 42 = .ok (.ifCond .eq 7, 3) := by decide +kernel
theorem dX11_piece_45 : decode cX11_piece 45 = .ok (.iconst 0, 1) := by decide +kernel
theorem dX11_piece_46 : decode cX11_piece 46 = .ok (.goto 4, 3) := by decide +kernel
theorem dX11_piece_49 : decode cX11_piece 49 = .ok (.iconst 1, 1) := by decide +kernel
theorem dX11_piece_50 : decode cX11_piece 50 = .ok (.ireturn, 1) := by decide +kernel
theorem dX11_isCell_0 : decode cX11_isCell 0 = .ok (.iload_n 1, 1) := by decide +kernel
theorem dX11_isCell_1 : decode cX11_isCell 1 = .ok (.ifCond .lt 29, 3) := by decide +kernel
theorem dX11_isCell_4 : decode cX11_isCell 4 = .ok (.iload_n 1, 1) := by decide +kernel
theorem dX11_isCell_5 : decode cX11_isCell 5 = .ok (.bipush 8, 2) := by decide +kernel
theorem dX11_isCell_7 : decode cX11_isCell 7 = .ok (.idiv, 1) := by decide +kernel
theorem dX11_isCell_8 : decode cX11_isCell 8 = .ok (.aload_n 0, 1) := by decide +kernel
theorem dX11_isCell_9 : decode cX11_isCell 9 = .ok (.getfield 94, 3) := by decide +kernel
theorem dX11_isCell_12 : decode cX11_isCell 12 = .ok (.if_icmp .ge 18, 3) := by decide +kernel
theorem dX11_isCell_15 : decode cX11_isCell 15 = .ok (.iload_n 1, 1) := by decide +kernel
theorem dX11_isCell_16 : decode cX11_isCell 16 = .ok (.bipush 8, 2) := by decide +kernel
theorem dX11_isCell_18 : decode cX11_isCell 18 = .ok (.irem, 1) := by decide +kernel
theorem dX11_isCell_19 : decode cX11_isCell 19 = .ok (.aload_n 0, 1) := by decide +kernel
theorem dX11_isCell_20 : decode cX11_isCell 20 = .ok (.getfield 97, 3) := by decide +kernel
theorem dX11_isCell_23 : decode cX11_isCell 23 = .ok (.if_icmp .ge 7, 3) := by decide +kernel
theorem dX11_isCell_26 : decode cX11_isCell 26 = .ok (.iconst 1, 1) := by decide +kernel
theorem dX11_isCell_27 : decode cX11_isCell 27 = .ok (.goto 4, 3) := by decide +kernel
theorem dX11_isCell_30 : decode cX11_isCell 30 = .ok (.iconst 0, 1) := by decide +kernel
theorem dX11_isCell_31 : decode cX11_isCell 31 = .ok (.ireturn, 1) := by decide +kernel
theorem dX11_cell_0 : decode cX11_cell 0 = .ok (.aload_n 0, 1) := by decide +kernel
theorem dX11_cell_1 : decode cX11_cell 1 = .ok (.iload_n 1, 1) := by decide +kernel
theorem dX11_cell_2 : decode cX11_cell 2 = .ok (.invokevirtual 142, 3) := by decide +kernel
theorem dX11_cell_5 : decode cX11_cell 5 = .ok (.ifCond .eq 12, 3) := by decide +kernel
theorem dX11_cell_8 : decode cX11_cell 8 = .ok (.iload_n 2, 1) := by decide +kernel
theorem dX11_cell_9 : decode cX11_cell 9 = .ok (.iconst 0, 1) := by decide +kernel
theorem dX11_cell_10 : decode cX11_cell 10 = .ok (.iconst 1, 1) := by decide +kernel
theorem dX11_cell_11 : decode cX11_cell 11 = .ok (.invokestatic 90, 3) := by decide +kernel
theorem dX11_cell_14 : decode cX11_cell 14 = .ok (.ifCond .ne 5, 3) := by decide +kernel
theorem dX11_cell_17 : decode cX11_cell 17 = .ok (.iconst (-1), 1) := by decide +kernel
theorem dX11_cell_18 : decode cX11_cell 18 = .ok (.ireturn, 1) := by decide +kernel
theorem dX11_cell_19 : decode cX11_cell 19 = .ok (.iload_n 2, 1) := by decide +kernel
theorem dX11_cell_20 : decode cX11_cell 20 = .ok (.ifCond .ne 20, 3) := by decide +kernel
theorem dX11_cell_23 : decode cX11_cell 23 = .ok (.aload_n 0, 1) := by decide +kernel
theorem dX11_cell_24 : decode cX11_cell 24 = .ok (.getfield 23, 3) := by decide +kernel
theorem dX11_cell_27 : decode cX11_cell 27 = .ok (.iload_n 1, 1) := by decide +kernel
theorem dX11_cell_28 : decode cX11_cell 28 = .ok (.baload, 1) := by decide +kernel
theorem dX11_cell_29 : decode cX11_cell 29 = .ok (.ifCond .eq 7, 3) := by decide +kernel
theorem dX11_cell_32 : decode cX11_cell 32 = .ok (.iconst 0, 1) := by decide +kernel
theorem dX11_cell_33 : decode cX11_cell 33 = .ok (.goto 13, 3) := by decide +kernel
theorem dX11_cell_36 : decode cX11_cell 36 = .ok (.iconst 1, 1) := by decide +kernel
theorem dX11_cell_37 : decode cX11_cell 37 = .ok (.goto 9, 3) := by decide +kernel
theorem dX11_cell_40 : decode cX11_cell 40 = .ok (.aload_n 0, 1) := by decide +kernel
theorem dX11_cell_41 : decode cX11_cell 41 = .ok (.getfield 26, 3) := by decide +kernel
theorem dX11_cell_44 : decode cX11_cell 44 = .ok (.iload_n 1, 1) := by decide +kernel
theorem dX11_cell_45 : decode cX11_cell 45 = .ok (.iaload, 1) := by decide +kernel
theorem dX11_cell_46 : decode cX11_cell 46 = .ok (.ireturn, 1) := by decide +kernel
theorem dX11_prints_0 : decode cX11_prints 0 = .ok (.aload_n 0, 1) := by decide +kernel
theorem dX11_prints_1 : decode cX11_prints 1 = .ok (.getfield 23, 3) := by decide +kernel
theorem dX11_prints_4 : decode cX11_prints 4 = .ok (.iload_n 1, 1) := by decide +kernel
theorem dX11_prints_5 : decode cX11_prints 5 = .ok (.baload, 1) := by decide +kernel
theorem dX11_prints_6 : decode cX11_prints 6 = .ok (.ifCond .ne 21, 3) := by decide +kernel
theorem dX11_prints_9 : decode cX11_prints 9 = .ok (.aload_n 0, 1) := by decide +kernel
theorem dX11_prints_10 : decode cX11_prints 10 = .ok (.getfield 29, 3) := by decide +kernel
theorem dX11_prints_13 : decode cX11_prints 13 = .ok (.aload_n 0, 1) := by decide +kernel
theorem dX11_prints_14 : decode cX11_prints 14 = .ok (.getfield 26, 3) := by decide +kernel
theorem dX11_prints_17 : decode cX11_prints 17 = .ok (.iload_n 1, 1) := by decide +kernel
theorem dX11_prints_18 : decode cX11_prints 18 = .ok (.iaload, 1) := by decide +kernel
theorem dX11_prints_19 : decode cX11_prints 19 = .ok (.baload, 1) := by decide +kernel
theorem dX11_prints_20 : decode cX11_prints 20 = .ok (.ifCond .ne 7, 3) := by decide +kernel
theorem dX11_prints_23 : decode cX11_prints 23 = .ok (.iconst 1, 1) := by decide +kernel
theorem dX11_prints_24 : decode cX11_prints 24 = .ok (.goto 4, 3) := by decide +kernel
theorem dX11_prints_27 : decode cX11_prints 27 = .ok (.iconst 0, 1) := by decide +kernel
theorem dX11_prints_28 : decode cX11_prints 28 = .ok (.ireturn, 1) := by decide +kernel
theorem dX11_findGroups_0 : decode cX11_findGroups 0 = .ok (.iconst 0, 1) := by decide +kernel
theorem dX11_findGroups_1 : decode cX11_findGroups 1 = .ok (.istore_n 1, 1) := by decide +kernel
theorem dX11_findGroups_2 : decode cX11_findGroups 2 = .ok (.iload_n 1, 1) := by decide +kernel
theorem dX11_findGroups_3 : decode cX11_findGroups 3 = .ok (.bipush 64, 2) := by decide +kernel
theorem dX11_findGroups_5 : decode cX11_findGroups 5 = .ok (.if_icmp .ge 36, 3) := by decide +kernel
theorem dX11_findGroups_8 : decode cX11_findGroups 8 = .ok (.aload_n 0, 1) := by decide +kernel
theorem dX11_findGroups_9 : decode cX11_findGroups 9 = .ok (.getfield 32, 3) := by decide +kernel
theorem dX11_findGroups_12 : decode cX11_findGroups 12 = .ok (.iload_n 1, 1) := by decide +kernel
theorem dX11_findGroups_13 : decode cX11_findGroups 13 = .ok (.aload_n 0, 1) := by decide +kernel
theorem dX11_findGroups_14 : decode cX11_findGroups 14 = .ok (.iload_n 1, 1) := by decide +kernel
theorem dX11_findGroups_15 : decode cX11_findGroups 15 = .ok (.invokevirtual 142, 3) := by decide +kernel
theorem dX11_findGroups_18 : decode cX11_findGroups 18 = .ok (.ifCond .eq 15, 3) := by decide +kernel
theorem dX11_findGroups_21 : decode cX11_findGroups 21 = .ok (.aload_n 0, 1) := by decide +kernel
theorem dX11_findGroups_22 : decode cX11_findGroups 22 = .ok (.iload_n 1, 1) := by decide +kernel
theorem dX11_findGroups_23 : decode cX11_findGroups 23 = .ok (.invokevirtual 145, 3) := by decide +kernel
theorem dX11_findGroups_26 : decode cX11_findGroups 26 = .ok (.ifCond .eq 7, 3) := by decide +kernel
theorem dX11_findGroups_29 : decode cX11_findGroups 29 = .ok (.iload_n 1, 1) := by decide +kernel
theorem dX11_findGroups_30 : decode cX11_findGroups 30 = .ok (.goto 4, 3) := by decide +kernel
theorem dX11_findGroups_33 : decode cX11_findGroups 33 = .ok (.iconst (-1), 1) := by decide +kernel
theorem dX11_findGroups_34 : decode cX11_findGroups 34 = .ok (.iastore, 1) := by decide +kernel
theorem dX11_findGroups_35 : decode cX11_findGroups 35 = .ok (.iinc 1 1, 3) := by decide +kernel
theorem dX11_findGroups_38 : decode cX11_findGroups 38 = .ok (.goto (-36), 3) := by decide +kernel
theorem dX11_findGroups_41 : decode cX11_findGroups 41 = .ok (.iconst 1, 1) := by decide +kernel
theorem dX11_findGroups_42 : decode cX11_findGroups 42 = .ok (.istore_n 1, 1) := by decide +kernel
theorem dX11_findGroups_43 : decode cX11_findGroups 43 = .ok (.iload_n 1, 1) := by decide +kernel
theorem dX11_findGroups_44 : decode cX11_findGroups 44 = .ok (.ifCond .eq 161, 3) := by decide +kernel
theorem dX11_findGroups_47 : decode cX11_findGroups 47 = .ok (.iconst 0, 1) := by decide +kernel
theorem dX11_findGroups_48 : decode cX11_findGroups 48 = .ok (.istore_n 1, 1) := by decide +kernel
theorem dX11_findGroups_49 : decode cX11_findGroups 49 = .ok (.iconst 0, 1) := by decide +kernel
theorem dX11_findGroups_50 : decode cX11_findGroups 50 = .ok (.istore_n 2, 1) := by decide +kernel
theorem dX11_findGroups_51 : decode cX11_findGroups 51 = .ok (.iload_n 2, 1) := by decide +kernel
theorem dX11_findGroups_52 : decode cX11_findGroups 52 = .ok (.bipush 64, 2) := by decide +kernel
theorem dX11_findGroups_54 : decode cX11_findGroups 54 = .ok (.if_icmp .ge 148, 3) := by decide +kernel
theorem dX11_findGroups_57 : decode cX11_findGroups 57 = .ok (.aload_n 0, 1) := by decide +kernel
theorem dX11_findGroups_58 : decode cX11_findGroups 58 = .ok (.getfield 32, 3) := by decide +kernel
theorem dX11_findGroups_61 : decode cX11_findGroups 61 = .ok (.iload_n 2, 1) := by decide +kernel
theorem dX11_findGroups_62 : decode cX11_findGroups 62 = .ok (.iaload, 1) := by decide +kernel
theorem dX11_findGroups_63 : decode cX11_findGroups 63 = .ok (.ifCond .lt 133, 3) := by decide +kernel
theorem dX11_findGroups_66 : decode cX11_findGroups 66 = .ok (.aload_n 0, 1) := by decide +kernel
theorem dX11_findGroups_67 : decode cX11_findGroups 67 = .ok (.iload_n 2, 1) := by decide +kernel
theorem dX11_findGroups_68 : decode cX11_findGroups 68 = .ok (.iload_n 2, 1) := by decide +kernel
theorem dX11_findGroups_69 : decode cX11_findGroups 69 = .ok (.bipush 8, 2) := by decide +kernel
theorem dX11_findGroups_71 : decode cX11_findGroups 71 = .ok (.irem, 1) := by decide +kernel
theorem dX11_findGroups_72 : decode cX11_findGroups 72 = .ok (.ifCond .le 9, 3) := by decide +kernel
theorem dX11_findGroups_75 : decode cX11_findGroups 75 = .ok (.iload_n 2, 1) := by decide +kernel
theorem dX11_findGroups_76 : decode cX11_findGroups 76 = .ok (.iconst 1, 1) := by decide +kernel
theorem dX11_findGroups_77 : decode cX11_findGroups 77 = .ok (.isub, 1) := by decide +kernel
theorem dX11_findGroups_78 : decode cX11_findGroups 78 = .ok (.goto 4, 3) := by decide +kernel
theorem dX11_findGroups_81 : decode cX11_findGroups 81 = .ok (.iconst (-1), 1) := by decide +kernel
theorem dX11_findGroups_82 : decode cX11_findGroups 82 = .ok (.invokevirtual 148, 3) := by decide +kernel
theorem dX11_findGroups_85 : decode cX11_findGroups 85 = .ok (.ifCond .ne 7, 3) := by decide +kernel
theorem dX11_findGroups_88 : decode cX11_findGroups 88 = .ok (.iload_n 1, 1) := by decide +kernel
theorem dX11_findGroups_89 : decode cX11_findGroups 89 = .ok (.ifCond .eq 7, 3) := by decide +kernel
theorem dX11_findGroups_92 : decode cX11_findGroups 92 = .ok (.iconst 1, 1) := by decide +kernel
theorem dX11_findGroups_93 : decode cX11_findGroups 93 = .ok (.goto 4, 3) := by decide +kernel
theorem dX11_findGroups_96 : decode cX11_findGroups 96 = .ok (.iconst 0, 1) := by decide +kernel
theorem dX11_findGroups_97 : decode cX11_findGroups 97 = .ok (.istore_n 1, 1) := by decide +kernel
theorem dX11_findGroups_98 : decode cX11_findGroups 98 = .ok (.aload_n 0, 1) := by decide +kernel
theorem dX11_findGroups_99 : decode cX11_findGroups 99 = .ok (.iload_n 2, 1) := by decide +kernel
theorem dX11_findGroups_100 : decode cX11_findGroups 100 = .ok (.iload_n 2, 1) := by decide +kernel
theorem dX11_findGroups_101 : decode cX11_findGroups 101 = .ok (.bipush 8, 2) := by decide +kernel
theorem dX11_findGroups_103 : decode cX11_findGroups 103 = .ok (.irem, 1) := by decide +kernel
theorem dX11_findGroups_104 : decode cX11_findGroups 104 = .ok (.bipush 7, 2) := by decide +kernel
theorem dX11_findGroups_106 : decode cX11_findGroups 106 = .ok (.if_icmp .ge 9, 3) := by decide +kernel
theorem dX11_findGroups_109 : decode cX11_findGroups 109 = .ok (.iload_n 2, 1) := by decide +kernel
theorem dX11_findGroups_110 : decode cX11_findGroups 110 = .ok (.iconst 1, 1) := by decide +kernel
theorem dX11_findGroups_111 : decode cX11_findGroups 111 = .ok (.iadd, 1) := by decide +kernel
theorem dX11_findGroups_112 : decode cX11_findGroups 112 = .ok (.goto 4, 3) := by decide +kernel
theorem dX11_findGroups_115 : decode cX11_findGroups 115 = .ok (.iconst (-1), 1) := by decide +kernel
theorem dX11_findGroups_116 : decode cX11_findGroups 116 = .ok (.invokevirtual 148, 3) := by decide +kernel
theorem dX11_findGroups_119 : decode cX11_findGroups 119 = .ok (.ifCond .ne 7, 3) := by decide +kernel
theorem dX11_findGroups_122 : decode cX11_findGroups 122 = .ok (.iload_n 1, 1) := by decide +kernel
theorem dX11_findGroups_123 : decode cX11_findGroups 123 = .ok (.ifCond .eq 7, 3) := by decide +kernel
theorem dX11_findGroups_126 : decode cX11_findGroups 126 = .ok (.iconst 1, 1) := by decide +kernel
theorem dX11_findGroups_127 : decode cX11_findGroups 127 = .ok (.goto 4, 3) := by decide +kernel
theorem dX11_findGroups_130 : decode cX11_findGroups 130 = .ok (.iconst 0, 1) := by decide +kernel
theorem dX11_findGroups_131 : decode cX11_findGroups 131 = .ok (.istore_n 1, 1) := by decide +kernel
theorem dX11_findGroups_132 : decode cX11_findGroups 132 = .ok (.aload_n 0, 1) := by decide +kernel
theorem dX11_findGroups_133 : decode cX11_findGroups 133 = .ok (.iload_n 2, 1) := by decide +kernel
theorem dX11_findGroups_134 : decode cX11_findGroups 134 = .ok (.iload_n 2, 1) := by decide +kernel
theorem dX11_findGroups_135 : decode cX11_findGroups 135 = .ok (.bipush 8, 2) := by decide +kernel
theorem dX11_findGroups_137 : decode cX11_findGroups 137 = .ok (.if_icmp .lt 10, 3) := by decide +kernel
theorem dX11_findGroups_140 : decode cX11_findGroups 140 = .ok (.iload_n 2, 1) := by decide +kernel
theorem dX11_findGroups_141 : decode cX11_findGroups 141 = .ok (.bipush 8, 2) := by decide +kernel
theorem dX11_findGroups_143 : decode cX11_findGroups 143 = .ok (.isub, 1) := by decide +kernel
theorem dX11_findGroups_144 : decode cX11_findGroups 144 = .ok (.goto 4, 3) := by decide +kernel
theorem dX11_findGroups_147 : decode cX11_findGroups 147 = .ok (.iconst (-1), 1) := by decide +kernel
theorem dX11_findGroups_148 : decode cX11_findGroups 148 = .ok (.invokevirtual 148, 3) := by decide +kernel
theorem dX11_findGroups_151 : decode cX11_findGroups 151 = .ok (.ifCond .ne 7, 3) := by decide +kernel
theorem dX11_findGroups_154 : decode cX11_findGroups 154 = .ok (.iload_n 1, 1) := by decide +kernel
theorem dX11_findGroups_155 : decode cX11_findGroups 155 = .ok (.ifCond .eq 7, 3) := by decide +kernel
theorem dX11_findGroups_158 : decode cX11_findGroups 158 = .ok (.iconst 1, 1) := by decide +kernel
theorem dX11_findGroups_159 : decode cX11_findGroups 159 = .ok (.goto 4, 3) := by decide +kernel
theorem dX11_findGroups_162 : decode cX11_findGroups 162 = .ok (.iconst 0, 1) := by decide +kernel
theorem dX11_findGroups_163 : decode cX11_findGroups 163 = .ok (.istore_n 1, 1) := by decide +kernel
theorem dX11_findGroups_164 : decode cX11_findGroups 164 = .ok (.aload_n 0, 1) := by decide +kernel
theorem dX11_findGroups_165 : decode cX11_findGroups 165 = .ok (.iload_n 2, 1) := by decide +kernel
theorem dX11_findGroups_166 : decode cX11_findGroups 166 = .ok (.iload_n 2, 1) := by decide +kernel
theorem dX11_findGroups_167 : decode cX11_findGroups 167 = .ok (.bipush 56, 2) := by decide +kernel
theorem dX11_findGroups_169 : decode cX11_findGroups 169 = .ok (.if_icmp .ge 10, 3) := by decide +kernel
theorem dX11_findGroups_172 : decode cX11_findGroups 172 = .ok (.iload_n 2, 1) := by decide +kernel
theorem dX11_findGroups_173 : decode cX11_findGroups 173 = .ok (.bipush 8, 2) := by decide +kernel
theorem dX11_findGroups_175 : decode cX11_findGroups 175 = .ok (.iadd, 1) := by decide +kernel
theorem dX11_findGroups_176 : decode cX11_findGroups 176 = .ok (.goto 4, 3) := by decide +kernel
theorem dX11_findGroups_179 : decode cX11_findGroups 179 = .ok (.iconst (-1), 1) := by decide +kernel
theorem dX11_findGroups_180 : decode cX11_findGroups 180 = .ok (.invokevirtual 148, 3) := by decide +kernel
theorem dX11_findGroups_183 : decode cX11_findGroups 183 = .ok (.ifCond .ne 7, 3) := by decide +kernel
theorem dX11_findGroups_186 : decode cX11_findGroups 186 = .ok (.iload_n 1, 1) := by decide +kernel
theorem dX11_findGroups_187 : decode cX11_findGroups 187 = .ok (.ifCond .eq 7, 3) := by decide +kernel
theorem dX11_findGroups_190 : decode cX11_findGroups 190 = .ok (.iconst 1, 1) := by decide +kernel
theorem dX11_findGroups_191 : decode cX11_findGroups 191 = .ok (.goto 4, 3) := by decide +kernel
theorem dX11_findGroups_194 : decode cX11_findGroups 194 = .ok (.iconst 0, 1) := by decide +kernel
theorem dX11_findGroups_195 : decode cX11_findGroups 195 = .ok (.istore_n 1, 1) := by decide +kernel
theorem dX11_findGroups_196 : decode cX11_findGroups 196 = .ok (.iinc 2 1, 3) := by decide +kernel
theorem dX11_findGroups_199 : decode cX11_findGroups 199 = .ok (.goto (-148), 3) := by decide +kernel
theorem dX11_findGroups_202 : decode cX11_findGroups 202 = .ok (.goto (-159), 3) := by decide +kernel
theorem dX11_findGroups_205 : decode cX11_findGroups 205 = .ok (.return_, 1) := by decide +kernel
theorem dX11_join_0 : decode cX11_join 0 = .ok (.iload_n 2, 1) := by decide +kernel
theorem dX11_join_1 : decode cX11_join 1 = .ok (.ifCond .lt 42, 3) := by decide +kernel
theorem dX11_join_4 : decode cX11_join 4 = .ok (.aload_n 0, 1) := by decide +kernel
theorem dX11_join_5 : decode cX11_join 5 = .ok (.getfield 32, 3) := by decide +kernel
theorem dX11_join_8 : decode cX11_join 8 = .ok (.iload_n 2, 1) := by decide +kernel
theorem dX11_join_9 : decode cX11_join 9 = .ok (.iaload, 1) := by decide +kernel
theorem dX11_join_10 : decode cX11_join 10 = .ok (.ifCond .lt 33, 3) := by decide +kernel
theorem dX11_join_13 : decode cX11_join 13 = .ok (.aload_n 0, 1) := by decide +kernel
theorem dX11_join_14 : decode cX11_join 14 = .ok (.getfield 26, 3) := by decide +kernel
theorem dX11_join_17 : decode cX11_join 17 = .ok (.iload_n 2, 1) := by decide +kernel
theorem dX11_join_18 : decode cX11_join 18 = .ok (.iaload, 1) := by decide +kernel
theorem dX11_join_19 : decode cX11_join 19 = .ok (.aload_n 0, 1) := by decide +kernel
theorem dX11_join_20 : decode cX11_join 20 = .ok (.getfield 26, 3) := by decide +kernel
theorem dX11_join_23 : decode cX11_join 23 = .ok (.iload_n 1, 1) := by decide +kernel
theorem dX11_join_24 : decode cX11_join 24 = .ok (.iaload, 1) := by decide +kernel
theorem dX11_join_25 : decode cX11_join 25 = .ok (.if_icmp .ne 18, 3) := by decide +kernel
theorem dX11_join_28 : decode cX11_join 28 = .ok (.aload_n 0, 1) := by decide +kernel
theorem dX11_join_29 : decode cX11_join 29 = .ok (.getfield 32, 3) := by decide +kernel
theorem dX11_join_32 : decode cX11_join 32 = .ok (.iload_n 2, 1) := by decide +kernel
theorem dX11_join_33 : decode cX11_join 33 = .ok (.iaload, 1) := by decide +kernel
theorem dX11_join_34 : decode cX11_join 34 = .ok (.aload_n 0, 1) := by decide +kernel
theorem dX11_join_35 : decode cX11_join 35 = .ok (.getfield 32, 3) := by decide +kernel
theorem dX11_join_38 : decode cX11_join 38 = .ok (.iload_n 1, 1) := by decide +kernel
theorem dX11_join_39 : decode cX11_join 39 = .ok (.iaload, 1) := by decide +kernel
theorem dX11_join_40 : decode cX11_join 40 = .ok (.if_icmp .lt 5, 3) := by decide +kernel
theorem dX11_join_43 : decode cX11_join 43 = .ok (.iconst 0, 1) := by decide +kernel
theorem dX11_join_44 : decode cX11_join 44 = .ok (.ireturn, 1) := by decide +kernel
theorem dX11_join_45 : decode cX11_join 45 = .ok (.aload_n 0, 1) := by decide +kernel
theorem dX11_join_46 : decode cX11_join 46 = .ok (.getfield 32, 3) := by decide +kernel
theorem dX11_join_49 : decode cX11_join 49 = .ok (.iload_n 1, 1) := by decide +kernel
theorem dX11_join_50 : decode cX11_join 50 = .ok (.aload_n 0, 1) := by decide +kernel
theorem dX11_join_51 : decode cX11_join 51 = .ok (.getfield 32, 3) := by decide +kernel
theorem dX11_join_54 : decode cX11_join 54 = .ok (.iload_n 2, 1) := by decide +kernel
theorem dX11_join_55 : decode cX11_join 55 = .ok (.iaload, 1) := by decide +kernel
theorem dX11_join_56 : decode cX11_join 56 = .ok (.iastore, 1) := by decide +kernel
theorem dX11_join_57 : decode cX11_join 57 = .ok (.iconst 1, 1) := by decide +kernel
theorem dX11_join_58 : decode cX11_join 58 = .ok (.ireturn, 1) := by decide +kernel
theorem dX11_islands_0 : decode cX11_islands 0 = .ok (.iload_n 1, 1) := by decide +kernel
theorem dX11_islands_1 : decode cX11_islands 1 = .ok (.iconst 0, 1) := by decide +kernel
theorem dX11_islands_2 : decode cX11_islands 2 = .ok (.iconst 2, 1) := by decide +kernel
theorem dX11_islands_3 : decode cX11_islands 3 = .ok (.invokestatic 90, 3) := by decide +kernel
theorem dX11_islands_6 : decode cX11_islands 6 = .ok (.ifCond .ne 5, 3) := by decide +kernel
theorem dX11_islands_9 : decode cX11_islands 9 = .ok (.iconst (-1), 1) := by decide +kernel
theorem dX11_islands_10 : decode cX11_islands 10 = .ok (.ireturn, 1) := by decide +kernel
theorem dX11_islands_11 : decode cX11_islands 11 = .ok (.aload_n 0, 1) := by decide +kernel
theorem dX11_islands_12 : decode cX11_islands 12 = .ok (.invokevirtual 152, 3) := by decide +kernel
theorem dX11_islands_15 : decode cX11_islands 15 = .ok (.iconst 0, 1) := by decide +kernel
theorem dX11_islands_16 : decode cX11_islands 16 = .ok (.istore_n 2, 1) := by decide +kernel
theorem dX11_islands_17 : decode cX11_islands 17 = .ok (.iconst 0, 1) := by decide +kernel
theorem dX11_islands_18 : decode cX11_islands 18 = .ok (.istore_n 3, 1) := by decide +kernel
theorem dX11_islands_19 : decode cX11_islands 19 = .ok (.iconst 0, 1) := by decide +kernel
theorem dX11_islands_20 : decode cX11_islands 20 = .ok (.istore 4, 2) := by decide +kernel
theorem dX11_islands_22 : decode cX11_islands 22 = .ok (.iconst 0, 1) := by decide +kernel
theorem dX11_islands_23 : decode cX11_islands 23 = .ok (.istore 5, 2) := by decide +kernel
theorem dX11_islands_25 : decode cX11_islands 25 = .ok (.iload 5, 2) := by decide +kernel
theorem dX11_islands_27 : decode cX11_islands 27 = .ok (.bipush 64, 2) := by decide +kernel
theorem dX11_islands_29 : decode cX11_islands 29 = .ok (.if_icmp .ge 83, 3) := by decide +kernel
theorem dX11_islands_32 : decode cX11_islands 32 = .ok (.iconst 0, 1) := by decide +kernel
theorem dX11_islands_33 : decode cX11_islands 33 = .ok (.istore 6, 2) := by decide +kernel
theorem dX11_islands_35 : decode cX11_islands 35 = .ok (.iconst 0, 1) := by decide +kernel
theorem dX11_islands_36 : decode cX11_islands 36 = .ok (.istore 7, 2) := by decide +kernel
theorem dX11_islands_38 : decode cX11_islands 38 = .ok (.iload 7, 2) := by decide +kernel
theorem dX11_islands_40 : decode cX11_islands 40 = .ok (.bipush 64, 2) := by decide +kernel
theorem dX11_islands_42 : decode cX11_islands 42 = .ok (.if_icmp .ge 31, 3) := by decide +kernel
theorem dX11_islands_45 : decode cX11_islands 45 = .ok (.iload 6, 2) := by decide +kernel
theorem dX11_islands_47 : decode cX11_islands 47 = .ok (.aload_n 0, 1) := by decide +kernel
theorem dX11_islands_48 : decode cX11_islands 48 = .ok (.getfield 32, 3) := by decide +kernel
theorem dX11_islands_51 : decode cX11_islands 51 = .ok (.iload 7, 2) := by decide +kernel
theorem dX11_islands_53 : decode cX11_islands 53 = .ok (.iaload, 1) := by decide +kernel
theorem dX11_islands_54 : decode cX11_islands 54 = .ok (.iload 5, 2) := by decide +kernel
theorem dX11_islands_56 : decode cX11_islands 56 = .ok (.if_icmp .ne 7, 3) := by decide +kernel
theorem dX11_islands_59 : decode cX11_islands 59 = .ok (.iconst 1, 1) := by decide +kernel
theorem dX11_islands_60 : decode cX11_islands 60 = .ok (.goto 4, 3) := by decide +kernel
theorem dX11_islands_63 : decode cX11_islands 63 = .ok (.iconst 0, 1) := by decide +kernel
theorem dX11_islands_64 : decode cX11_islands 64 = .ok (.iadd, 1) := by decide +kernel
theorem dX11_islands_65 : decode cX11_islands 65 = .ok (.istore 6, 2) := by decide +kernel
theorem dX11_islands_67 : decode cX11_islands 67 = .ok (.iinc 7 1, 3) := by decide +kernel
theorem dX11_islands_70 : decode cX11_islands 70 = .ok (.goto (-32), 3) := by decide +kernel
theorem dX11_islands_73 : decode cX11_islands 73 = .ok (.iload_n 2, 1) := by decide +kernel
theorem dX11_islands_74 : decode cX11_islands 74 = .ok (.iload 6, 2) := by decide +kernel
theorem dX11_islands_76 : decode cX11_islands 76 = .ok (.ifCond .le 7, 3) := by decide +kernel
theorem dX11_islands_79 : decode cX11_islands 79 = .ok (.iconst 1, 1) := by decide +kernel
theorem dX11_islands_80 : decode cX11_islands 80 = .ok (.goto 4, 3) := by decide +kernel
theorem dX11_islands_83 : decode cX11_islands 83 = .ok (.iconst 0, 1) := by decide +kernel
theorem dX11_islands_84 : decode cX11_islands 84 = .ok (.iadd, 1) := by decide +kernel
theorem dX11_islands_85 : decode cX11_islands 85 = .ok (.istore_n 2, 1) := by decide +kernel
theorem dX11_islands_86 : decode cX11_islands 86 = .ok (.iload 6, 2) := by decide +kernel
theorem dX11_islands_88 : decode cX11_islands 88 = .ok (.iload_n 3, 1) := by decide +kernel
theorem dX11_islands_89 : decode cX11_islands 89 = .ok (.if_icmp .le 8, 3) := by decide +kernel
theorem dX11_islands_92 : decode cX11_islands 92 = .ok (.iload 6, 2) := by decide +kernel
theorem dX11_islands_94 : decode cX11_islands 94 = .ok (.goto 4, 3) := by decide +kernel
theorem dX11_islands_97 : decode cX11_islands 97 = .ok (.iload_n 3, 1) := by decide +kernel
theorem dX11_islands_98 : decode cX11_islands 98 = .ok (.istore_n 3, 1) := by decide +kernel
theorem dX11_islands_99 : decode cX11_islands 99 = .ok (.iload 4, 2) := by decide +kernel
theorem dX11_islands_101 : decode cX11_islands 101 = .ok (.iload 6, 2) := by decide +kernel
theorem dX11_islands_103 : decode cX11_islands 103 = .ok (.iadd, 1) := by decide +kernel
theorem dX11_islands_104 : decode cX11_islands 104 = .ok (.istore 4, 2) := by decide +kernel
theorem dX11_islands_106 : decode cX11_islands 106 = .ok (.iinc 5 1, 3) := by decide +kernel
theorem dX11_islands_109 : decode cX11_islands 109 = .ok (.goto (-84), 3) := by decide +kernel
theorem dX11_islands_112 : decode cX11_islands 112 = .ok (.iload_n 1, 1) := by decide +kernel
theorem dX11_islands_113 : decode cX11_islands 113 = .ok (.ifCond .ne 7, 3) := by decide +kernel
theorem dX11_islands_116 : decode cX11_islands 116 = .ok (.iload_n 2, 1) := by decide +kernel
theorem dX11_islands_117 : decode cX11_islands 117 = .ok (.goto 14, 3) := by decide +kernel
theorem dX11_islands_120 : decode cX11_islands 120 = .ok (.iload_n 1, 1) := by decide +kernel
theorem dX11_islands_121 : decode cX11_islands 121 = .ok (.iconst 1, 1) := by decide +kernel
theorem dX11_islands_122 : decode cX11_islands 122 = .ok (.if_icmp .ne 7, 3) := by decide +kernel
theorem dX11_islands_125 : decode cX11_islands 125 = .ok (.iload_n 3, 1) := by decide +kernel
theorem dX11_islands_126 : decode cX11_islands 126 = .ok (.goto 5, 3) := by decide +kernel
theorem dX11_islands_129 : decode cX11_islands 129 = .ok (.iload 4, 2) := by decide +kernel
theorem dX11_islands_131 : decode cX11_islands 131 = .ok (.ireturn, 1) := by decide +kernel
theorem dX11_joined_0 : decode cX11_joined 0 = .ok (.aload_n 0, 1) := by decide +kernel
theorem dX11_joined_1 : decode cX11_joined 1 = .ok (.iload_n 1, 1) := by decide +kernel
theorem dX11_joined_2 : decode cX11_joined 2 = .ok (.invokevirtual 142, 3) := by decide +kernel
theorem dX11_joined_5 : decode cX11_joined 5 = .ok (.ifCond .eq 11, 3) := by decide +kernel
theorem dX11_joined_8 : decode cX11_joined 8 = .ok (.aload_n 0, 1) := by decide +kernel
theorem dX11_joined_9 : decode cX11_joined 9 = .ok (.iload_n 2, 1) := by decide +kernel
theorem dX11_joined_10 : decode cX11_joined 10 = .ok (.invokevirtual 142, 3) := by decide +kernel
theorem dX11_joined_13 : decode cX11_joined 13 = .ok (.ifCond .ne 5, 3) := by decide +kernel
theorem dX11_joined_16 : decode cX11_joined 16 = .ok (.iconst (-1), 1) := by decide +kernel
theorem dX11_joined_17 : decode cX11_joined 17 = .ok (.ireturn, 1) := by decide +kernel
theorem dX11_joined_18 : decode cX11_joined 18 = .ok (.aload_n 0, 1) := by decide +kernel
theorem dX11_joined_19 : decode cX11_joined 19 = .ok (.invokevirtual 152, 3) := by decide +kernel
theorem dX11_joined_22 : decode cX11_joined 22 = .ok (.aload_n 0, 1) := by decide +kernel
theorem dX11_joined_23 : decode cX11_joined 23 = .ok (.getfield 32, 3) := by decide +kernel
theorem dX11_joined_26 : decode cX11_joined 26 = .ok (.iload_n 1, 1) := by decide +kernel
theorem dX11_joined_27 : decode cX11_joined 27 = .ok (.iaload, 1) := by decide +kernel
theorem dX11_joined_28 : decode cX11_joined 28 = .ok (.ifCond .lt 22, 3) := by decide +kernel
theorem dX11_joined_31 : decode cX11_joined 31 = .ok (.aload_n 0, 1) := by decide +kernel
theorem dX11_joined_32 : decode cX11_joined 32 = .ok (.getfield 32, 3) := by decide +kernel
theorem dX11_joined_35 : decode cX11_joined 35 = .ok (.iload_n 1, 1) := by decide +kernel
theorem dX11_joined_36 : decode cX11_joined 36 = .ok (.iaload, 1) := by decide +kernel
theorem dX11_joined_37 : decode cX11_joined 37 = .ok (.aload_n 0, 1) := by decide +kernel
theorem dX11_joined_38 : decode cX11_joined 38 = .ok (.getfield 32, 3) := by decide +kernel
theorem dX11_joined_41 : decode cX11_joined 41 = .ok (.iload_n 2, 1) := by decide +kernel
theorem dX11_joined_42 : decode cX11_joined 42 = .ok (.iaload, 1) := by decide +kernel
theorem dX11_joined_43 : decode cX11_joined 43 = .ok (.if_icmp .ne 7, 3) := by decide +kernel
theorem dX11_joined_46 : decode cX11_joined 46 = .ok (.iconst 1, 1) := by decide +kernel
theorem dX11_joined_47 : decode cX11_joined 47 = .ok (.goto 4, 3) := by decide +kernel
theorem dX11_joined_50 : decode cX11_joined 50 = .ok (.iconst 0, 1) := by decide +kernel
theorem dX11_joined_51 : decode cX11_joined 51 = .ok (.ireturn, 1) := by decide +kernel
theorem dX11_sheets_0 : decode cX11_sheets 0 = .ok (.iload_n 1, 1) := by decide +kernel
theorem dX11_sheets_1 : decode cX11_sheets 1 = .ok (.iconst 1, 1) := by decide +kernel
theorem dX11_sheets_2 : decode cX11_sheets 2 = .ok (.bipush 20, 2) := by decide +kernel
theorem dX11_sheets_4 : decode cX11_sheets 4 = .ok (.invokestatic 90, 3) := by decide +kernel
theorem dX11_sheets_7 : decode cX11_sheets 7 = .ok (.ifCond .eq 10, 3) := by decide +kernel
theorem dX11_sheets_10 : decode cX11_sheets 10 = .ok (.aload_n 0, 1) := by decide +kernel
theorem dX11_sheets_11 : decode cX11_sheets 11 = .ok (.getfield 94, 3) := by decide +kernel
theorem dX11_sheets_14 : decode cX11_sheets 14 = .ok (.ifCond .ne 5, 3) := by decide +kernel
theorem dX11_sheets_17 : decode cX11_sheets 17 = .ok (.iconst (-1), 1) := by decide +kernel
theorem dX11_sheets_18 : decode cX11_sheets 18 = .ok (.ireturn, 1) := by decide +kernel
theorem dX11_sheets_19 : decode cX11_sheets 19 = .ok (.aload_n 0, 1) := by decide +kernel
theorem dX11_sheets_20 : decode cX11_sheets 20 = .ok (.getfield 155, 3) := by decide +kernel
theorem dX11_sheets_23 : decode cX11_sheets 23 = .ok (.iload_n 1, 1) := by decide +kernel
theorem dX11_sheets_24 : decode cX11_sheets 24 = .ok (.iadd, 1) := by decide +kernel
theorem dX11_sheets_25 : decode cX11_sheets 25 = .ok (.bipush 20, 2) := by decide +kernel
theorem dX11_sheets_27 : decode cX11_sheets 27 = .ok (.if_icmp .le 6, 3) := by decide +kernel
theorem dX11_sheets_30 : decode cX11_sheets 30 = .ok (.bipush (-2), 2) := by decide +kernel
theorem dX11_sheets_32 : decode cX11_sheets 32 = .ok (.ireturn, 1) := by decide +kernel
theorem dX11_sheets_33 : decode cX11_sheets 33 = .ok (.bipush 64, 2) := by decide +kernel
theorem dX11_sheets_35 : decode cX11_sheets 35 = .ok (.aload_n 0, 1) := by decide +kernel
theorem dX11_sheets_36 : decode cX11_sheets 36 = .ok (.getfield 155, 3) := by decide +kernel
theorem dX11_sheets_39 : decode cX11_sheets 39 = .ok (.imul, 1) := by decide +kernel
theorem dX11_sheets_40 : decode cX11_sheets 40 = .ok (.istore_n 2, 1) := by decide +kernel
theorem dX11_sheets_41 : decode cX11_sheets 41 = .ok (.iload_n 2, 1) := by decide +kernel
theorem dX11_sheets_42 : decode cX11_sheets 42 = .ok (.bipush 64, 2) := by decide +kernel
theorem dX11_sheets_44 : decode cX11_sheets 44 = .ok (.aload_n 0, 1) := by decide +kernel
theorem dX11_sheets_45 : decode cX11_sheets 45 = .ok (.getfield 155, 3) := by decide +kernel
theorem dX11_sheets_48 : decode cX11_sheets 48 = .ok (.iload_n 1, 1) := by decide +kernel
theorem dX11_sheets_49 : decode cX11_sheets 49 = .ok (.iadd, 1) := by decide +kernel
theorem dX11_sheets_50 : decode cX11_sheets 50 = .ok (.imul, 1) := by decide +kernel
theorem dX11_sheets_51 : decode cX11_sheets 51 = .ok (.if_icmp .ge 16, 3) := by decide +kernel
theorem dX11_sheets_54 : decode cX11_sheets 54 = .ok (.aload_n 0, 1) := by decide +kernel
theorem dX11_sheets_55 : decode cX11_sheets 55 = .ok (.getfield 38, 3) := by decide +kernel
theorem dX11_sheets_58 : decode cX11_sheets 58 = .ok (.iload_n 2, 1) := by decide +kernel
theorem dX11_sheets_59 : decode cX11_sheets 59 = .ok (.iconst (-1), 1) := by decide +kernel
theorem dX11_sheets_60 : decode cX11_sheets 60 = .ok (.iastore, 1) := by decide +kernel
theorem dX11_sheets_61 : decode cX11_sheets 61 = .ok (.iinc 2 1, 3) := by decide +kernel
theorem dX11_sheets_64 : decode cX11_sheets 64 = .ok (.goto (-23), 3) := by decide +kernel
theorem dX11_sheets_67 : decode cX11_sheets 67 = .ok (.aload_n 0, 1) := by decide +kernel
theorem dX11_sheets_68 : decode cX11_sheets 68 = .ok (.dup, 1) := by decide +kernel
theorem dX11_sheets_69 : decode cX11_sheets 69 = .ok (.getfield 155, 3) := by decide +kernel
theorem dX11_sheets_72 : decode cX11_sheets 72 = .ok (.iload_n 1, 1) := by decide +kernel
theorem dX11_sheets_73 : decode cX11_sheets 73 = .ok (.iadd, 1) := by decide +kernel
theorem dX11_sheets_74 : decode cX11_sheets 74 = .ok (.putfield 155, 3) := by decide +kernel
theorem dX11_sheets_77 : decode cX11_sheets 77 = .ok (.aload_n 0, 1) := by decide +kernel
theorem dX11_sheets_78 : decode cX11_sheets 78 = .ok (.getfield 155, 3) := by decide +kernel
theorem dX11_sheets_81 : decode cX11_sheets 81 = .ok (.ireturn, 1) := by decide +kernel
theorem dX11_areSheets_0 : decode cX11_areSheets 0 = .ok (.iload_n 1, 1) := by decide +kernel
theorem dX11_areSheets_1 : decode cX11_areSheets 1 = .ok (.ifCond .lt 29, 3) := by decide +kernel
theorem dX11_areSheets_4 : decode cX11_areSheets 4 = .ok (.iload_n 1, 1) := by decide +kernel
theorem dX11_areSheets_5 : decode cX11_areSheets 5 = .ok (.bipush 100, 2) := by decide +kernel
theorem dX11_areSheets_7 : decode cX11_areSheets 7 = .ok (.idiv, 1) := by decide +kernel
theorem dX11_areSheets_8 : decode cX11_areSheets 8 = .ok (.iload_n 1, 1) := by decide +kernel
theorem dX11_areSheets_9 : decode cX11_areSheets 9 = .ok (.bipush 100, 2) := by decide +kernel
theorem dX11_areSheets_11 : decode cX11_areSheets 11 = .ok (.irem, 1) := by decide +kernel
theorem dX11_areSheets_12 : decode cX11_areSheets 12 = .ok (.if_icmp .gt 18, 3) := by decide +kernel
theorem dX11_areSheets_15 : decode cX11_areSheets 15 = .ok (.iload_n 1, 1) := by decide +kernel
theorem dX11_areSheets_16 : decode cX11_areSheets 16 = .ok (.bipush 100, 2) := by decide +kernel
theorem dX11_areSheets_18 : decode cX11_areSheets 18 = .ok (.irem, 1) := by decide +kernel
theorem dX11_areSheets_19 : decode cX11_areSheets 19 = .ok (.aload_n 0, 1) := by decide +kernel
theorem dX11_areSheets_20 : decode cX11_areSheets 20 = .ok (.getfield 155, 3) := by decide +kernel
theorem dX11_areSheets_23 : decode cX11_areSheets 23 = .ok (.if_icmp .ge 7, 3) := by decide +kernel
theorem dX11_areSheets_26 : decode cX11_areSheets 26 = .ok (.iconst 1, 1) := by decide +kernel
theorem dX11_areSheets_27 : decode cX11_areSheets 27 = .ok (.goto 4, 3) := by decide +kernel
theorem dX11_areSheets_30 : decode cX11_areSheets 30 = .ok (.iconst 0, 1) := by decide +kernel
theorem dX11_areSheets_31 : decode cX11_areSheets 31 = .ok (.ireturn, 1) := by decide +kernel
theorem dX11_throwsOff_0 : decode cX11_throwsOff 0 = .ok (.aload_n 0, 1) := by decide +kernel
theorem dX11_throwsOff_1 : decode cX11_throwsOff 1 = .ok (.aload_n 0, 1) := by decide +kernel
theorem dX11_throwsOff_2 : decode cX11_throwsOff 2 = .ok (.getfield 113, 3) := by decide +kernel
theorem dX11_throwsOff_5 : decode cX11_throwsOff 5 = .ok (.ldc 158, 2) := by decide +kernel
theorem dX11_throwsOff_7 : decode cX11_throwsOff 7 = .ok (.imul, 1) := by decide +kernel
theorem dX11_throwsOff_8 : decode cX11_throwsOff 8 = .ok (.sipush 12345, 3) := by decide +kernel
theorem dX11_throwsOff_11 : decode cX11_throwsOff 11 = .ok (.iadd, 1) := by decide +kernel
theorem dX11_throwsOff_12 : decode cX11_throwsOff 12 = .ok (.putfield 113, 3) := by decide +kernel
theorem dX11_throwsOff_15 : decode cX11_throwsOff 15 = .ok (.aload_n 0, 1) := by decide +kernel
theorem dX11_throwsOff_16 : decode cX11_throwsOff 16 = .ok (.getfield 113, 3) := by decide +kernel
theorem dX11_throwsOff_19 : decode cX11_throwsOff 19 = .ok (.bipush 8, 2) := by decide +kernel
theorem dX11_throwsOff_21 : decode cX11_throwsOff 21 = .ok (.iushr, 1) := by decide +kernel
theorem dX11_throwsOff_22 : decode cX11_throwsOff 22 = .ok (.sipush 1000, 3) := by decide +kernel
theorem dX11_throwsOff_25 : decode cX11_throwsOff 25 = .ok (.irem, 1) := by decide +kernel
theorem dX11_throwsOff_26 : decode cX11_throwsOff 26 = .ok (.aload_n 0, 1) := by decide +kernel
theorem dX11_throwsOff_27 : decode cX11_throwsOff 27 = .ok (.getfield 110, 3) := by decide +kernel
theorem dX11_throwsOff_30 : decode cX11_throwsOff 30 = .ok (.if_icmp .ge 7, 3) := by decide +kernel
theorem dX11_throwsOff_33 : decode cX11_throwsOff 33 = .ok (.iconst 1, 1) := by decide +kernel
theorem dX11_throwsOff_34 : decode cX11_throwsOff 34 = .ok (.goto 4, 3) := by decide +kernel
theorem dX11_throwsOff_37 : decode cX11_throwsOff 37 = .ok (.iconst 0, 1) := by decide +kernel
theorem dX11_throwsOff_38 : decode cX11_throwsOff 38 = .ok (.ireturn, 1) := by decide +kernel
theorem dX11_lay_0 : decode cX11_lay 0 = .ok (.iconst 0, 1) := by decide +kernel
theorem dX11_lay_1 : decode cX11_lay 1 = .ok (.istore_n 2, 1) := by decide +kernel
theorem dX11_lay_2 : decode cX11_lay 2 = .ok (.iconst 0, 1) := by decide +kernel
theorem dX11_lay_3 : decode cX11_lay 3 = .ok (.istore_n 3, 1) := by decide +kernel
theorem dX11_lay_4 : decode cX11_lay 4 = .ok (.iload_n 3, 1) := by decide +kernel
theorem dX11_lay_5 : decode cX11_lay 5 = .ok (.aload_n 0, 1) := by decide +kernel
theorem dX11_lay_6 : decode cX11_lay 6 = .ok (.getfield 94, 3) := by decide +kernel
theorem dX11_lay_9 : decode cX11_lay 9 = .ok (.if_icmp .ge 183, 3) := by decide +kernel
theorem dX11_lay_12 : decode cX11_lay 12 = .ok (.iconst 0, 1) := by decide +kernel
theorem dX11_lay_13 : decode cX11_lay 13 = .ok (.istore 4, 2) := by decide +kernel
theorem dX11_lay_15 : decode cX11_lay 15 = .ok (.iload 4, 2) := by decide +kernel
theorem dX11_lay_17 : decode cX11_lay 17 = .ok (.aload_n 0, 1) := by decide +kernel
theorem dX11_lay_18 : decode cX11_lay 18 = .ok (.getfield 97, 3) := by decide +kernel
theorem dX11_lay_21 : decode cX11_lay 21 = .ok (.if_icmp .ge 165, 3) := by decide +kernel
theorem dX11_lay_24 : decode cX11_lay 24 = .ok (.bipush 8, 2) := by decide +kernel
theorem dX11_lay_26 : decode cX11_lay 26 = .ok (.iload_n 3, 1) := by decide +kernel
theorem dX11_lay_27 : decode cX11_lay 27 = .ok (.imul, 1) := by decide +kernel
theorem dX11_lay_28 : decode cX11_lay 28 = .ok (.iload 4, 2) := by decide +kernel
theorem dX11_lay_30 : decode cX11_lay 30 = .ok (.iadd, 1) := by decide +kernel
theorem dX11_lay_31 : decode cX11_lay 31 = .ok (.istore 5, 2) := by decide +kernel
theorem dX11_lay_33 : decode cX11_lay 33 = .ok (.bipush 64, 2) := by decide +kernel
theorem dX11_lay_35 : decode cX11_lay 35 = .ok (.iload_n 1, 1) := by decide +kernel
theorem dX11_lay_36 : decode cX11_lay 36 = .ok (.imul, 1) := by decide +kernel
theorem dX11_lay_37 : decode cX11_lay 37 = .ok (.iload 5, 2) := by decide +kernel
theorem dX11_lay_39 : decode cX11_lay 39 = .ok (.iadd, 1) := by decide +kernel
theorem dX11_lay_40 : decode cX11_lay 40 = .ok (.istore 6, 2) := by decide +kernel
theorem dX11_lay_42 : decode cX11_lay 42 = .ok (.aload_n 0, 1) := by decide +kernel
theorem dX11_lay_43 : decode cX11_lay 43 = .ok (.getfield 68, 3) := by decide +kernel
theorem dX11_lay_46 : decode cX11_lay 46 = .ok (.iload 4, 2) := by decide +kernel
theorem dX11_lay_48 : decode cX11_lay 48 = .ok (.iaload, 1) := by decide +kernel
theorem dX11_lay_49 : decode cX11_lay 49 = .ok (.istore 7, 2) := by decide +kernel
theorem dX11_lay_51 : decode cX11_lay 51 = .ok (.aload_n 0, 1) := by decide +kernel
theorem dX11_lay_52 : decode cX11_lay 52 = .ok (.iload 5, 2) := by decide +kernel
theorem dX11_lay_54 : decode cX11_lay 54 = .ok (.invokevirtual 145, 3) := by decide +kernel
theorem dX11_lay_57 : decode cX11_lay 57 = .ok (.ifCond .eq 123, 3) := by decide +kernel
theorem dX11_lay_60 : decode cX11_lay 60 = .ok (.iload_n 2, 1) := by decide +kernel
theorem dX11_lay_61 : decode cX11_lay 61 = .ok (.ifCond .ne 38, 3) := by decide +kernel
theorem dX11_lay_64 : decode cX11_lay 64 = .ok (.aload_n 0, 1) := by decide +kernel
theorem dX11_lay_65 : decode cX11_lay 65 = .ok (.getfield 47, 3) := by decide +kernel
theorem dX11_lay_68 : decode cX11_lay 68 = .ok (.iload 6, 2) := by decide +kernel
theorem dX11_lay_70 : decode cX11_lay 70 = .ok (.iaload, 1) := by decide +kernel
theorem dX11_lay_71 : decode cX11_lay 71 = .ok (.aload_n 0, 1) := by decide +kernel
theorem dX11_lay_72 : decode cX11_lay 72 = .ok (.getfield 116, 3) := by decide +kernel
theorem dX11_lay_75 : decode cX11_lay 75 = .ok (.if_icmp .le 28, 3) := by decide +kernel
theorem dX11_lay_78 : decode cX11_lay 78 = .ok (.aload_n 0, 1) := by decide +kernel
theorem dX11_lay_79 : decode cX11_lay 79 = .ok (.getfield 16, 3) := by decide +kernel
theorem dX11_lay_82 : decode cX11_lay 82 = .ok (.bipush 10, 2) := by decide +kernel
theorem dX11_lay_84 : decode cX11_lay 84 = .ok (.aload_n 0, 1) := by decide +kernel
theorem dX11_lay_85 : decode cX11_lay 85 = .ok (.getfield 44, 3) := by decide +kernel
theorem dX11_lay_88 : decode cX11_lay 88 = .ok (.iload 6, 2) := by decide +kernel
theorem dX11_lay_90 : decode cX11_lay 90 = .ok (.iaload, 1) := by decide +kernel
theorem dX11_lay_91 : decode cX11_lay 91 = .ok (.imul, 1) := by decide +kernel
theorem dX11_lay_92 : decode cX11_lay 92 = .ok (.iload 7, 2) := by decide +kernel
theorem dX11_lay_94 : decode cX11_lay 94 = .ok (.iadd, 1) := by decide +kernel
theorem dX11_lay_95 : decode cX11_lay 95 = .ok (.baload, 1) := by decide +kernel
theorem dX11_lay_96 : decode cX11_lay 96 = .ok (.ifCond .eq 7, 3) := by decide +kernel
theorem dX11_lay_99 : decode cX11_lay 99 = .ok (.iconst 1, 1) := by decide +kernel
theorem dX11_lay_100 : decode cX11_lay 100 = .ok (.goto 4, 3) := by decide +kernel
theorem dX11_lay_103 : decode cX11_lay 103 = .ok (.iconst 0, 1) := by decide +kernel
theorem dX11_lay_104 : decode cX11_lay 104 = .ok (.istore_n 2, 1) := by decide +kernel
theorem dX11_lay_105 : decode cX11_lay 105 = .ok (.aload_n 0, 1) := by decide +kernel
theorem dX11_lay_106 : decode cX11_lay 106 = .ok (.getfield 35, 3) := by decide +kernel
theorem dX11_lay_109 : decode cX11_lay 109 = .ok (.iload 6, 2) := by decide +kernel
theorem dX11_lay_111 : decode cX11_lay 111 = .ok (.aload_n 0, 1) := by decide +kernel
theorem dX11_lay_112 : decode cX11_lay 112 = .ok (.getfield 9, 3) := by decide +kernel
theorem dX11_lay_115 : decode cX11_lay 115 = .ok (.bipush 16, 2) := by decide +kernel
theorem dX11_lay_117 : decode cX11_lay 117 = .ok (.iload 7, 2) := by decide +kernel
theorem dX11_lay_119 : decode cX11_lay 119 = .ok (.imul, 1) := by decide +kernel
theorem dX11_lay_120 : decode cX11_lay 120 = .ok (.aload_n 0, 1) := by decide +kernel
theorem dX11_lay_121 : decode cX11_lay 121 = .ok (.getfield 35, 3) := by decide +kernel
theorem dX11_lay_124 : decode cX11_lay 124 = .ok (.iload 6, 2) := by decide +kernel
theorem dX11_lay_126 : decode cX11_lay 126 = .ok (.iaload, 1) := by decide +kernel
theorem dX11_lay_127 : decode cX11_lay 127 = .ok (.iadd, 1) := by decide +kernel
theorem dX11_lay_128 : decode cX11_lay 128 = .ok (.iaload, 1) := by decide +kernel
theorem dX11_lay_129 : decode cX11_lay 129 = .ok (.iastore, 1) := by decide +kernel
theorem dX11_lay_130 : decode cX11_lay 130 = .ok (.aload_n 0, 1) := by decide +kernel
theorem dX11_lay_131 : decode cX11_lay 131 = .ok (.getfield 38, 3) := by decide +kernel
theorem dX11_lay_134 : decode cX11_lay 134 = .ok (.iload 6, 2) := by decide +kernel
theorem dX11_lay_136 : decode cX11_lay 136 = .ok (.aload_n 0, 1) := by decide +kernel
theorem dX11_lay_137 : decode cX11_lay 137 = .ok (.getfield 159, 3) := by decide +kernel
theorem dX11_lay_140 : decode cX11_lay 140 = .ok (.iastore, 1) := by decide +kernel
theorem dX11_lay_141 : decode cX11_lay 141 = .ok (.aload_n 0, 1) := by decide +kernel
theorem dX11_lay_142 : decode cX11_lay 142 = .ok (.getfield 41, 3) := by decide +kernel
theorem dX11_lay_145 : decode cX11_lay 145 = .ok (.iload 6, 2) := by decide +kernel
theorem dX11_lay_147 : decode cX11_lay 147 = .ok (.dup2, 1) := by decide +kernel
theorem dX11_lay_148 : decode cX11_lay 148 = .ok (.iaload, 1) := by decide +kernel
theorem dX11_lay_149 : decode cX11_lay 149 = .ok (.iconst 1, 1) := by decide +kernel
theorem dX11_lay_150 : decode cX11_lay 150 = .ok (.iadd, 1) := by decide +kernel
theorem dX11_lay_151 : decode cX11_lay 151 = .ok (.iastore, 1) := by decide +kernel
theorem dX11_lay_152 : decode cX11_lay 152 = .ok (.aload_n 0, 1) := by decide +kernel
theorem dX11_lay_153 : decode cX11_lay 153 = .ok (.getfield 44, 3) := by decide +kernel
theorem dX11_lay_156 : decode cX11_lay 156 = .ok (.iload 6, 2) := by decide +kernel
theorem dX11_lay_158 : decode cX11_lay 158 = .ok (.iload 7, 2) := by decide +kernel
theorem dX11_lay_160 : decode cX11_lay 160 = .ok (.iastore, 1) := by decide +kernel
theorem dX11_lay_161 : decode cX11_lay 161 = .ok (.aload_n 0, 1) := by decide +kernel
theorem dX11_lay_162 : decode cX11_lay 162 = .ok (.getfield 47, 3) := by decide +kernel
theorem dX11_lay_165 : decode cX11_lay 165 = .ok (.iload 6, 2) := by decide +kernel
theorem dX11_lay_167 : decode cX11_lay 167 = .ok (.aload_n 0, 1) := by decide +kernel
theorem dX11_lay_168 : decode cX11_lay 168 = .ok (.getfield 116, 3) := by decide +kernel
