theorem dX11_lay_171 : decode cX11_lay 171 = .ok (.aload_n 0, 1) := by decide +kernel
theorem dX11_lay_172 : decode cX11_lay 172 = .ok (.getfield 13, 3) := by decide +kernel
theorem dX11_lay_175 : decode cX11_lay 175 = .ok (.iload 7, 2) := by decide +kernel
theorem dX11_lay_177 : decode cX11_lay 177 = .ok (.iaload, 1) := by decide +kernel
theorem dX11_lay_178 : decode cX11_lay 178 = .ok (.iadd, 1) := by decide +kernel
theorem dX11_lay_179 : decode cX11_lay 179 = .ok (.iastore, 1) := by decide +kernel
theorem dX11_lay_180 : decode cX11_lay 180 = .ok (.iinc 4 1, 3) := by decide +kernel
theorem dX11_lay_183 : decode cX11_lay 183 = .ok (.goto (-168), 3) := by decide +kernel
theorem dX11_lay_186 : decode cX11_lay 186 = .ok (.iinc 3 1, 3) := by decide +kernel
theorem dX11_lay_189 : decode cX11_lay 189 = .ok (.goto (-185), 3) := by decide +kernel
theorem dX11_lay_192 : decode cX11_lay 192 = .ok (.iload_n 2, 1) := by decide +kernel
theorem dX11_lay_193 : decode cX11_lay 193 = .ok (.ireturn, 1) := by decide +kernel
theorem dX11_pulled_0 : decode cX11_pulled 0 = .ok (.iconst 0, 1) := by decide +kernel
theorem dX11_pulled_1 : decode cX11_pulled 1 = .ok (.istore_n 3, 1) := by decide +kernel
theorem dX11_pulled_2 : decode cX11_pulled 2 = .ok (.iconst 0, 1) := by decide +kernel
theorem dX11_pulled_3 : decode cX11_pulled 3 = .ok (.istore 4, 2) := by decide +kernel
theorem dX11_pulled_5 : decode cX11_pulled 5 = .ok (.iconst 0, 1) := by decide +kernel
theorem dX11_pulled_6 : decode cX11_pulled 6 = .ok (.istore 5, 2) := by decide +kernel
theorem dX11_pulled_8 : decode cX11_pulled 8 = .ok (.iload 5, 2) := by decide +kernel
theorem dX11_pulled_10 : decode cX11_pulled 10 = .ok (.bipush 64, 2) := by decide +kernel
theorem dX11_pulled_12 : decode cX11_pulled 12 = .ok (.if_icmp .ge 39, 3) := by decide +kernel
theorem dX11_pulled_15 : decode cX11_pulled 15 = .ok (.iload_n 1, 1) := by decide +kernel
theorem dX11_pulled_16 : decode cX11_pulled 16 = .ok (.ifCond .lt 35, 3) := by decide +kernel
theorem dX11_pulled_19 : decode cX11_pulled 19 = .ok (.iload_n 3, 1) := by decide +kernel
theorem dX11_pulled_20 : decode cX11_pulled 20 = .ok (.aload_n 0, 1) := by decide +kernel
theorem dX11_pulled_21 : decode cX11_pulled 21 = .ok (.iload 5, 2) := by decide +kernel
theorem dX11_pulled_23 : decode cX11_pulled 23 = .ok (.invokevirtual 142, 3) := by decide +kernel
theorem dX11_pulled_26 : decode cX11_pulled 26 = .ok (.ifCond .eq 16, 3) := by decide +kernel
theorem dX11_pulled_29 : decode cX11_pulled 29 = .ok (.aload_n 0, 1) := by decide +kernel
theorem dX11_pulled_30 : decode cX11_pulled 30 = .ok (.iload 5, 2) := by decide +kernel
theorem dX11_pulled_32 : decode cX11_pulled 32 = .ok (.invokevirtual 145, 3) := by decide +kernel
theorem dX11_pulled_35 : decode cX11_pulled 35 = .ok (.ifCond .eq 7, 3) := by decide +kernel
theorem dX11_pulled_38 : decode cX11_pulled 38 = .ok (.iconst 1, 1) := by decide +kernel
theorem dX11_pulled_39 : decode cX11_pulled 39 = .ok (.goto 4, 3) := by decide +kernel
theorem dX11_pulled_42 : decode cX11_pulled 42 = .ok (.iconst 0, 1) := by decide +kernel
theorem dX11_pulled_43 : decode cX11_pulled 43 = .ok (.iadd, 1) := by decide +kernel
theorem dX11_pulled_44 : decode cX11_pulled 44 = .ok (.istore_n 3, 1) := by decide +kernel
theorem dX11_pulled_45 : decode cX11_pulled 45 = .ok (.iinc 5 1, 3) := by decide +kernel
theorem dX11_pulled_48 : decode cX11_pulled 48 = .ok (.goto (-40), 3) := by decide +kernel
theorem dX11_pulled_51 : decode cX11_pulled 51 = .ok (.iload_n 1, 1) := by decide +kernel
theorem dX11_pulled_52 : decode cX11_pulled 52 = .ok (.ifCond .ge 7, 3) := by decide +kernel
theorem dX11_pulled_55 : decode cX11_pulled 55 = .ok (.iconst 1, 1) := by decide +kernel
theorem dX11_pulled_56 : decode cX11_pulled 56 = .ok (.goto 7, 3) := by decide +kernel
theorem dX11_pulled_59 : decode cX11_pulled 59 = .ok (.iload_n 1, 1) := by decide +kernel
theorem dX11_pulled_60 : decode cX11_pulled 60 = .ok (.bipush 100, 2) := by decide +kernel
theorem dX11_pulled_62 : decode cX11_pulled 62 = .ok (.idiv, 1) := by decide +kernel
theorem dX11_pulled_63 : decode cX11_pulled 63 = .ok (.istore 5, 2) := by decide +kernel
theorem dX11_pulled_65 : decode cX11_pulled 65 = .ok (.iload_n 1, 1) := by decide +kernel
theorem dX11_pulled_66 : decode cX11_pulled 66 = .ok (.ifCond .lt 80, 3) := by decide +kernel
theorem dX11_pulled_69 : decode cX11_pulled 69 = .ok (.iload 5, 2) := by decide +kernel
theorem dX11_pulled_71 : decode cX11_pulled 71 = .ok (.iload_n 1, 1) := by decide +kernel
theorem dX11_pulled_72 : decode cX11_pulled 72 = .ok (.bipush 100, 2) := by decide +kernel
theorem dX11_pulled_74 : decode cX11_pulled 74 = .ok (.irem, 1) := by decide +kernel
theorem dX11_pulled_75 : decode cX11_pulled 75 = .ok (.if_icmp .gt 71, 3) := by decide +kernel
theorem dX11_pulled_78 : decode cX11_pulled 78 = .ok (.aload_n 0, 1) := by decide +kernel
theorem dX11_pulled_79 : decode cX11_pulled 79 = .ok (.getfield 50, 3) := by decide +kernel
theorem dX11_pulled_82 : decode cX11_pulled 82 = .ok (.iload 5, 2) := by decide +kernel
theorem dX11_pulled_84 : decode cX11_pulled 84 = .ok (.baload, 1) := by decide +kernel
theorem dX11_pulled_85 : decode cX11_pulled 85 = .ok (.ifCond .ne 55, 3) := by decide +kernel
theorem dX11_pulled_88 : decode cX11_pulled 88 = .ok (.aload_n 0, 1) := by decide +kernel
theorem dX11_pulled_89 : decode cX11_pulled 89 = .ok (.invokevirtual 162, 3) := by decide +kernel
theorem dX11_pulled_92 : decode cX11_pulled 92 = .ok (.istore 6, 2) := by decide +kernel
theorem dX11_pulled_94 : decode cX11_pulled 94 = .ok (.aload_n 0, 1) := by decide +kernel
theorem dX11_pulled_95 : decode cX11_pulled 95 = .ok (.getfield 50, 3) := by decide +kernel
theorem dX11_pulled_98 : decode cX11_pulled 98 = .ok (.iload 5, 2) := by decide +kernel
theorem dX11_pulled_100 : decode cX11_pulled 100 = .ok (.iload 6, 2) := by decide +kernel
theorem dX11_pulled_102 : decode cX11_pulled 102 = .ok (.ifCond .ne 12, 3) := by decide +kernel
theorem dX11_pulled_105 : decode cX11_pulled 105 = .ok (.aload_n 0, 1) := by decide +kernel
theorem dX11_pulled_106 : decode cX11_pulled 106 = .ok (.iload 5, 2) := by decide +kernel
theorem dX11_pulled_108 : decode cX11_pulled 108 = .ok (.invokevirtual 166, 3) := by decide +kernel
theorem dX11_pulled_111 : decode cX11_pulled 111 = .ok (.ifCond .eq 7, 3) := by decide +kernel
theorem dX11_pulled_114 : decode cX11_pulled 114 = .ok (.iconst 1, 1) := by decide +kernel
theorem dX11_pulled_115 : decode cX11_pulled 115 = .ok (.goto 4, 3) := by decide +kernel
theorem dX11_pulled_118 : decode cX11_pulled 118 = .ok (.iconst 0, 1) := by decide +kernel
theorem dX11_pulled_119 : decode cX11_pulled 119 = .ok (.bastore, 1) := by decide +kernel
theorem dX11_pulled_120 : decode cX11_pulled 120 = .ok (.iload 4, 2) := by decide +kernel
theorem dX11_pulled_122 : decode cX11_pulled 122 = .ok (.aload_n 0, 1) := by decide +kernel
theorem dX11_pulled_123 : decode cX11_pulled 123 = .ok (.getfield 50, 3) := by decide +kernel
theorem dX11_pulled_126 : decode cX11_pulled 126 = .ok (.iload 5, 2) := by decide +kernel
theorem dX11_pulled_128 : decode cX11_pulled 128 = .ok (.baload, 1) := by decide +kernel
theorem dX11_pulled_129 : decode cX11_pulled 129 = .ok (.ifCond .eq 7, 3) := by decide +kernel
theorem dX11_pulled_132 : decode cX11_pulled 132 = .ok (.iconst 1, 1) := by decide +kernel
theorem dX11_pulled_133 : decode cX11_pulled 133 = .ok (.goto 4, 3) := by decide +kernel
theorem dX11_pulled_136 : decode cX11_pulled 136 = .ok (.iconst 0, 1) := by decide +kernel
theorem dX11_pulled_137 : decode cX11_pulled 137 = .ok (.iadd, 1) := by decide +kernel
theorem dX11_pulled_138 : decode cX11_pulled 138 = .ok (.istore 4, 2) := by decide +kernel
theorem dX11_pulled_140 : decode cX11_pulled 140 = .ok (.iinc 5 1, 3) := by decide +kernel
theorem dX11_pulled_143 : decode cX11_pulled 143 = .ok (.goto (-78), 3) := by decide +kernel
theorem dX11_pulled_146 : decode cX11_pulled 146 = .ok (.aload_n 0, 1) := by decide +kernel
theorem dX11_pulled_147 : decode cX11_pulled 147 = .ok (.getfield 53, 3) := by decide +kernel
theorem dX11_pulled_150 : decode cX11_pulled 150 = .ok (.aload_n 0, 1) := by decide +kernel
theorem dX11_pulled_151 : decode cX11_pulled 151 = .ok (.getfield 159, 3) := by decide +kernel
theorem dX11_pulled_154 : decode cX11_pulled 154 = .ok (.iload_n 2, 1) := by decide +kernel
theorem dX11_pulled_155 : decode cX11_pulled 155 = .ok (.iastore, 1) := by decide +kernel
theorem dX11_pulled_156 : decode cX11_pulled 156 = .ok (.aload_n 0, 1) := by decide +kernel
theorem dX11_pulled_157 : decode cX11_pulled 157 = .ok (.getfield 56, 3) := by decide +kernel
theorem dX11_pulled_160 : decode cX11_pulled 160 = .ok (.aload_n 0, 1) := by decide +kernel
theorem dX11_pulled_161 : decode cX11_pulled 161 = .ok (.getfield 159, 3) := by decide +kernel
theorem dX11_pulled_164 : decode cX11_pulled 164 = .ok (.aload_n 0, 1) := by decide +kernel
theorem dX11_pulled_165 : decode cX11_pulled 165 = .ok (.getfield 116, 3) := by decide +kernel
theorem dX11_pulled_168 : decode cX11_pulled 168 = .ok (.iastore, 1) := by decide +kernel
theorem dX11_pulled_169 : decode cX11_pulled 169 = .ok (.aload_n 0, 1) := by decide +kernel
theorem dX11_pulled_170 : decode cX11_pulled 170 = .ok (.getfield 59, 3) := by decide +kernel
theorem dX11_pulled_173 : decode cX11_pulled 173 = .ok (.aload_n 0, 1) := by decide +kernel
theorem dX11_pulled_174 : decode cX11_pulled 174 = .ok (.getfield 159, 3) := by decide +kernel
theorem dX11_pulled_177 : decode cX11_pulled 177 = .ok (.iload_n 1, 1) := by decide +kernel
theorem dX11_pulled_178 : decode cX11_pulled 178 = .ok (.iastore, 1) := by decide +kernel
theorem dX11_pulled_179 : decode cX11_pulled 179 = .ok (.aload_n 0, 1) := by decide +kernel
theorem dX11_pulled_180 : decode cX11_pulled 180 = .ok (.getfield 62, 3) := by decide +kernel
theorem dX11_pulled_183 : decode cX11_pulled 183 = .ok (.aload_n 0, 1) := by decide +kernel
theorem dX11_pulled_184 : decode cX11_pulled 184 = .ok (.getfield 159, 3) := by decide +kernel
theorem dX11_pulled_187 : decode cX11_pulled 187 = .ok (.iload_n 3, 1) := by decide +kernel
theorem dX11_pulled_188 : decode cX11_pulled 188 = .ok (.iastore, 1) := by decide +kernel
theorem dX11_pulled_189 : decode cX11_pulled 189 = .ok (.aload_n 0, 1) := by decide +kernel
theorem dX11_pulled_190 : decode cX11_pulled 190 = .ok (.getfield 65, 3) := by decide +kernel
theorem dX11_pulled_193 : decode cX11_pulled 193 = .ok (.aload_n 0, 1) := by decide +kernel
theorem dX11_pulled_194 : decode cX11_pulled 194 = .ok (.getfield 159, 3) := by decide +kernel
theorem dX11_pulled_197 : decode cX11_pulled 197 = .ok (.iload 4, 2) := by decide +kernel
theorem dX11_pulled_199 : decode cX11_pulled 199 = .ok (.iastore, 1) := by decide +kernel
theorem dX11_pulled_200 : decode cX11_pulled 200 = .ok (.aload_n 0, 1) := by decide +kernel
theorem dX11_pulled_201 : decode cX11_pulled 201 = .ok (.dup, 1) := by decide +kernel
theorem dX11_pulled_202 : decode cX11_pulled 202 = .ok (.getfield 159, 3) := by decide +kernel
theorem dX11_pulled_205 : decode cX11_pulled 205 = .ok (.iconst 1, 1) := by decide +kernel
theorem dX11_pulled_206 : decode cX11_pulled 206 = .ok (.iadd, 1) := by decide +kernel
theorem dX11_pulled_207 : decode cX11_pulled 207 = .ok (.putfield 159, 3) := by decide +kernel
theorem dX11_pulled_210 : decode cX11_pulled 210 = .ok (.aload_n 0, 1) := by decide +kernel
theorem dX11_pulled_211 : decode cX11_pulled 211 = .ok (.getfield 159, 3) := by decide +kernel
theorem dX11_pulled_214 : decode cX11_pulled 214 = .ok (.iconst 1, 1) := by decide +kernel
theorem dX11_pulled_215 : decode cX11_pulled 215 = .ok (.isub, 1) := by decide +kernel
theorem dX11_pulled_216 : decode cX11_pulled 216 = .ok (.ireturn, 1) := by decide +kernel
theorem dX11_pull_0 : decode cX11_pull 0 = .ok (.aload_n 0, 1) := by decide +kernel
theorem dX11_pull_1 : decode cX11_pull 1 = .ok (.getfield 94, 3) := by decide +kernel
theorem dX11_pull_4 : decode cX11_pull 4 = .ok (.ifCond .eq 23, 3) := by decide +kernel
theorem dX11_pull_7 : decode cX11_pull 7 = .ok (.iload_n 1, 1) := by decide +kernel
theorem dX11_pull_8 : decode cX11_pull 8 = .ok (.iconst (-1), 1) := by decide +kernel
theorem dX11_pull_9 : decode cX11_pull 9 = .ok (.if_icmp .eq 11, 3) := by decide +kernel
theorem dX11_pull_12 : decode cX11_pull 12 = .ok (.aload_n 0, 1) := by decide +kernel
theorem dX11_pull_13 : decode cX11_pull 13 = .ok (.iload_n 1, 1) := by decide +kernel
theorem dX11_pull_14 : decode cX11_pull 14 = .ok (.invokevirtual 169, 3) := by decide +kernel
theorem dX11_pull_17 : decode cX11_pull 17 = .ok (.ifCond .eq 10, 3) := by decide +kernel
theorem dX11_pull_20 : decode cX11_pull 20 = .ok (.iload_n 2, 1) := by decide +kernel
theorem dX11_pull_21 : decode cX11_pull 21 = .ok (.invokestatic 103, 3) := by decide +kernel
theorem dX11_pull_24 : decode cX11_pull 24 = .ok (.ifCond .ne 5, 3) := by decide +kernel
theorem dX11_pull_27 : decode cX11_pull 27 = .ok (.iconst (-1), 1) := by decide +kernel
theorem dX11_pull_28 : decode cX11_pull 28 = .ok (.ireturn, 1) := by decide +kernel
theorem dX11_pull_29 : decode cX11_pull 29 = .ok (.aload_n 0, 1) := by decide +kernel
theorem dX11_pull_30 : decode cX11_pull 30 = .ok (.getfield 159, 3) := by decide +kernel
theorem dX11_pull_33 : decode cX11_pull 33 = .ok (.sipush 200, 3) := by decide +kernel
theorem dX11_pull_36 : decode cX11_pull 36 = .ok (.if_icmp .ne 6, 3) := by decide +kernel
theorem dX11_pull_39 : decode cX11_pull 39 = .ok (.bipush (-2), 2) := by decide +kernel
theorem dX11_pull_41 : decode cX11_pull 41 = .ok (.ireturn, 1) := by decide +kernel
theorem dX11_pull_42 : decode cX11_pull 42 = .ok (.iconst 0, 1) := by decide +kernel
theorem dX11_pull_43 : decode cX11_pull 43 = .ok (.istore_n 3, 1) := by decide +kernel
theorem dX11_pull_44 : decode cX11_pull 44 = .ok (.iload_n 3, 1) := by decide +kernel
theorem dX11_pull_45 : decode cX11_pull 45 = .ok (.bipush 8, 2) := by decide +kernel
theorem dX11_pull_47 : decode cX11_pull 47 = .ok (.if_icmp .ge 16, 3) := by decide +kernel
theorem dX11_pull_50 : decode cX11_pull 50 = .ok (.aload_n 0, 1) := by decide +kernel
theorem dX11_pull_51 : decode cX11_pull 51 = .ok (.getfield 68, 3) := by decide +kernel
theorem dX11_pull_54 : decode cX11_pull 54 = .ok (.iload_n 3, 1) := by decide +kernel
theorem dX11_pull_55 : decode cX11_pull 55 = .ok (.iload_n 2, 1) := by decide +kernel
theorem dX11_pull_56 : decode cX11_pull 56 = .ok (.iastore, 1) := by decide +kernel
theorem dX11_pull_57 : decode cX11_pull 57 = .ok (.iinc 3 1, 3) := by decide +kernel
theorem dX11_pull_60 : decode cX11_pull 60 = .ok (.goto (-16), 3) := by decide +kernel
theorem dX11_pull_63 : decode cX11_pull 63 = .ok (.aload_n 0, 1) := by decide +kernel
theorem dX11_pull_64 : decode cX11_pull 64 = .ok (.iload_n 1, 1) := by decide +kernel
theorem dX11_pull_65 : decode cX11_pull 65 = .ok (.iload_n 2, 1) := by decide +kernel
theorem dX11_pull_66 : decode cX11_pull 66 = .ok (.invokevirtual 172, 3) := by decide +kernel
theorem dX11_pull_69 : decode cX11_pull 69 = .ok (.ireturn, 1) := by decide +kernel
theorem dX11_blend_0 : decode cX11_blend 0 = .ok (.aload_n 0, 1) := by decide +kernel
theorem dX11_blend_1 : decode cX11_blend 1 = .ok (.getfield 94, 3) := by decide +kernel
theorem dX11_blend_4 : decode cX11_blend 4 = .ok (.ifCond .eq 55, 3) := by decide +kernel
theorem dX11_blend_7 : decode cX11_blend 7 = .ok (.iload_n 1, 1) := by decide +kernel
theorem dX11_blend_8 : decode cX11_blend 8 = .ok (.iconst (-1), 1) := by decide +kernel
theorem dX11_blend_9 : decode cX11_blend 9 = .ok (.if_icmp .eq 11, 3) := by decide +kernel
theorem dX11_blend_12 : decode cX11_blend 12 = .ok (.aload_n 0, 1) := by decide +kernel
theorem dX11_blend_13 : decode cX11_blend 13 = .ok (.iload_n 1, 1) := by decide +kernel
theorem dX11_blend_14 : decode cX11_blend 14 = .ok (.invokevirtual 169, 3) := by decide +kernel
theorem dX11_blend_17 : decode cX11_blend 17 = .ok (.ifCond .eq 42, 3) := by decide +kernel
theorem dX11_blend_20 : decode cX11_blend 20 = .ok (.iload_n 2, 1) := by decide +kernel
theorem dX11_blend_21 : decode cX11_blend 21 = .ok (.ifCond .lt 38, 3) := by decide +kernel
theorem dX11_blend_24 : decode cX11_blend 24 = .ok (.iload_n 2, 1) := by decide +kernel
theorem dX11_blend_25 : decode cX11_blend 25 = .ok (.bipush 100, 2) := by decide +kernel
theorem dX11_blend_27 : decode cX11_blend 27 = .ok (.idiv, 1) := by decide +kernel
theorem dX11_blend_28 : decode cX11_blend 28 = .ok (.invokestatic 103, 3) := by decide +kernel
theorem dX11_blend_31 : decode cX11_blend 31 = .ok (.ifCond .eq 28, 3) := by decide +kernel
theorem dX11_blend_34 : decode cX11_blend 34 = .ok (.iload_n 2, 1) := by decide +kernel
theorem dX11_blend_35 : decode cX11_blend 35 = .ok (.bipush 100, 2) := by decide +kernel
theorem dX11_blend_37 : decode cX11_blend 37 = .ok (.idiv, 1) := by decide +kernel
theorem dX11_blend_38 : decode cX11_blend 38 = .ok (.iload_n 2, 1) := by decide +kernel
theorem dX11_blend_39 : decode cX11_blend 39 = .ok (.bipush 10, 2) := by decide +kernel
theorem dX11_blend_41 : decode cX11_blend 41 = .ok (.idiv, 1) := by decide +kernel
theorem dX11_blend_42 : decode cX11_blend 42 = .ok (.bipush 10, 2) := by decide +kernel
theorem dX11_blend_44 : decode cX11_blend 44 = .ok (.irem, 1) := by decide +kernel
theorem dX11_blend_45 : decode cX11_blend 45 = .ok (.if_icmp .eq 14, 3) := by decide +kernel
theorem dX11_blend_48 : decode cX11_blend 48 = .ok (.iload_n 2, 1) := by decide +kernel
theorem dX11_blend_49 : decode cX11_blend 49 = .ok (.bipush 10, 2) := by decide +kernel
theorem dX11_blend_51 : decode cX11_blend 51 = .ok (.irem, 1) := by decide +kernel
theorem dX11_blend_52 : decode cX11_blend 52 = .ok (.aload_n 0, 1) := by decide +kernel
theorem dX11_blend_53 : decode cX11_blend 53 = .ok (.getfield 97, 3) := by decide +kernel
theorem dX11_blend_56 : decode cX11_blend 56 = .ok (.if_icmp .lt 5, 3) := by decide +kernel
theorem dX11_blend_59 : decode cX11_blend 59 = .ok (.iconst (-1), 1) := by decide +kernel
theorem dX11_blend_60 : decode cX11_blend 60 = .ok (.ireturn, 1) := by decide +kernel
theorem dX11_blend_61 : decode cX11_blend 61 = .ok (.aload_n 0, 1) := by decide +kernel
theorem dX11_blend_62 : decode cX11_blend 62 = .ok (.getfield 159, 3) := by decide +kernel
theorem dX11_blend_65 : decode cX11_blend 65 = .ok (.sipush 200, 3) := by decide +kernel
theorem dX11_blend_68 : decode cX11_blend 68 = .ok (.if_icmp .ne 6, 3) := by decide +kernel
theorem dX11_blend_71 : decode cX11_blend 71 = .ok (.bipush (-2), 2) := by decide +kernel
theorem dX11_blend_73 : decode cX11_blend 73 = .ok (.ireturn, 1) := by decide +kernel
theorem dX11_blend_74 : decode cX11_blend 74 = .ok (.iload_n 2, 1) := by decide +kernel
theorem dX11_blend_75 : decode cX11_blend 75 = .ok (.bipush 100, 2) := by decide +kernel
theorem dX11_blend_77 : decode cX11_blend 77 = .ok (.idiv, 1) := by decide +kernel
theorem dX11_blend_78 : decode cX11_blend 78 = .ok (.istore_n 3, 1) := by decide +kernel
theorem dX11_blend_79 : decode cX11_blend 79 = .ok (.iload_n 2, 1) := by decide +kernel
theorem dX11_blend_80 : decode cX11_blend 80 = .ok (.bipush 10, 2) := by decide +kernel
theorem dX11_blend_82 : decode cX11_blend 82 = .ok (.idiv, 1) := by decide +kernel
theorem dX11_blend_83 : decode cX11_blend 83 = .ok (.bipush 10, 2) := by decide +kernel
theorem dX11_blend_85 : decode cX11_blend 85 = .ok (.irem, 1) := by decide +kernel
theorem dX11_blend_86 : decode cX11_blend 86 = .ok (.istore 4, 2) := by decide +kernel
theorem dX11_blend_88 : decode cX11_blend 88 = .ok (.iconst 0, 1) := by decide +kernel
theorem dX11_blend_89 : decode cX11_blend 89 = .ok (.istore 5, 2) := by decide +kernel
theorem dX11_blend_91 : decode cX11_blend 91 = .ok (.iload 5, 2) := by decide +kernel
theorem dX11_blend_93 : decode cX11_blend 93 = .ok (.bipush 8, 2) := by decide +kernel
theorem dX11_blend_95 : decode cX11_blend 95 = .ok (.if_icmp .ge 55, 3) := by decide +kernel
theorem dX11_blend_98 : decode cX11_blend 98 = .ok (.aload_n 0, 1) := by decide +kernel
theorem dX11_blend_99 : decode cX11_blend 99 = .ok (.getfield 68, 3) := by decide +kernel
theorem dX11_blend_102 : decode cX11_blend 102 = .ok (.iload 5, 2) := by decide +kernel
theorem dX11_blend_104 : decode cX11_blend 104 = .ok (.iload 5, 2) := by decide +kernel
theorem dX11_blend_106 : decode cX11_blend 106 = .ok (.iload_n 2, 1) := by decide +kernel
theorem dX11_blend_107 : decode cX11_blend 107 = .ok (.bipush 10, 2) := by decide +kernel
theorem dX11_blend_109 : decode cX11_blend 109 = .ok (.irem, 1) := by decide +kernel
theorem dX11_blend_110 : decode cX11_blend 110 = .ok (.if_icmp .ge 7, 3) := by decide +kernel
theorem dX11_blend_113 : decode cX11_blend 113 = .ok (.iload_n 3, 1) := by decide +kernel
theorem dX11_blend_114 : decode cX11_blend 114 = .ok (.goto 29, 3) := by decide +kernel
theorem dX11_blend_117 : decode cX11_blend 117 = .ok (.iload 5, 2) := by decide +kernel
theorem dX11_blend_119 : decode cX11_blend 119 = .ok (.iload_n 2, 1) := by decide +kernel
theorem dX11_blend_120 : decode cX11_blend 120 = .ok (.bipush 10, 2) := by decide +kernel
theorem dX11_blend_122 : decode cX11_blend 122 = .ok (.irem, 1) := by decide +kernel
theorem dX11_blend_123 : decode cX11_blend 123 = .ok (.if_icmp .le 8, 3) := by decide +kernel
theorem dX11_blend_126 : decode cX11_blend 126 = .ok (.iload 4, 2) := by decide +kernel
theorem dX11_blend_128 : decode cX11_blend 128 = .ok (.goto 15, 3) := by decide +kernel
theorem dX11_blend_131 : decode cX11_blend 131 = .ok (.aload_n 0, 1) := by decide +kernel
theorem dX11_blend_132 : decode cX11_blend 132 = .ok (.getfield 20, 3) := by decide +kernel
theorem dX11_blend_135 : decode cX11_blend 135 = .ok (.bipush 10, 2) := by decide +kernel
theorem dX11_blend_137 : decode cX11_blend 137 = .ok (.iload_n 3, 1) := by decide +kernel
theorem dX11_blend_138 : decode cX11_blend 138 = .ok (.imul, 1) := by decide +kernel
theorem dX11_blend_139 : decode cX11_blend 139 = .ok (.iload 4, 2) := by decide +kernel
theorem dX11_blend_141 : decode cX11_blend 141 = .ok (.iadd, 1) := by decide +kernel
theorem dX11_blend_142 : decode cX11_blend 142 = .ok (.iaload, 1) := by decide +kernel
theorem dX11_blend_143 : decode cX11_blend 143 = .ok (.iastore, 1) := by decide +kernel
theorem dX11_blend_144 : decode cX11_blend 144 = .ok (.iinc 5 1, 3) := by decide +kernel
theorem dX11_blend_147 : decode cX11_blend 147 = .ok (.goto (-56), 3) := by decide +kernel
theorem dX11_blend_150 : decode cX11_blend 150 = .ok (.aload_n 0, 1) := by decide +kernel
theorem dX11_blend_151 : decode cX11_blend 151 = .ok (.iload_n 1, 1) := by decide +kernel
theorem dX11_blend_152 : decode cX11_blend 152 = .ok (.bipush 10, 2) := by decide +kernel
theorem dX11_blend_154 : decode cX11_blend 154 = .ok (.invokevirtual 172, 3) := by decide +kernel
theorem dX11_blend_157 : decode cX11_blend 157 = .ok (.ireturn, 1) := by decide +kernel
theorem dX11_isSheet_0 : decode cX11_isSheet 0 = .ok (.iload_n 1, 1) := by decide +kernel
theorem dX11_isSheet_1 : decode cX11_isSheet 1 = .ok (.ifCond .lt 15, 3) := by decide +kernel
theorem dX11_isSheet_4 : decode cX11_isSheet 4 = .ok (.iload_n 1, 1) := by decide +kernel
theorem dX11_isSheet_5 : decode cX11_isSheet 5 = .ok (.aload_n 0, 1) := by decide +kernel
theorem dX11_isSheet_6 : decode cX11_isSheet 6 = .ok (.getfield 155, 3) := by decide +kernel
theorem dX11_isSheet_9 : decode cX11_isSheet 9 = .ok (.if_icmp .ge 7, 3) := by decide +kernel
theorem dX11_isSheet_12 : decode cX11_isSheet 12 = .ok (.iconst 1, 1) := by decide +kernel
theorem dX11_isSheet_13 : decode cX11_isSheet 13 = .ok (.goto 4, 3) := by decide +kernel
theorem dX11_isSheet_16 : decode cX11_isSheet 16 = .ok (.iconst 0, 1) := by decide +kernel
theorem dX11_isSheet_17 : decode cX11_isSheet 17 = .ok (.ireturn, 1) := by decide +kernel
theorem dX11_colour_0 : decode cX11_colour 0 = .ok (.aload_n 0, 1) := by decide +kernel
theorem dX11_colour_1 : decode cX11_colour 1 = .ok (.iload_n 1, 1) := by decide +kernel
theorem dX11_colour_2 : decode cX11_colour 2 = .ok (.invokevirtual 176, 3) := by decide +kernel
theorem dX11_colour_5 : decode cX11_colour 5 = .ok (.ifCond .eq 25, 3) := by decide +kernel
theorem dX11_colour_8 : decode cX11_colour 8 = .ok (.aload_n 0, 1) := by decide +kernel
theorem dX11_colour_9 : decode cX11_colour 9 = .ok (.iload_n 2, 1) := by decide +kernel
theorem dX11_colour_10 : decode cX11_colour 10 = .ok (.invokevirtual 142, 3) := by decide +kernel
theorem dX11_colour_13 : decode cX11_colour 13 = .ok (.ifCond .eq 17, 3) := by decide +kernel
theorem dX11_colour_16 : decode cX11_colour 16 = .ok (.aload_n 0, 1) := by decide +kernel
theorem dX11_colour_17 : decode cX11_colour 17 = .ok (.getfield 35, 3) := by decide +kernel
theorem dX11_colour_20 : decode cX11_colour 20 = .ok (.bipush 64, 2) := by decide +kernel
theorem dX11_colour_22 : decode cX11_colour 22 = .ok (.iload_n 1, 1) := by decide +kernel
theorem dX11_colour_23 : decode cX11_colour 23 = .ok (.imul, 1) := by decide +kernel
theorem dX11_colour_24 : decode cX11_colour 24 = .ok (.iload_n 2, 1) := by decide +kernel
theorem dX11_colour_25 : decode cX11_colour 25 = .ok (.iadd, 1) := by decide +kernel
theorem dX11_colour_26 : decode cX11_colour 26 = .ok (.iaload, 1) := by decide +kernel
theorem dX11_colour_27 : decode cX11_colour 27 = .ok (.goto 4, 3) := by decide +kernel
theorem dX11_colour_30 : decode cX11_colour 30 = .ok (.iconst (-1), 1) := by decide +kernel
theorem dX11_colour_31 : decode cX11_colour 31 = .ok (.ireturn, 1) := by decide +kernel
theorem dX11_led_0 : decode cX11_led 0 = .ok (.aload_n 0, 1) := by decide +kernel
theorem dX11_led_1 : decode cX11_led 1 = .ok (.iload_n 1, 1) := by decide +kernel
theorem dX11_led_2 : decode cX11_led 2 = .ok (.invokevirtual 176, 3) := by decide +kernel
theorem dX11_led_5 : decode cX11_led 5 = .ok (.ifCond .eq 20, 3) := by decide +kernel
theorem dX11_led_8 : decode cX11_led 8 = .ok (.aload_n 0, 1) := by decide +kernel
theorem dX11_led_9 : decode cX11_led 9 = .ok (.iload_n 2, 1) := by decide +kernel
theorem dX11_led_10 : decode cX11_led 10 = .ok (.invokevirtual 142, 3) := by decide +kernel
theorem dX11_led_13 : decode cX11_led 13 = .ok (.ifCond .eq 12, 3) := by decide +kernel
theorem dX11_led_16 : decode cX11_led 16 = .ok (.iload_n 3, 1) := by decide +kernel
theorem dX11_led_17 : decode cX11_led 17 = .ok (.iconst 0, 1) := by decide +kernel
theorem dX11_led_18 : decode cX11_led 18 = .ok (.iconst 2, 1) := by decide +kernel
theorem dX11_led_19 : decode cX11_led 19 = .ok (.invokestatic 90, 3) := by decide +kernel
theorem dX11_led_22 : decode cX11_led 22 = .ok (.ifCond .ne 5, 3) := by decide +kernel
theorem dX11_led_25 : decode cX11_led 25 = .ok (.iconst (-1), 1) := by decide +kernel
theorem dX11_led_26 : decode cX11_led 26 = .ok (.ireturn, 1) := by decide +kernel
theorem dX11_led_27 : decode cX11_led 27 = .ok (.bipush 64, 2) := by decide +kernel
theorem dX11_led_29 : decode cX11_led 29 = .ok (.iload_n 1, 1) := by decide +kernel
theorem dX11_led_30 : decode cX11_led 30 = .ok (.imul, 1) := by decide +kernel
theorem dX11_led_31 : decode cX11_led 31 = .ok (.iload_n 2, 1) := by decide +kernel
theorem dX11_led_32 : decode cX11_led 32 = .ok (.iadd, 1) := by decide +kernel
theorem dX11_led_33 : decode cX11_led 33 = .ok (.istore 4, 2) := by decide +kernel
theorem dX11_led_35 : decode cX11_led 35 = .ok (.iload_n 3, 1) := by decide +kernel
theorem dX11_led_36 : decode cX11_led 36 = .ok (.ifCond .ne 13, 3) := by decide +kernel
theorem dX11_led_39 : decode cX11_led 39 = .ok (.aload_n 0, 1) := by decide +kernel
theorem dX11_led_40 : decode cX11_led 40 = .ok (.getfield 38, 3) := by decide +kernel
theorem dX11_led_43 : decode cX11_led 43 = .ok (.iload 4, 2) := by decide +kernel
theorem dX11_led_45 : decode cX11_led 45 = .ok (.iaload, 1) := by decide +kernel
theorem dX11_led_46 : decode cX11_led 46 = .ok (.goto 25, 3) := by decide +kernel
theorem dX11_led_49 : decode cX11_led 49 = .ok (.iload_n 3, 1) := by decide +kernel
theorem dX11_led_50 : decode cX11_led 50 = .ok (.iconst 1, 1) := by decide +kernel
theorem dX11_led_51 : decode cX11_led 51 = .ok (.if_icmp .ne 13, 3) := by decide +kernel
theorem dX11_led_54 : decode cX11_led 54 = .ok (.aload_n 0, 1) := by decide +kernel
theorem dX11_led_55 : decode cX11_led 55 = .ok (.getfield 41, 3) := by decide +kernel
theorem dX11_led_58 : decode cX11_led 58 = .ok (.iload 4, 2) := by decide +kernel
theorem dX11_led_60 : decode cX11_led 60 = .ok (.iaload, 1) := by decide +kernel
theorem dX11_led_61 : decode cX11_led 61 = .ok (.goto 10, 3) := by decide +kernel
theorem dX11_led_64 : decode cX11_led 64 = .ok (.aload_n 0, 1) := by decide +kernel
theorem dX11_led_65 : decode cX11_led 65 = .ok (.getfield 47, 3) := by decide +kernel
theorem dX11_led_68 : decode cX11_led 68 = .ok (.iload 4, 2) := by decide +kernel
theorem dX11_led_70 : decode cX11_led 70 = .ok (.iaload, 1) := by decide +kernel
theorem dX11_led_71 : decode cX11_led 71 = .ok (.ireturn, 1) := by decide +kernel
theorem dX11_good_0 : decode cX11_good 0 = .ok (.aload_n 0, 1) := by decide +kernel
theorem dX11_good_1 : decode cX11_good 1 = .ok (.iload_n 1, 1) := by decide +kernel
theorem dX11_good_2 : decode cX11_good 2 = .ok (.invokevirtual 176, 3) := by decide +kernel
theorem dX11_good_5 : decode cX11_good 5 = .ok (.ifCond .ne 7, 3) := by decide +kernel
theorem dX11_good_8 : decode cX11_good 8 = .ok (.iconst (-1), 1) := by decide +kernel
theorem dX11_good_9 : decode cX11_good 9 = .ok (.goto 17, 3) := by decide +kernel
theorem dX11_good_12 : decode cX11_good 12 = .ok (.aload_n 0, 1) := by decide +kernel
theorem dX11_good_13 : decode cX11_good 13 = .ok (.getfield 50, 3) := by decide +kernel
theorem dX11_good_16 : decode cX11_good 16 = .ok (.iload_n 1, 1) := by decide +kernel
theorem dX11_good_17 : decode cX11_good 17 = .ok (.baload, 1) := by decide +kernel
theorem dX11_good_18 : decode cX11_good 18 = .ok (.ifCond .eq 7, 3) := by decide +kernel
theorem dX11_good_21 : decode cX11_good 21 = .ok (.iconst 0, 1) := by decide +kernel
theorem dX11_good_22 : decode cX11_good 22 = .ok (.goto 4, 3) := by decide +kernel
theorem dX11_good_25 : decode cX11_good 25 = .ok (.iconst 1, 1) := by decide +kernel
theorem dX11_good_26 : decode cX11_good 26 = .ok (.ireturn, 1) := by decide +kernel
theorem dX11_book_0 : decode cX11_book 0 = .ok (.iload_n 1, 1) := by decide +kernel
theorem dX11_book_1 : decode cX11_book 1 = .ok (.ifCond .lt 11, 3) := by decide +kernel
theorem dX11_book_4 : decode cX11_book 4 = .ok (.iload_n 1, 1) := by decide +kernel
theorem dX11_book_5 : decode cX11_book 5 = .ok (.aload_n 0, 1) := by decide +kernel
theorem dX11_book_6 : decode cX11_book 6 = .ok (.getfield 159, 3) := by decide +kernel
theorem dX11_book_9 : decode cX11_book 9 = .ok (.if_icmp .lt 5, 3) := by decide +kernel
theorem dX11_book_12 : decode cX11_book 12 = .ok (.iconst (-1), 1) := by decide +kernel
theorem dX11_book_13 : decode cX11_book 13 = .ok (.ireturn, 1) := by decide +kernel
theorem dX11_book_14 : decode cX11_book 14 = .ok (.iload_n 2, 1) := by decide +kernel
theorem dX11_book_15 : decode cX11_book 15 = .ok (.tableswitch 68 0 4 #[33, 40, 47, 54, 61], 33) := by decide +kernel
theorem dX11_book_48 : decode cX11_book 48 = .ok (.aload_n 0, 1) := by decide +kernel
theorem dX11_book_49 : decode cX11_book 49 = .ok (.getfield 53, 3) := by decide +kernel
theorem dX11_book_52 : decode cX11_book 52 = .ok (.iload_n 1, 1) := by decide +kernel
theorem dX11_book_53 : decode cX11_book 53 = .ok (.iaload, 1) := by decide +kernel
theorem dX11_book_54 : decode cX11_book 54 = .ok (.ireturn, 1) := by decide +kernel
theorem dX11_book_55 : decode cX11_book 55 = .ok (.aload_n 0, 1) := by decide +kernel
theorem dX11_book_56 : decode cX11_book 56 = .ok (.getfield 56, 3) := by decide +kernel
theorem dX11_book_59 : decode cX11_book 59 = .ok (.iload_n 1, 1) := by decide +kernel
theorem dX11_book_60 : decode cX11_book 60 = .ok (.iaload, 1) := by decide +kernel
theorem dX11_book_61 : decode cX11_book 61 = .ok (.ireturn, 1) := by decide +kernel
theorem dX11_book_62 : decode cX11_book 62 = .ok (.aload_n 0, 1) := by decide +kernel
theorem dX11_book_63 : decode cX11_book 63 = .ok (.getfield 59, 3) := by decide +kernel
theorem dX11_book_66 : decode cX11_book 66 = .ok (.iload_n 1, 1) := by decide +kernel
theorem dX11_book_67 : decode cX11_book 67 = .ok (.iaload, 1) := by decide +kernel
theorem dX11_book_68 : decode cX11_book 68 = .ok (.ireturn, 1) := by decide +kernel
theorem dX11_book_69 : decode cX11_book 69 = .ok (.aload_n 0, 1) := by decide +kernel
theorem dX11_book_70 : decode cX11_book 70 = .ok (.getfield 62, 3) := by decide +kernel
theorem dX11_book_73 : decode cX11_book 73 = .ok (.iload_n 1, 1) := by decide +kernel
theorem dX11_book_74 : decode cX11_book 74 = .ok (.iaload, 1) := by decide +kernel
theorem dX11_book_75 : decode cX11_book 75 = .ok (.ireturn, 1) := by decide +kernel
theorem dX11_book_76 : decode cX11_book 76 = .ok (.aload_n 0, 1) := by decide +kernel
theorem dX11_book_77 : decode cX11_book 77 = .ok (.getfield 65, 3) := by decide +kernel
theorem dX11_book_80 : decode cX11_book 80 = .ok (.iload_n 1, 1) := by decide +kernel
theorem dX11_book_81 : decode cX11_book 81 = .ok (.iaload, 1) := by decide +kernel
theorem dX11_book_82 : decode cX11_book 82 = .ok (.ireturn, 1) := by decide +kernel
theorem dX11_book_83 : decode cX11_book 83 = .ok (.iconst (-1), 1) := by decide +kernel
theorem dX11_book_84 : decode cX11_book 84 = .ok (.ireturn, 1) := by decide +kernel
theorem dX11_free_0 : decode cX11_free 0 = .ok (.aload_n 0, 1) := by decide +kernel
theorem dX11_free_1 : decode cX11_free 1 = .ok (.iload_n 1, 1) := by decide +kernel
theorem dX11_free_2 : decode cX11_free 2 = .ok (.invokevirtual 169, 3) := by decide +kernel
theorem dX11_free_5 : decode cX11_free 5 = .ok (.ifCond .eq 10, 3) := by decide +kernel
theorem dX11_free_8 : decode cX11_free 8 = .ok (.iload_n 2, 1) := by decide +kernel
theorem dX11_free_9 : decode cX11_free 9 = .ok (.invokestatic 103, 3) := by decide +kernel
theorem dX11_free_12 : decode cX11_free 12 = .ok (.ifCond .ne 5, 3) := by decide +kernel
theorem dX11_free_15 : decode cX11_free 15 = .ok (.iconst (-1), 1) := by decide +kernel
theorem dX11_free_16 : decode cX11_free 16 = .ok (.ireturn, 1) := by decide +kernel
theorem dX11_free_17 : decode cX11_free 17 = .ok (.aload_n 0, 1) := by decide +kernel
theorem dX11_free_18 : decode cX11_free 18 = .ok (.getfield 116, 3) := by decide +kernel
theorem dX11_free_21 : decode cX11_free 21 = .ok (.istore_n 3, 1) := by decide +kernel
theorem dX11_free_22 : decode cX11_free 22 = .ok (.iload_n 1, 1) := by decide +kernel
theorem dX11_free_23 : decode cX11_free 23 = .ok (.bipush 100, 2) := by decide +kernel
theorem dX11_free_25 : decode cX11_free 25 = .ok (.idiv, 1) := by decide +kernel
theorem dX11_free_26 : decode cX11_free 26 = .ok (.istore 4, 2) := by decide +kernel
theorem dX11_free_28 : decode cX11_free 28 = .ok (.iload 4, 2) := by decide +kernel
theorem dX11_free_30 : decode cX11_free 30 = .ok (.iload_n 1, 1) := by decide +kernel
theorem dX11_free_31 : decode cX11_free 31 = .ok (.bipush 100, 2) := by decide +kernel
theorem dX11_free_33 : decode cX11_free 33 = .ok (.irem, 1) := by decide +kernel
theorem dX11_free_34 : decode cX11_free 34 = .ok (.if_icmp .gt 112, 3) := by decide +kernel
theorem dX11_free_37 : decode cX11_free 37 = .ok (.iconst 0, 1) := by decide +kernel
theorem dX11_free_38 : decode cX11_free 38 = .ok (.istore 5, 2) := by decide +kernel
theorem dX11_free_40 : decode cX11_free 40 = .ok (.iload 5, 2) := by decide +kernel
theorem dX11_free_42 : decode cX11_free 42 = .ok (.bipush 64, 2) := by decide +kernel
theorem dX11_free_44 : decode cX11_free 44 = .ok (.if_icmp .ge 96, 3) := by decide +kernel
theorem dX11_free_47 : decode cX11_free 47 = .ok (.bipush 64, 2) := by decide +kernel
theorem dX11_free_49 : decode cX11_free 49 = .ok (.iload 4, 2) := by decide +kernel
theorem dX11_free_51 : decode cX11_free 51 = .ok (.imul, 1) := by decide +kernel
theorem dX11_free_52 : decode cX11_free 52 = .ok (.iload 5, 2) := by decide +kernel
theorem dX11_free_54 : decode cX11_free 54 = .ok (.iadd, 1) := by decide +kernel
theorem dX11_free_55 : decode cX11_free 55 = .ok (.istore 6, 2) := by decide +kernel
theorem dX11_free_57 : decode cX11_free 57 = .ok (.aload_n 0, 1) := by decide +kernel
theorem dX11_free_58 : decode cX11_free 58 = .ok (.getfield 50, 3) := by decide +kernel
theorem dX11_free_61 : decode cX11_free 61 = .ok (.iload 4, 2) := by decide +kernel
theorem dX11_free_63 : decode cX11_free 63 = .ok (.baload, 1) := by decide +kernel
theorem dX11_free_64 : decode cX11_free 64 = .ok (.ifCond .ne 70, 3) := by decide +kernel
theorem dX11_free_67 : decode cX11_free 67 = .ok (.aload_n 0, 1) := by decide +kernel
theorem dX11_free_68 : decode cX11_free 68 = .ok (.iload 5, 2) := by decide +kernel
theorem dX11_free_70 : decode cX11_free 70 = .ok (.invokevirtual 142, 3) := by decide +kernel
theorem dX11_free_73 : decode cX11_free 73 = .ok (.ifCond .eq 61, 3) := by decide +kernel
theorem dX11_free_76 : decode cX11_free 76 = .ok (.aload_n 0, 1) := by decide +kernel
theorem dX11_free_77 : decode cX11_free 77 = .ok (.iload 5, 2) := by decide +kernel
theorem dX11_free_79 : decode cX11_free 79 = .ok (.invokevirtual 145, 3) := by decide +kernel
theorem dX11_free_82 : decode cX11_free 82 = .ok (.ifCond .eq 52, 3) := by decide +kernel
theorem dX11_free_85 : decode cX11_free 85 = .ok (.aload_n 0, 1) := by decide +kernel
theorem dX11_free_86 : decode cX11_free 86 = .ok (.getfield 41, 3) := by decide +kernel
theorem dX11_free_89 : decode cX11_free 89 = .ok (.iload 6, 2) := by decide +kernel
theorem dX11_free_91 : decode cX11_free 91 = .ok (.iaload, 1) := by decide +kernel
theorem dX11_free_92 : decode cX11_free 92 = .ok (.ifCond .le 42, 3) := by decide +kernel
theorem dX11_free_95 : decode cX11_free 95 = .ok (.aload_n 0, 1) := by decide +kernel
theorem dX11_free_96 : decode cX11_free 96 = .ok (.getfield 16, 3) := by decide +kernel
theorem dX11_free_99 : decode cX11_free 99 = .ok (.bipush 10, 2) := by decide +kernel
theorem dX11_free_101 : decode cX11_free 101 = .ok (.aload_n 0, 1) := by decide +kernel
theorem dX11_free_102 : decode cX11_free 102 = .ok (.getfield 44, 3) := by decide +kernel
theorem dX11_free_105 : decode cX11_free 105 = .ok (.iload 6, 2) := by decide +kernel
theorem dX11_free_107 : decode cX11_free 107 = .ok (.iaload, 1) := by decide +kernel
theorem dX11_free_108 : decode cX11_free 108 = .ok (.imul, 1) := by decide +kernel
theorem dX11_free_109 : decode cX11_free 109 = .ok (.iload_n 2, 1) := by decide +kernel
theorem dX11_free_110 : decode cX11_free 110 = .ok (.iadd, 1) := by decide +kernel
theorem dX11_free_111 : decode cX11_free 111 = .ok (.baload, 1) := by decide +kernel
theorem dX11_free_112 : decode cX11_free 112 = .ok (.ifCond .eq 22, 3) := by decide +kernel
theorem dX11_free_115 : decode cX11_free 115 = .ok (.aload_n 0, 1) := by decide +kernel
theorem dX11_free_116 : decode cX11_free 116 = .ok (.getfield 47, 3) := by decide +kernel
theorem dX11_free_119 : decode cX11_free 119 = .ok (.iload 6, 2) := by decide +kernel
theorem dX11_free_121 : decode cX11_free 121 = .ok (.iaload, 1) := by decide +kernel
theorem dX11_free_122 : decode cX11_free 122 = .ok (.iload_n 3, 1) := by decide +kernel
theorem dX11_free_123 : decode cX11_free 123 = .ok (.if_icmp .le 11, 3) := by decide +kernel
theorem dX11_free_126 : decode cX11_free 126 = .ok (.aload_n 0, 1) := by decide +kernel
theorem dX11_free_127 : decode cX11_free 127 = .ok (.getfield 47, 3) := by decide +kernel
theorem dX11_free_130 : decode cX11_free 130 = .ok (.iload 6, 2) := by decide +kernel
theorem dX11_free_132 : decode cX11_free 132 = .ok (.iaload, 1) := by decide +kernel
theorem dX11_free_133 : decode cX11_free 133 = .ok (.istore_n 3, 1) := by decide +kernel
theorem dX11_free_134 : decode cX11_free 134 = .ok (.iinc 5 1, 3) := by decide +kernel
theorem dX11_free_137 : decode cX11_free 137 = .ok (.goto (-97), 3) := by decide +kernel
theorem dX11_free_140 : decode cX11_free 140 = .ok (.iinc 4 1, 3) := by decide +kernel
theorem dX11_free_143 : decode cX11_free 143 = .ok (.goto (-115), 3) := by decide +kernel
theorem dX11_free_146 : decode cX11_free 146 = .ok (.iload_n 3, 1) := by decide +kernel
theorem dX11_free_147 : decode cX11_free 147 = .ok (.ireturn, 1) := by decide +kernel
theorem dX11_wanted_0 : decode cX11_wanted 0 = .ok (.iload_n 1, 1) := by decide +kernel
theorem dX11_wanted_1 : decode cX11_wanted 1 = .ok (.iconst 1, 1) := by decide +kernel
theorem dX11_wanted_2 : decode cX11_wanted 2 = .ok (.iconst 4, 1) := by decide +kernel
theorem dX11_wanted_3 : decode cX11_wanted 3 = .ok (.invokestatic 90, 3) := by decide +kernel
theorem dX11_wanted_6 : decode cX11_wanted 6 = .ok (.ifCond .eq 12, 3) := by decide +kernel
theorem dX11_wanted_9 : decode cX11_wanted 9 = .ok (.iload_n 2, 1) := by decide +kernel
theorem dX11_wanted_10 : decode cX11_wanted 10 = .ok (.iconst 1, 1) := by decide +kernel
theorem dX11_wanted_11 : decode cX11_wanted 11 = .ok (.iconst 4, 1) := by decide +kernel
theorem dX11_wanted_12 : decode cX11_wanted 12 = .ok (.invokestatic 90, 3) := by decide +kernel
theorem dX11_wanted_15 : decode cX11_wanted 15 = .ok (.ifCond .ne 5, 3) := by decide +kernel
theorem dX11_wanted_18 : decode cX11_wanted 18 = .ok (.iconst (-1), 1) := by decide +kernel
theorem dX11_wanted_19 : decode cX11_wanted 19 = .ok (.ireturn, 1) := by decide +kernel
theorem dX11_wanted_20 : decode cX11_wanted 20 = .ok (.aload_n 0, 1) := by decide +kernel
theorem dX11_wanted_21 : decode cX11_wanted 21 = .ok (.iload_n 1, 1) := by decide +kernel
theorem dX11_wanted_22 : decode cX11_wanted 22 = .ok (.putfield 179, 3) := by decide +kernel
theorem dX11_wanted_25 : decode cX11_wanted 25 = .ok (.aload_n 0, 1) := by decide +kernel
theorem dX11_wanted_26 : decode cX11_wanted 26 = .ok (.iload_n 2, 1) := by decide +kernel
theorem dX11_wanted_27 : decode cX11_wanted 27 = .ok (.putfield 182, 3) := by decide +kernel
theorem dX11_wanted_30 : decode cX11_wanted 30 = .ok (.iconst 0, 1) := by decide +kernel
theorem dX11_wanted_31 : decode cX11_wanted 31 = .ok (.istore_n 3, 1) := by decide +kernel
theorem dX11_wanted_32 : decode cX11_wanted 32 = .ok (.iload_n 3, 1) := by decide +kernel
theorem dX11_wanted_33 : decode cX11_wanted 33 = .ok (.bipush 16, 2) := by decide +kernel
theorem dX11_wanted_35 : decode cX11_wanted 35 = .ok (.if_icmp .ge 16, 3) := by decide +kernel
theorem dX11_wanted_38 : decode cX11_wanted 38 = .ok (.aload_n 0, 1) := by decide +kernel
theorem dX11_wanted_39 : decode cX11_wanted 39 = .ok (.getfield 71, 3) := by decide +kernel
theorem dX11_wanted_42 : decode cX11_wanted 42 = .ok (.iload_n 3, 1) := by decide +kernel
theorem dX11_wanted_43 : decode cX11_wanted 43 = .ok (.iconst 0, 1) := by decide +kernel
theorem dX11_wanted_44 : decode cX11_wanted 44 = .ok (.iastore, 1) := by decide +kernel
theorem dX11_wanted_45 : decode cX11_wanted 45 = .ok (.iinc 3 1, 3) := by decide +kernel
theorem dX11_wanted_48 : decode cX11_wanted 48 = .ok (.goto (-16), 3) := by decide +kernel
theorem dX11_wanted_51 : decode cX11_wanted 51 = .ok (.iconst 1, 1) := by decide +kernel
theorem dX11_wanted_52 : decode cX11_wanted 52 = .ok (.ireturn, 1) := by decide +kernel
theorem dX11_isWanted_0 : decode cX11_isWanted 0 = .ok (.iload_n 1, 1) := by decide +kernel
theorem dX11_isWanted_1 : decode cX11_isWanted 1 = .ok (.ifCond .lt 27, 3) := by decide +kernel
theorem dX11_isWanted_4 : decode cX11_isWanted 4 = .ok (.iload_n 1, 1) := by decide +kernel
theorem dX11_isWanted_5 : decode cX11_isWanted 5 = .ok (.iconst 4, 1) := by decide +kernel
theorem dX11_isWanted_6 : decode cX11_isWanted 6 = .ok (.idiv, 1) := by decide +kernel
theorem dX11_isWanted_7 : decode cX11_isWanted 7 = .ok (.aload_n 0, 1) := by decide +kernel
theorem dX11_isWanted_8 : decode cX11_isWanted 8 = .ok (.getfield 179, 3) := by decide +kernel
theorem dX11_isWanted_11 : decode cX11_isWanted 11 = .ok (.if_icmp .ge 17, 3) := by decide +kernel
theorem dX11_isWanted_14 : decode cX11_isWanted 14 = .ok (.iload_n 1, 1) := by decide +kernel
theorem dX11_isWanted_15 : decode cX11_isWanted 15 = .ok (.iconst 4, 1) := by decide +kernel
theorem dX11_isWanted_16 : decode cX11_isWanted 16 = .ok (.irem, 1) := by decide +kernel
theorem dX11_isWanted_17 : decode cX11_isWanted 17 = .ok (.aload_n 0, 1) := by decide +kernel
theorem dX11_isWanted_18 : decode cX11_isWanted 18 = .ok (.getfield 182, 3) := by decide +kernel
theorem dX11_isWanted_21 : decode cX11_isWanted 21 = .ok (.if_icmp .ge 7, 3) := by decide +kernel
theorem dX11_isWanted_24 : decode cX11_isWanted 24 = .ok (.iconst 1, 1) := by decide +kernel
theorem dX11_isWanted_25 : decode cX11_isWanted 25 = .ok (.goto 4, 3) := by decide +kernel
theorem dX11_isWanted_28 : decode cX11_isWanted 28 = .ok (.iconst 0, 1) := by decide +kernel
theorem dX11_isWanted_29 : decode cX11_isWanted 29 = .ok (.ireturn, 1) := by decide +kernel
theorem dX11_want_0 : decode cX11_want 0 = .ok (.aload_n 0, 1) := by decide +kernel
theorem dX11_want_1 : decode cX11_want 1 = .ok (.iload_n 1, 1) := by decide +kernel
theorem dX11_want_2 : decode cX11_want 2 = .ok (.invokevirtual 185, 3) := by decide +kernel
theorem dX11_want_5 : decode cX11_want 5 = .ok (.ifCond .eq 10, 3) := by decide +kernel
theorem dX11_want_8 : decode cX11_want 8 = .ok (.iload_n 2, 1) := by decide +kernel
theorem dX11_want_9 : decode cX11_want 9 = .ok (.invokestatic 107, 3) := by decide +kernel
theorem dX11_want_12 : decode cX11_want 12 = .ok (.ifCond .ne 5, 3) := by decide +kernel
theorem dX11_want_15 : decode cX11_want 15 = .ok (.iconst (-1), 1) := by decide +kernel
theorem dX11_want_16 : decode cX11_want 16 = .ok (.ireturn, 1) := by decide +kernel
theorem dX11_want_17 : decode cX11_want 17 = .ok (.aload_n 0, 1) := by decide +kernel
theorem dX11_want_18 : decode cX11_want 18 = .ok (.getfield 71, 3) := by decide +kernel
theorem dX11_want_21 : decode cX11_want 21 = .ok (.iload_n 1, 1) := by decide +kernel
theorem dX11_want_22 : decode cX11_want 22 = .ok (.iaload, 1) := by decide +kernel
theorem dX11_want_23 : decode cX11_want 23 = .ok (.istore_n 3, 1) := by decide +kernel
theorem dX11_want_24 : decode cX11_want 24 = .ok (.aload_n 0, 1) := by decide +kernel
theorem dX11_want_25 : decode cX11_want 25 = .ok (.getfield 71, 3) := by decide +kernel
theorem dX11_want_28 : decode cX11_want 28 = .ok (.iload_n 1, 1) := by decide +kernel
theorem dX11_want_29 : decode cX11_want 29 = .ok (.iload_n 2, 1) := by decide +kernel
theorem dX11_want_30 : decode cX11_want 30 = .ok (.iastore, 1) := by decide +kernel
theorem dX11_want_31 : decode cX11_want 31 = .ok (.iload_n 3, 1) := by decide +kernel
theorem dX11_want_32 : decode cX11_want 32 = .ok (.ireturn, 1) := by decide +kernel
theorem dX11_wantedColours_0 : decode cX11_wantedColours 0 = .ok (.iconst 0, 1) := by decide +kernel
theorem dX11_wantedColours_1 : decode cX11_wantedColours 1 = .ok (.istore_n 1, 1) := by decide +kernel
theorem dX11_wantedColours_2 : decode cX11_wantedColours 2 = .ok (.iconst 0, 1) := by decide +kernel
theorem dX11_wantedColours_3 : decode cX11_wantedColours 3 = .ok (.istore_n 2, 1) := by decide +kernel
theorem dX11_wantedColours_4 : decode cX11_wantedColours 4 = .ok (.iload_n 2, 1) := by decide +kernel
theorem dX11_wantedColours_5 : decode cX11_wantedColours 5 = .ok (.bipush 16, 2) := by decide +kernel
theorem dX11_wantedColours_7 : decode cX11_wantedColours 7 = .ok (.if_icmp .ge 32, 3) := by decide +kernel
theorem dX11_wantedColours_10 : decode cX11_wantedColours 10 = .ok (.iload_n 1, 1) := by decide +kernel
theorem dX11_wantedColours_11 : decode cX11_wantedColours 11 = .ok (.aload_n 0, 1) := by decide +kernel
theorem dX11_wantedColours_12 : decode cX11_wantedColours 12 = .ok (.iload_n 2, 1) := by decide +kernel
theorem dX11_wantedColours_13 : decode cX11_wantedColours 13 = .ok (.invokevirtual 185, 3) := by decide +kernel
theorem dX11_wantedColours_16 : decode cX11_wantedColours 16 = .ok (.ifCond .eq 14, 3) := by decide +kernel
theorem dX11_wantedColours_19 : decode cX11_wantedColours 19 = .ok (.iconst 1, 1) := by decide +kernel
theorem dX11_wantedColours_20 : decode cX11_wantedColours 20 = .ok (.aload_n 0, 1) := by decide +kernel
theorem dX11_wantedColours_21 : decode cX11_wantedColours 21 = .ok (.getfield 71, 3) := by decide +kernel
theorem dX11_wantedColours_24 : decode cX11_wantedColours 24 = .ok (.iload_n 2, 1) := by decide +kernel
theorem dX11_wantedColours_25 : decode cX11_wantedColours 25 = .ok (.iaload, 1) := by decide +kernel
theorem dX11_wantedColours_26 : decode cX11_wantedColours 26 = .ok (.ishl, 1) := by decide +kernel
theorem dX11_wantedColours_27 : decode cX11_wantedColours 27 = .ok (.goto 4, 3) := by decide +kernel
theorem dX11_wantedColours_30 : decode cX11_wantedColours 30 = .ok (.iconst 0, 1) := by decide +kernel
theorem dX11_wantedColours_31 : decode cX11_wantedColours 31 = .ok (.ior, 1) := by decide +kernel
theorem dX11_wantedColours_32 : decode cX11_wantedColours 32 = .ok (.istore_n 1, 1) := by decide +kernel
theorem dX11_wantedColours_33 : decode cX11_wantedColours 33 = .ok (.iinc 2 1, 3) := by decide +kernel
theorem dX11_wantedColours_36 : decode cX11_wantedColours 36 = .ok (.goto (-32), 3) := by decide +kernel
theorem dX11_wantedColours_39 : decode cX11_wantedColours 39 = .ok (.iload_n 1, 1) := by decide +kernel
theorem dX11_wantedColours_40 : decode cX11_wantedColours 40 = .ok (.ireturn, 1) := by decide +kernel
theorem dX11_makes_0 : decode cX11_makes 0 = .ok (.iload_n 1, 1) := by decide +kernel
theorem dX11_makes_1 : decode cX11_makes 1 = .ok (.iload_n 2, 1) := by decide +kernel
theorem dX11_makes_2 : decode cX11_makes 2 = .ok (.if_icmp .ne 14, 3) := by decide +kernel
theorem dX11_makes_5 : decode cX11_makes 5 = .ok (.iload 5, 2) := by decide +kernel
theorem dX11_makes_7 : decode cX11_makes 7 = .ok (.ifCond .ne 7, 3) := by decide +kernel
theorem dX11_makes_10 : decode cX11_makes 10 = .ok (.iconst 1, 1) := by decide +kernel
theorem dX11_makes_11 : decode cX11_makes 11 = .ok (.goto 4, 3) := by decide +kernel
theorem dX11_makes_14 : decode cX11_makes 14 = .ok (.iconst 0, 1) := by decide +kernel
theorem dX11_makes_15 : decode cX11_makes 15 = .ok (.ireturn, 1) := by decide +kernel
theorem dX11_makes_16 : decode cX11_makes 16 = .ok (.iconst 0, 1) := by decide +kernel
theorem dX11_makes_17 : decode cX11_makes 17 = .ok (.istore 6, 2) := by decide +kernel
theorem dX11_makes_19 : decode cX11_makes 19 = .ok (.iload 6, 2) := by decide +kernel
theorem dX11_makes_21 : decode cX11_makes 21 = .ok (.bipush 10, 2) := by decide +kernel
theorem dX11_makes_23 : decode cX11_makes 23 = .ok (.if_icmp .ge 67, 3) := by decide +kernel
theorem dX11_makes_26 : decode cX11_makes 26 = .ok (.iload_n 3, 1) := by decide +kernel
theorem dX11_makes_27 : decode cX11_makes 27 = .ok (.iload 6, 2) := by decide +kernel
theorem dX11_makes_29 : decode cX11_makes 29 = .ok (.ishr, 1) := by decide +kernel
theorem dX11_makes_30 : decode cX11_makes 30 = .ok (.iconst 1, 1) := by decide +kernel
theorem dX11_makes_31 : decode cX11_makes 31 = .ok (.iand, 1) := by decide +kernel
theorem dX11_makes_32 : decode cX11_makes 32 = .ok (.iconst 1, 1) := by decide +kernel
theorem dX11_makes_33 : decode cX11_makes 33 = .ok (.if_icmp .ne 51, 3) := by decide +kernel
theorem dX11_makes_36 : decode cX11_makes 36 = .ok (.aload_n 0, 1) := by decide +kernel
theorem dX11_makes_37 : decode cX11_makes 37 = .ok (.getfield 74, 3) := by decide +kernel
theorem dX11_makes_40 : decode cX11_makes 40 = .ok (.iload_n 1, 1) := by decide +kernel
theorem dX11_makes_41 : decode cX11_makes 41 = .ok (.iload 6, 2) := by decide +kernel
theorem dX11_makes_43 : decode cX11_makes 43 = .ok (.iastore, 1) := by decide +kernel
theorem dX11_makes_44 : decode cX11_makes 44 = .ok (.aload_n 0, 1) := by decide +kernel
theorem dX11_makes_45 : decode cX11_makes 45 = .ok (.getfield 9, 3) := by decide +kernel
theorem dX11_makes_48 : decode cX11_makes 48 = .ok (.bipush 16, 2) := by decide +kernel
theorem dX11_makes_50 : decode cX11_makes 50 = .ok (.iload 6, 2) := by decide +kernel
theorem dX11_makes_52 : decode cX11_makes 52 = .ok (.imul, 1) := by decide +kernel
theorem dX11_makes_53 : decode cX11_makes 53 = .ok (.iload 4, 2) := by decide +kernel
theorem dX11_makes_55 : decode cX11_makes 55 = .ok (.iadd, 1) := by decide +kernel
theorem dX11_makes_56 : decode cX11_makes 56 = .ok (.iaload, 1) := by decide +kernel
theorem dX11_makes_57 : decode cX11_makes 57 = .ok (.istore 7, 2) := by decide +kernel
theorem dX11_makes_59 : decode cX11_makes 59 = .ok (.aload_n 0, 1) := by decide +kernel
theorem dX11_makes_60 : decode cX11_makes 60 = .ok (.iload_n 1, 1) := by decide +kernel
theorem dX11_makes_61 : decode cX11_makes 61 = .ok (.iconst 1, 1) := by decide +kernel
theorem dX11_makes_62 : decode cX11_makes 62 = .ok (.iadd, 1) := by decide +kernel
theorem dX11_makes_63 : decode cX11_makes 63 = .ok (.iload_n 2, 1) := by decide +kernel
theorem dX11_makes_64 : decode cX11_makes 64 = .ok (.iload_n 3, 1) := by decide +kernel
theorem dX11_makes_65 : decode cX11_makes 65 = .ok (.iload 7, 2) := by decide +kernel
theorem dX11_makes_67 : decode cX11_makes 67 = .ok (.iload 5, 2) := by decide +kernel
theorem dX11_makes_69 : decode cX11_makes 69 = .ok (.iconst 1, 1) := by decide +kernel
theorem dX11_makes_70 : decode cX11_makes 70 = .ok (.iload 7, 2) := by decide +kernel
theorem dX11_makes_72 : decode cX11_makes 72 = .ok (.ishl, 1) := by decide +kernel
theorem dX11_makes_73 : decode cX11_makes 73 = .ok (.iconst (-1), 1) := by decide +kernel
theorem dX11_makes_74 : decode cX11_makes 74 = .ok (.ixor, 1) := by decide +kernel
theorem dX11_makes_75 : decode cX11_makes 75 = .ok (.iand, 1) := by decide +kernel
theorem dX11_makes_76 : decode cX11_makes 76 = .ok (.invokevirtual 188, 3) := by decide +kernel
theorem dX11_makes_79 : decode cX11_makes 79 = .ok (.ifCond .eq 5, 3) := by decide +kernel
theorem dX11_makes_82 : decode cX11_makes 82 = .ok (.iconst 1, 1) := by decide +kernel
theorem dX11_makes_83 : decode cX11_makes 83 = .ok (.ireturn, 1) := by decide +kernel
theorem dX11_makes_84 : decode cX11_makes 84 = .ok (.iinc 6 1, 3) := by decide +kernel
theorem dX11_makes_87 : decode cX11_makes 87 = .ok (.goto (-68), 3) := by decide +kernel
theorem dX11_makes_90 : decode cX11_makes 90 = .ok (.iconst 0, 1) := by decide +kernel
theorem dX11_makes_91 : decode cX11_makes 91 = .ok (.ireturn, 1) := by decide +kernel
theorem dX11_least_0 : decode cX11_least 0 = .ok (.aload_n 0, 1) := by decide +kernel
theorem dX11_least_1 : decode cX11_least 1 = .ok (.invokevirtual 192, 3) := by decide +kernel
theorem dX11_least_4 : decode cX11_least 4 = .ok (.bipush (-2), 2) := by decide +kernel
theorem dX11_least_6 : decode cX11_least 6 = .ok (.iand, 1) := by decide +kernel
theorem dX11_least_7 : decode cX11_least 7 = .ok (.istore_n 2, 1) := by decide +kernel
theorem dX11_least_8 : decode cX11_least 8 = .ok (.iconst 0, 1) := by decide +kernel
theorem dX11_least_9 : decode cX11_least 9 = .ok (.istore_n 3, 1) := by decide +kernel
theorem dX11_least_10 : decode cX11_least 10 = .ok (.iload_n 3, 1) := by decide +kernel
theorem dX11_least_11 : decode cX11_least 11 = .ok (.iconst 5, 1) := by decide +kernel
theorem dX11_least_12 : decode cX11_least 12 = .ok (.if_icmp .gt 23, 3) := by decide +kernel
theorem dX11_least_15 : decode cX11_least 15 = .ok (.aload_n 0, 1) := by decide +kernel
theorem dX11_least_16 : decode cX11_least 16 = .ok (.iconst 0, 1) := by decide +kernel
theorem dX11_least_17 : decode cX11_least 17 = .ok (.iload_n 3, 1) := by decide +kernel
theorem dX11_least_18 : decode cX11_least 18 = .ok (.iload_n 1, 1) := by decide +kernel
theorem dX11_least_19 : decode cX11_least 19 = .ok (.iconst 0, 1) := by decide +kernel
theorem dX11_least_20 : decode cX11_least 20 = .ok (.iload_n 2, 1) := by decide +kernel
theorem dX11_least_21 : decode cX11_least 21 = .ok (.invokevirtual 188, 3) := by decide +kernel
theorem dX11_least_24 : decode cX11_least 24 = .ok (.ifCond .eq 5, 3) := by decide +kernel
theorem dX11_least_27 : decode cX11_least 27 = .ok (.iload_n 3, 1) := by decide +kernel
theorem dX11_least_28 : decode cX11_least 28 = .ok (.ireturn, 1) := by decide +kernel
theorem dX11_least_29 : decode cX11_least 29 = .ok (.iinc 3 1, 3) := by decide +kernel
theorem dX11_least_32 : decode cX11_least 32 = .ok (.goto (-22), 3) := by decide +kernel
theorem dX11_least_35 : decode cX11_least 35 = .ok (.bipush (-4), 2) := by decide +kernel
theorem dX11_least_37 : decode cX11_least 37 = .ok (.ireturn, 1) := by decide +kernel
theorem dX11_fewest_0 : decode cX11_fewest 0 = .ok (.aload_n 0, 1) := by decide +kernel
theorem dX11_fewest_1 : decode cX11_fewest 1 = .ok (.getfield 179, 3) := by decide +kernel
theorem dX11_fewest_4 : decode cX11_fewest 4 = .ok (.ifCond .eq 14, 3) := by decide +kernel
theorem dX11_fewest_7 : decode cX11_fewest 7 = .ok (.iload_n 1, 1) := by decide +kernel
theorem dX11_fewest_8 : decode cX11_fewest 8 = .ok (.iconst 0, 1) := by decide +kernel
theorem dX11_fewest_9 : decode cX11_fewest 9 = .ok (.sipush 1023, 3) := by decide +kernel
theorem dX11_fewest_12 : decode cX11_fewest 12 = .ok (.invokestatic 90, 3) := by decide +kernel
theorem dX11_fewest_15 : decode cX11_fewest 15 = .ok (.ifCond .ne 5, 3) := by decide +kernel
theorem dX11_fewest_18 : decode cX11_fewest 18 = .ok (.iconst (-1), 1) := by decide +kernel
theorem dX11_fewest_19 : decode cX11_fewest 19 = .ok (.ireturn, 1) := by decide +kernel
theorem dX11_fewest_20 : decode cX11_fewest 20 = .ok (.aload_n 0, 1) := by decide +kernel
theorem dX11_fewest_21 : decode cX11_fewest 21 = .ok (.iload_n 1, 1) := by decide +kernel
theorem dX11_fewest_22 : decode cX11_fewest 22 = .ok (.invokevirtual 196, 3) := by decide +kernel
theorem dX11_fewest_25 : decode cX11_fewest 25 = .ok (.istore_n 2, 1) := by decide +kernel
theorem dX11_fewest_26 : decode cX11_fewest 26 = .ok (.iload_n 2, 1) := by decide +kernel
theorem dX11_fewest_27 : decode cX11_fewest 27 = .ok (.ifCond .ge 6, 3) := by decide +kernel
theorem dX11_fewest_30 : decode cX11_fewest 30 = .ok (.bipush (-4), 2) := by decide +kernel
theorem dX11_fewest_32 : decode cX11_fewest 32 = .ok (.ireturn, 1) := by decide +kernel
theorem dX11_fewest_33 : decode cX11_fewest 33 = .ok (.aload_n 0, 1) := by decide +kernel
theorem dX11_fewest_34 : decode cX11_fewest 34 = .ok (.iload_n 2, 1) := by decide +kernel
theorem dX11_fewest_35 : decode cX11_fewest 35 = .ok (.putfield 80, 3) := by decide +kernel
theorem dX11_fewest_38 : decode cX11_fewest 38 = .ok (.iconst 0, 1) := by decide +kernel
theorem dX11_fewest_39 : decode cX11_fewest 39 = .ok (.istore_n 3, 1) := by decide +kernel
theorem dX11_fewest_40 : decode cX11_fewest 40 = .ok (.iload_n 3, 1) := by decide +kernel
theorem dX11_fewest_41 : decode cX11_fewest 41 = .ok (.iload_n 2, 1) := by decide +kernel
theorem dX11_fewest_42 : decode cX11_fewest 42 = .ok (.if_icmp .ge 21, 3) := by decide +kernel
theorem dX11_fewest_45 : decode cX11_fewest 45 = .ok (.aload_n 0, 1) := by decide +kernel
theorem dX11_fewest_46 : decode cX11_fewest 46 = .ok (.getfield 77, 3) := by decide +kernel
theorem dX11_fewest_49 : decode cX11_fewest 49 = .ok (.iload_n 3, 1) := by decide +kernel
theorem dX11_fewest_50 : decode cX11_fewest 50 = .ok (.aload_n 0, 1) := by decide +kernel
theorem dX11_fewest_51 : decode cX11_fewest 51 = .ok (.getfield 74, 3) := by decide +kernel
theorem dX11_fewest_54 : decode cX11_fewest 54 = .ok (.iload_n 3, 1) := by decide +kernel
theorem dX11_fewest_55 : decode cX11_fewest 55 = .ok (.iaload, 1) := by decide +kernel
theorem dX11_fewest_56 : decode cX11_fewest 56 = .ok (.iastore, 1) := by decide +kernel
theorem dX11_fewest_57 : decode cX11_fewest 57 = .ok (.iinc 3 1, 3) := by decide +kernel
theorem dX11_fewest_60 : decode cX11_fewest 60 = .ok (.goto (-20), 3) := by decide +kernel
theorem dX11_fewest_63 : decode cX11_fewest 63 = .ok (.iconst 0, 1) := by decide +kernel
theorem dX11_fewest_64 : decode cX11_fewest 64 = .ok (.istore_n 3, 1) := by decide +kernel
theorem dX11_fewest_65 : decode cX11_fewest 65 = .ok (.iload_n 3, 1) := by decide +kernel
theorem dX11_fewest_66 : decode cX11_fewest 66 = .ok (.bipush 16, 2) := by decide +kernel
theorem dX11_fewest_68 : decode cX11_fewest 68 = .ok (.if_icmp .ge 105, 3) := by decide +kernel
theorem dX11_fewest_71 : decode cX11_fewest 71 = .ok (.aload_n 0, 1) := by decide +kernel
theorem dX11_fewest_72 : decode cX11_fewest 72 = .ok (.getfield 84, 3) := by decide +kernel
theorem dX11_fewest_75 : decode cX11_fewest 75 = .ok (.iload_n 3, 1) := by decide +kernel
theorem dX11_fewest_76 : decode cX11_fewest 76 = .ok (.iconst (-1), 1) := by decide +kernel
theorem dX11_fewest_77 : decode cX11_fewest 77 = .ok (.iastore, 1) := by decide +kernel
theorem dX11_fewest_78 : decode cX11_fewest 78 = .ok (.iconst 0, 1) := by decide +kernel
theorem dX11_fewest_79 : decode cX11_fewest 79 = .ok (.istore 4, 2) := by decide +kernel
theorem dX11_fewest_81 : decode cX11_fewest 81 = .ok (.iconst 0, 1) := by decide +kernel
theorem dX11_fewest_82 : decode cX11_fewest 82 = .ok (.istore 5, 2) := by decide +kernel
theorem dX11_fewest_84 : decode cX11_fewest 84 = .ok (.iload 5, 2) := by decide +kernel
theorem dX11_fewest_86 : decode cX11_fewest 86 = .ok (.iload_n 2, 1) := by decide +kernel
theorem dX11_fewest_87 : decode cX11_fewest 87 = .ok (.if_icmp .gt 80, 3) := by decide +kernel
theorem dX11_fewest_90 : decode cX11_fewest 90 = .ok (.aload_n 0, 1) := by decide +kernel
theorem dX11_fewest_91 : decode cX11_fewest 91 = .ok (.iload_n 3, 1) := by decide +kernel
theorem dX11_fewest_92 : decode cX11_fewest 92 = .ok (.invokevirtual 185, 3) := by decide +kernel
theorem dX11_fewest_95 : decode cX11_fewest 95 = .ok (.ifCond .eq 72, 3) := by decide +kernel
theorem dX11_fewest_98 : decode cX11_fewest 98 = .ok (.aload_n 0, 1) := by decide +kernel
theorem dX11_fewest_99 : decode cX11_fewest 99 = .ok (.getfield 84, 3) := by decide +kernel
theorem dX11_fewest_102 : decode cX11_fewest 102 = .ok (.iload_n 3, 1) := by decide +kernel
theorem dX11_fewest_103 : decode cX11_fewest 103 = .ok (.iaload, 1) := by decide +kernel
theorem dX11_fewest_104 : decode cX11_fewest 104 = .ok (.ifCond .ge 63, 3) := by decide +kernel
theorem dX11_fewest_107 : decode cX11_fewest 107 = .ok (.aload_n 0, 1) := by decide +kernel
theorem dX11_fewest_108 : decode cX11_fewest 108 = .ok (.getfield 84, 3) := by decide +kernel
theorem dX11_fewest_111 : decode cX11_fewest 111 = .ok (.iload_n 3, 1) := by decide +kernel
theorem dX11_fewest_112 : decode cX11_fewest 112 = .ok (.iload 4, 2) := by decide +kernel
theorem dX11_fewest_114 : decode cX11_fewest 114 = .ok (.aload_n 0, 1) := by decide +kernel
theorem dX11_fewest_115 : decode cX11_fewest 115 = .ok (.getfield 71, 3) := by decide +kernel
theorem dX11_fewest_118 : decode cX11_fewest 118 = .ok (.iload_n 3, 1) := by decide +kernel
theorem dX11_fewest_119 : decode cX11_fewest 119 = .ok (.iaload, 1) := by decide +kernel
theorem dX11_fewest_120 : decode cX11_fewest 120 = .ok (.if_icmp .ne 8, 3) := by decide +kernel
theorem dX11_fewest_123 : decode cX11_fewest 123 = .ok (.iload 5, 2) := by decide +kernel
theorem dX11_fewest_125 : decode cX11_fewest 125 = .ok (.goto 4, 3) := by decide +kernel
theorem dX11_fewest_128 : decode cX11_fewest 128 = .ok (.iconst (-1), 1) := by decide +kernel
theorem dX11_fewest_129 : decode cX11_fewest 129 = .ok (.iastore, 1) := by decide +kernel
theorem dX11_fewest_130 : decode cX11_fewest 130 = .ok (.iload 5, 2) := by decide +kernel
theorem dX11_fewest_132 : decode cX11_fewest 132 = .ok (.iload_n 2, 1) := by decide +kernel
theorem dX11_fewest_133 : decode cX11_fewest 133 = .ok (.if_icmp .ge 24, 3) := by decide +kernel
theorem dX11_fewest_136 : decode cX11_fewest 136 = .ok (.aload_n 0, 1) := by decide +kernel
theorem dX11_fewest_137 : decode cX11_fewest 137 = .ok (.getfield 9, 3) := by decide +kernel
theorem dX11_fewest_140 : decode cX11_fewest 140 = .ok (.bipush 16, 2) := by decide +kernel
theorem dX11_fewest_142 : decode cX11_fewest 142 = .ok (.aload_n 0, 1) := by decide +kernel
theorem dX11_fewest_143 : decode cX11_fewest 143 = .ok (.getfield 77, 3) := by decide +kernel
theorem dX11_fewest_146 : decode cX11_fewest 146 = .ok (.iload 5, 2) := by decide +kernel
theorem dX11_fewest_148 : decode cX11_fewest 148 = .ok (.iaload, 1) := by decide +kernel
theorem dX11_fewest_149 : decode cX11_fewest 149 = .ok (.imul, 1) := by decide +kernel
theorem dX11_fewest_150 : decode cX11_fewest 150 = .ok (.iload 4, 2) := by decide +kernel
theorem dX11_fewest_152 : decode cX11_fewest 152 = .ok (.iadd, 1) := by decide +kernel
theorem dX11_fewest_153 : decode cX11_fewest 153 = .ok (.iaload, 1) := by decide +kernel
theorem dX11_fewest_154 : decode cX11_fewest 154 = .ok (.goto 5, 3) := by decide +kernel
theorem dX11_fewest_157 : decode cX11_fewest 157 = .ok (.iload 4, 2) := by decide +kernel
theorem dX11_fewest_159 : decode cX11_fewest 159 = .ok (.istore 4, 2) := by decide +kernel
theorem dX11_fewest_161 : decode cX11_fewest 161 = .ok (.iinc 5 1, 3) := by decide +kernel
theorem dX11_fewest_164 : decode cX11_fewest 164 = .ok (.goto (-80), 3) := by decide +kernel
theorem dX11_fewest_167 : decode cX11_fewest 167 = .ok (.iinc 3 1, 3) := by decide +kernel
theorem dX11_fewest_170 : decode cX11_fewest 170 = .ok (.goto (-105), 3) := by decide +kernel
theorem dX11_fewest_173 : decode cX11_fewest 173 = .ok (.iload_n 2, 1) := by decide +kernel
theorem dX11_fewest_174 : decode cX11_fewest 174 = .ok (.ireturn, 1) := by decide +kernel
theorem dX11_order_0 : decode cX11_order 0 = .ok (.iload_n 1, 1) := by decide +kernel
theorem dX11_order_1 : decode cX11_order 1 = .ok (.ifCond .lt 20, 3) := by decide +kernel
theorem dX11_order_4 : decode cX11_order 4 = .ok (.iload_n 1, 1) := by decide +kernel
theorem dX11_order_5 : decode cX11_order 5 = .ok (.aload_n 0, 1) := by decide +kernel
theorem dX11_order_6 : decode cX11_order 6 = .ok (.getfield 80, 3) := by decide +kernel
theorem dX11_order_9 : decode cX11_order 9 = .ok (.if_icmp .ge 12, 3) := by decide +kernel
theorem dX11_order_12 : decode cX11_order 12 = .ok (.aload_n 0, 1) := by decide +kernel
theorem dX11_order_13 : decode cX11_order 13 = .ok (.getfield 77, 3) := by decide +kernel
theorem dX11_order_16 : decode cX11_order 16 = .ok (.iload_n 1, 1) := by decide +kernel
theorem dX11_order_17 : decode cX11_order 17 = .ok (.iaload, 1) := by decide +kernel
theorem dX11_order_18 : decode cX11_order 18 = .ok (.goto 4, 3) := by decide +kernel
theorem dX11_order_21 : decode cX11_order 21 = .ok (.iconst (-1), 1) := by decide +kernel
theorem dX11_order_22 : decode cX11_order 22 = .ok (.ireturn, 1) := by decide +kernel
theorem dX11_place_0 : decode cX11_place 0 = .ok (.iload_n 1, 1) := by decide +kernel
theorem dX11_place_1 : decode cX11_place 1 = .ok (.ifCond .lt 25, 3) := by decide +kernel
theorem dX11_place_4 : decode cX11_place 4 = .ok (.iload_n 1, 1) := by decide +kernel
theorem dX11_place_5 : decode cX11_place 5 = .ok (.bipush 16, 2) := by decide +kernel
theorem dX11_place_7 : decode cX11_place 7 = .ok (.if_icmp .ge 19, 3) := by decide +kernel
theorem dX11_place_10 : decode cX11_place 10 = .ok (.aload_n 0, 1) := by decide +kernel
theorem dX11_place_11 : decode cX11_place 11 = .ok (.getfield 80, 3) := by decide +kernel
theorem dX11_place_14 : decode cX11_place 14 = .ok (.ifCond .lt 12, 3) := by decide +kernel
theorem dX11_place_17 : decode cX11_place 17 = .ok (.aload_n 0, 1) := by decide +kernel
theorem dX11_place_18 : decode cX11_place 18 = .ok (.getfield 84, 3) := by decide +kernel
theorem dX11_place_21 : decode cX11_place 21 = .ok (.iload_n 1, 1) := by decide +kernel
theorem dX11_place_22 : decode cX11_place 22 = .ok (.iaload, 1) := by decide +kernel
theorem dX11_place_23 : decode cX11_place 23 = .ok (.goto 4, 3) := by decide +kernel
theorem dX11_place_26 : decode cX11_place 26 = .ok (.iconst (-1), 1) := by decide +kernel
theorem dX11_place_27 : decode cX11_place 27 = .ok (.ireturn, 1) := by decide +kernel
theorem dX11_why_0 : decode cX11_why 0 = .ok (.aload_n 0, 1) := by decide +kernel
theorem dX11_why_1 : decode cX11_why 1 = .ok (.getfield 179, 3) := by decide +kernel
theorem dX11_why_4 : decode cX11_why 4 = .ok (.ifCond .eq 14, 3) := by decide +kernel
theorem dX11_why_7 : decode cX11_why 7 = .ok (.iload_n 1, 1) := by decide +kernel
theorem dX11_why_8 : decode cX11_why 8 = .ok (.iconst 0, 1) := by decide +kernel
theorem dX11_why_9 : decode cX11_why 9 = .ok (.sipush 1023, 3) := by decide +kernel
theorem dX11_why_12 : decode cX11_why 12 = .ok (.invokestatic 90, 3) := by decide +kernel
theorem dX11_why_15 : decode cX11_why 15 = .ok (.ifCond .ne 5, 3) := by decide +kernel
theorem dX11_why_18 : decode cX11_why 18 = .ok (.iconst (-1), 1) := by decide +kernel
theorem dX11_why_19 : decode cX11_why 19 = .ok (.ireturn, 1) := by decide +kernel
theorem dX11_why_20 : decode cX11_why 20 = .ok (.aload_n 0, 1) := by decide +kernel
theorem dX11_why_21 : decode cX11_why 21 = .ok (.iload_n 1, 1) := by decide +kernel
theorem dX11_why_22 : decode cX11_why 22 = .ok (.invokevirtual 196, 3) := by decide +kernel
theorem dX11_why_25 : decode cX11_why 25 = .ok (.ifCond .lt 5, 3) := by decide +kernel
theorem dX11_why_28 : decode cX11_why 28 = .ok (.iconst 0, 1) := by decide +kernel
theorem dX11_why_29 : decode cX11_why 29 = .ok (.ireturn, 1) := by decide +kernel
theorem dX11_why_30 : decode cX11_why 30 = .ok (.iconst 1, 1) := by decide +kernel
theorem dX11_why_31 : decode cX11_why 31 = .ok (.istore_n 2, 1) := by decide +kernel
theorem dX11_why_32 : decode cX11_why 32 = .ok (.iconst 1, 1) := by decide +kernel
theorem dX11_why_33 : decode cX11_why 33 = .ok (.istore_n 3, 1) := by decide +kernel
theorem dX11_why_34 : decode cX11_why 34 = .ok (.iconst 0, 1) := by decide +kernel
theorem dX11_why_35 : decode cX11_why 35 = .ok (.istore 4, 2) := by decide +kernel
theorem dX11_why_37 : decode cX11_why 37 = .ok (.iload 4, 2) := by decide +kernel
theorem dX11_why_39 : decode cX11_why 39 = .ok (.iconst 5, 1) := by decide +kernel
theorem dX11_why_40 : decode cX11_why 40 = .ok (.if_icmp .ge 95, 3) := by decide +kernel
theorem dX11_why_43 : decode cX11_why 43 = .ok (.iconst 0, 1) := by decide +kernel
theorem dX11_why_44 : decode cX11_why 44 = .ok (.istore 5, 2) := by decide +kernel
theorem dX11_why_46 : decode cX11_why 46 = .ok (.iconst 0, 1) := by decide +kernel
theorem dX11_why_47 : decode cX11_why 47 = .ok (.istore 6, 2) := by decide +kernel
theorem dX11_why_49 : decode cX11_why 49 = .ok (.iload 6, 2) := by decide +kernel
theorem dX11_why_51 : decode cX11_why 51 = .ok (.bipush 16, 2) := by decide +kernel
theorem dX11_why_53 : decode cX11_why 53 = .ok (.if_icmp .ge 69, 3) := by decide +kernel
theorem dX11_why_56 : decode cX11_why 56 = .ok (.iconst 0, 1) := by decide +kernel
theorem dX11_why_57 : decode cX11_why 57 = .ok (.istore 7, 2) := by decide +kernel
theorem dX11_why_59 : decode cX11_why 59 = .ok (.iload 7, 2) := by decide +kernel
theorem dX11_why_61 : decode cX11_why 61 = .ok (.bipush 10, 2) := by decide +kernel
theorem dX11_why_63 : decode cX11_why 63 = .ok (.if_icmp .ge 53, 3) := by decide +kernel
theorem dX11_why_66 : decode cX11_why 66 = .ok (.iload_n 3, 1) := by decide +kernel
theorem dX11_why_67 : decode cX11_why 67 = .ok (.iload 6, 2) := by decide +kernel
theorem dX11_why_69 : decode cX11_why 69 = .ok (.ishr, 1) := by decide +kernel
theorem dX11_why_70 : decode cX11_why 70 = .ok (.iconst 1, 1) := by decide +kernel
theorem dX11_why_71 : decode cX11_why 71 = .ok (.iand, 1) := by decide +kernel
theorem dX11_why_72 : decode cX11_why 72 = .ok (.iconst 1, 1) := by decide +kernel
theorem dX11_why_73 : decode cX11_why 73 = .ok (.if_icmp .ne 43, 3) := by decide +kernel
theorem dX11_why_76 : decode cX11_why 76 = .ok (.iload 5, 2) := by decide +kernel
theorem dX11_why_78 : decode cX11_why 78 = .ok (.iload_n 1, 1) := by decide +kernel
theorem dX11_why_79 : decode cX11_why 79 = .ok (.iload 7, 2) := by decide +kernel
theorem dX11_why_81 : decode cX11_why 81 = .ok (.ishr, 1) := by decide +kernel
theorem dX11_why_82 : decode cX11_why 82 = .ok (.iconst 1, 1) := by decide +kernel
theorem dX11_why_83 : decode cX11_why 83 = .ok (.iand, 1) := by decide +kernel
theorem dX11_why_84 : decode cX11_why 84 = .ok (.iconst 1, 1) := by decide +kernel
theorem dX11_why_85 : decode cX11_why 85 = .ok (.if_icmp .ne 21, 3) := by decide +kernel
theorem dX11_why_88 : decode cX11_why 88 = .ok (.iconst 1, 1) := by decide +kernel
theorem dX11_why_89 : decode cX11_why 89 = .ok (.aload_n 0, 1) := by decide +kernel
theorem dX11_why_90 : decode cX11_why 90 = .ok (.getfield 9, 3) := by decide +kernel
theorem dX11_why_93 : decode cX11_why 93 = .ok (.bipush 16, 2) := by decide +kernel
theorem dX11_why_95 : decode cX11_why 95 = .ok (.iload 7, 2) := by decide +kernel
theorem dX11_why_97 : decode cX11_why 97 = .ok (.imul, 1) := by decide +kernel
theorem dX11_why_98 : decode cX11_why 98 = .ok (.iload 6, 2) := by decide +kernel
theorem dX11_why_100 : decode cX11_why 100 = .ok (.iadd, 1) := by decide +kernel
theorem dX11_why_101 : decode cX11_why 101 = .ok (.iaload, 1) := by decide +kernel
theorem dX11_why_102 : decode cX11_why 102 = .ok (.ishl, 1) := by decide +kernel
theorem dX11_why_103 : decode cX11_why 103 = .ok (.goto 4, 3) := by decide +kernel
theorem dX11_why_106 : decode cX11_why 106 = .ok (.iconst 0, 1) := by decide +kernel
theorem dX11_why_107 : decode cX11_why 107 = .ok (.ior, 1) := by decide +kernel
theorem dX11_why_108 : decode cX11_why 108 = .ok (.istore 5, 2) := by decide +kernel
theorem dX11_why_110 : decode cX11_why 110 = .ok (.iinc 7 1, 3) := by decide +kernel
theorem dX11_why_113 : decode cX11_why 113 = .ok (.goto (-54), 3) := by decide +kernel
theorem dX11_why_116 : decode cX11_why 116 = .ok (.iinc 6 1, 3) := by decide +kernel
theorem dX11_why_119 : decode cX11_why 119 = .ok (.goto (-70), 3) := by decide +kernel
theorem dX11_why_122 : decode cX11_why 122 = .ok (.iload 5, 2) := by decide +kernel
theorem dX11_why_124 : decode cX11_why 124 = .ok (.istore_n 3, 1) := by decide +kernel
theorem dX11_why_125 : decode cX11_why 125 = .ok (.iload_n 2, 1) := by decide +kernel
theorem dX11_why_126 : decode cX11_why 126 = .ok (.iload_n 3, 1) := by decide +kernel
theorem dX11_why_127 : decode cX11_why 127 = .ok (.ior, 1) := by decide +kernel
theorem dX11_why_128 : decode cX11_why 128 = .ok (.istore_n 2, 1) := by decide +kernel
theorem dX11_why_129 : decode cX11_why 129 = .ok (.iinc 4 1, 3) := by decide +kernel
theorem dX11_why_132 : decode cX11_why 132 = .ok (.goto (-95), 3) := by decide +kernel
theorem dX11_why_135 : decode cX11_why 135 = .ok (.aload_n 0, 1) := by decide +kernel
theorem dX11_why_136 : decode cX11_why 136 = .ok (.invokevirtual 192, 3) := by decide +kernel
theorem dX11_why_139 : decode cX11_why 139 = .ok (.iload_n 2, 1) := by decide +kernel
theorem dX11_why_140 : decode cX11_why 140 = .ok (.iconst (-1), 1) := by decide +kernel
theorem dX11_why_141 : decode cX11_why 141 = .ok (.ixor, 1) := by decide +kernel
theorem dX11_why_142 : decode cX11_why 142 = .ok (.iand, 1) := by decide +kernel
theorem dX11_why_143 : decode cX11_why 143 = .ok (.istore 4, 2) := by decide +kernel
theorem dX11_why_145 : decode cX11_why 145 = .ok (.iload 4, 2) := by decide +kernel
theorem dX11_why_147 : decode cX11_why 147 = .ok (.ifCond .eq 8, 3) := by decide +kernel
theorem dX11_why_150 : decode cX11_why 150 = .ok (.iload 4, 2) := by decide +kernel
theorem dX11_why_152 : decode cX11_why 152 = .ok (.goto 10, 3) := by decide +kernel
theorem dX11_why_155 : decode cX11_why 155 = .ok (.aload_n 0, 1) := by decide +kernel
theorem dX11_why_156 : decode cX11_why 156 = .ok (.invokevirtual 192, 3) := by decide +kernel
theorem dX11_why_159 : decode cX11_why 159 = .ok (.bipush (-2), 2) := by decide +kernel
theorem dX11_why_161 : decode cX11_why 161 = .ok (.iand, 1) := by decide +kernel
theorem dX11_why_162 : decode cX11_why 162 = .ok (.ireturn, 1) := by decide +kernel
theorem dX11_takeRow_0 : decode cX11_takeRow 0 = .ok (.aload_n 0, 1) := by decide +kernel
theorem dX11_takeRow_1 : decode cX11_takeRow 1 = .ok (.iconst 0, 1) := by decide +kernel
theorem dX11_takeRow_2 : decode cX11_takeRow 2 = .ok (.putfield 199, 3) := by decide +kernel
theorem dX11_takeRow_5 : decode cX11_takeRow 5 = .ok (.iload_n 1, 1) := by decide +kernel
theorem dX11_takeRow_6 : decode cX11_takeRow 6 = .ok (.ifCond .lt 9, 3) := by decide +kernel
theorem dX11_takeRow_9 : decode cX11_takeRow 9 = .ok (.iload_n 1, 1) := by decide +kernel
theorem dX11_takeRow_10 : decode cX11_takeRow 10 = .ok (.ldc 202, 2) := by decide +kernel
theorem dX11_takeRow_12 : decode cX11_takeRow 12 = .ok (.if_icmp .lt 5, 3) := by decide +kernel
theorem dX11_takeRow_15 : decode cX11_takeRow 15 = .ok (.iconst 0, 1) := by decide +kernel
theorem dX11_takeRow_16 : decode cX11_takeRow 16 = .ok (.ireturn, 1) := by decide +kernel
theorem dX11_takeRow_17 : decode cX11_takeRow 17 = .ok (.iload_n 1, 1) := by decide +kernel
theorem dX11_takeRow_18 : decode cX11_takeRow 18 = .ok (.istore_n 2, 1) := by decide +kernel
theorem dX11_takeRow_19 : decode cX11_takeRow 19 = .ok (.iload_n 2, 1) := by decide +kernel
theorem dX11_takeRow_20 : decode cX11_takeRow 20 = .ok (.ifCond .le 47, 3) := by decide +kernel
theorem dX11_takeRow_23 : decode cX11_takeRow 23 = .ok (.aload_n 0, 1) := by decide +kernel
theorem dX11_takeRow_24 : decode cX11_takeRow 24 = .ok (.dup, 1) := by decide +kernel
theorem dX11_takeRow_25 : decode cX11_takeRow 25 = .ok (.getfield 199, 3) := by decide +kernel
theorem dX11_takeRow_28 : decode cX11_takeRow 28 = .ok (.iconst 1, 1) := by decide +kernel
theorem dX11_takeRow_29 : decode cX11_takeRow 29 = .ok (.iadd, 1) := by decide +kernel
theorem dX11_takeRow_30 : decode cX11_takeRow 30 = .ok (.putfield 199, 3) := by decide +kernel
theorem dX11_takeRow_33 : decode cX11_takeRow 33 = .ok (.iload_n 2, 1) := by decide +kernel
theorem dX11_takeRow_34 : decode cX11_takeRow 34 = .ok (.bipush 11, 2) := by decide +kernel
theorem dX11_takeRow_36 : decode cX11_takeRow 36 = .ok (.irem, 1) := by decide +kernel
theorem dX11_takeRow_37 : decode cX11_takeRow 37 = .ok (.ifCond .ne 5, 3) := by decide +kernel
theorem dX11_takeRow_40 : decode cX11_takeRow 40 = .ok (.iconst 0, 1) := by decide +kernel
theorem dX11_takeRow_41 : decode cX11_takeRow 41 = .ok (.ireturn, 1) := by decide +kernel
theorem dX11_takeRow_42 : decode cX11_takeRow 42 = .ok (.aload_n 0, 1) := by decide +kernel
theorem dX11_takeRow_43 : decode cX11_takeRow 43 = .ok (.getfield 87, 3) := by decide +kernel
theorem dX11_takeRow_46 : decode cX11_takeRow 46 = .ok (.iconst 5, 1) := by decide +kernel
theorem dX11_takeRow_47 : decode cX11_takeRow 47 = .ok (.aload_n 0, 1) := by decide +kernel
theorem dX11_takeRow_48 : decode cX11_takeRow 48 = .ok (.getfield 199, 3) := by decide +kernel
theorem dX11_takeRow_51 : decode cX11_takeRow 51 = .ok (.isub, 1) := by decide +kernel
theorem dX11_takeRow_52 : decode cX11_takeRow 52 = .ok (.iload_n 2, 1) := by decide +kernel
theorem dX11_takeRow_53 : decode cX11_takeRow 53 = .ok (.bipush 11, 2) := by decide +kernel
theorem dX11_takeRow_55 : decode cX11_takeRow 55 = .ok (.irem, 1) := by decide +kernel
theorem dX11_takeRow_56 : decode cX11_takeRow 56 = .ok (.iconst 1, 1) := by decide +kernel
theorem dX11_takeRow_57 : decode cX11_takeRow 57 = .ok (.isub, 1) := by decide +kernel
theorem dX11_takeRow_58 : decode cX11_takeRow 58 = .ok (.iastore, 1) := by decide +kernel
theorem dX11_takeRow_59 : decode cX11_takeRow 59 = .ok (.iload_n 2, 1) := by decide +kernel
theorem dX11_takeRow_60 : decode cX11_takeRow 60 = .ok (.bipush 11, 2) := by decide +kernel
theorem dX11_takeRow_62 : decode cX11_takeRow 62 = .ok (.idiv, 1) := by decide +kernel
theorem dX11_takeRow_63 : decode cX11_takeRow 63 = .ok (.istore_n 2, 1) := by decide +kernel
theorem dX11_takeRow_64 : decode cX11_takeRow 64 = .ok (.goto (-45), 3) := by decide +kernel
theorem dX11_takeRow_67 : decode cX11_takeRow 67 = .ok (.iconst 1, 1) := by decide +kernel
theorem dX11_takeRow_68 : decode cX11_takeRow 68 = .ok (.ireturn, 1) := by decide +kernel
theorem dX11_madeBy_0 : decode cX11_madeBy 0 = .ok (.iconst 0, 1) := by decide +kernel
theorem dX11_madeBy_1 : decode cX11_madeBy 1 = .ok (.istore_n 2, 1) := by decide +kernel
theorem dX11_madeBy_2 : decode cX11_madeBy 2 = .ok (.iconst 0, 1) := by decide +kernel
theorem dX11_madeBy_3 : decode cX11_madeBy 3 = .ok (.istore_n 3, 1) := by decide +kernel
theorem dX11_madeBy_4 : decode cX11_madeBy 4 = .ok (.iload_n 3, 1) := by decide +kernel
theorem dX11_madeBy_5 : decode cX11_madeBy 5 = .ok (.iload_n 1, 1) := by decide +kernel
theorem dX11_madeBy_6 : decode cX11_madeBy 6 = .ok (.if_icmp .ge 33, 3) := by decide +kernel
theorem dX11_madeBy_9 : decode cX11_madeBy 9 = .ok (.aload_n 0, 1) := by decide +kernel
theorem dX11_madeBy_10 : decode cX11_madeBy 10 = .ok (.getfield 9, 3) := by decide +kernel
theorem dX11_madeBy_13 : decode cX11_madeBy 13 = .ok (.bipush 16, 2) := by decide +kernel
theorem dX11_madeBy_15 : decode cX11_madeBy 15 = .ok (.aload_n 0, 1) := by decide +kernel
theorem dX11_madeBy_16 : decode cX11_madeBy 16 = .ok (.getfield 87, 3) := by decide +kernel
theorem dX11_madeBy_19 : decode cX11_madeBy 19 = .ok (.iconst 5, 1) := by decide +kernel
theorem dX11_madeBy_20 : decode cX11_madeBy 20 = .ok (.aload_n 0, 1) := by decide +kernel
theorem dX11_madeBy_21 : decode cX11_madeBy 21 = .ok (.getfield 199, 3) := by decide +kernel
theorem dX11_madeBy_24 : decode cX11_madeBy 24 = .ok (.isub, 1) := by decide +kernel
theorem dX11_madeBy_25 : decode cX11_madeBy 25 = .ok (.iload_n 3, 1) := by decide +kernel
theorem dX11_madeBy_26 : decode cX11_madeBy 26 = .ok (.iadd, 1) := by decide +kernel
theorem dX11_madeBy_27 : decode cX11_madeBy 27 = .ok (.iaload, 1) := by decide +kernel
theorem dX11_madeBy_28 : decode cX11_madeBy 28 = .ok (.imul, 1) := by decide +kernel
theorem dX11_madeBy_29 : decode cX11_madeBy 29 = .ok (.iload_n 2, 1) := by decide +kernel
theorem dX11_madeBy_30 : decode cX11_madeBy 30 = .ok (.iadd, 1) := by decide +kernel
theorem dX11_madeBy_31 : decode cX11_madeBy 31 = .ok (.iaload, 1) := by decide +kernel
theorem dX11_madeBy_32 : decode cX11_madeBy 32 = .ok (.istore_n 2, 1) := by decide +kernel
theorem dX11_madeBy_33 : decode cX11_madeBy 33 = .ok (.iinc 3 1, 3) := by decide +kernel
theorem dX11_madeBy_36 : decode cX11_madeBy 36 = .ok (.goto (-32), 3) := by decide +kernel
theorem dX11_madeBy_39 : decode cX11_madeBy 39 = .ok (.iload_n 2, 1) := by decide +kernel
theorem dX11_madeBy_40 : decode cX11_madeBy 40 = .ok (.ireturn, 1) := by decide +kernel
theorem dX11_coloursMade_0 : decode cX11_coloursMade 0 = .ok (.iconst 0, 1) := by decide +kernel
theorem dX11_coloursMade_1 : decode cX11_coloursMade 1 = .ok (.istore_n 1, 1) := by decide +kernel
theorem dX11_coloursMade_2 : decode cX11_coloursMade 2 = .ok (.iconst 0, 1) := by decide +kernel
theorem dX11_coloursMade_3 : decode cX11_coloursMade 3 = .ok (.istore_n 2, 1) := by decide +kernel
theorem dX11_coloursMade_4 : decode cX11_coloursMade 4 = .ok (.iload_n 2, 1) := by decide +kernel
theorem dX11_coloursMade_5 : decode cX11_coloursMade 5 = .ok (.aload_n 0, 1) := by decide +kernel
theorem dX11_coloursMade_6 : decode cX11_coloursMade 6 = .ok (.getfield 199, 3) := by decide +kernel
theorem dX11_coloursMade_9 : decode cX11_coloursMade 9 = .ok (.if_icmp .gt 19, 3) := by decide +kernel
theorem dX11_coloursMade_12 : decode cX11_coloursMade 12 = .ok (.iload_n 1, 1) := by decide +kernel
theorem dX11_coloursMade_13 : decode cX11_coloursMade 13 = .ok (.iconst 1, 1) := by decide +kernel
theorem dX11_coloursMade_14 : decode cX11_coloursMade 14 = .ok (.aload_n 0, 1) := by decide +kernel
theorem dX11_coloursMade_15 : decode cX11_coloursMade 15 = .ok (.iload_n 2, 1) := by decide +kernel
theorem dX11_coloursMade_16 : decode cX11_coloursMade 16 = .ok (.invokevirtual 203, 3) := by decide +kernel
theorem dX11_coloursMade_19 : decode cX11_coloursMade 19 = .ok (.ishl, 1) := by decide +kernel
theorem dX11_coloursMade_20 : decode cX11_coloursMade 20 = .ok (.ior, 1) := by decide +kernel
theorem dX11_coloursMade_21 : decode cX11_coloursMade 21 = .ok (.istore_n 1, 1) := by decide +kernel
theorem dX11_coloursMade_22 : decode cX11_coloursMade 22 = .ok (.iinc 2 1, 3) := by decide +kernel
theorem dX11_coloursMade_25 : decode cX11_coloursMade 25 = .ok (.goto (-21), 3) := by decide +kernel
theorem dX11_coloursMade_28 : decode cX11_coloursMade 28 = .ok (.iload_n 1, 1) := by decide +kernel
theorem dX11_coloursMade_29 : decode cX11_coloursMade 29 = .ok (.ireturn, 1) := by decide +kernel
theorem dX11_alike_0 : decode cX11_alike 0 = .ok (.iload_n 3, 1) := by decide +kernel
theorem dX11_alike_1 : decode cX11_alike 1 = .ok (.iconst 0, 1) := by decide +kernel
theorem dX11_alike_2 : decode cX11_alike 2 = .ok (.ldc 206, 2) := by decide +kernel
theorem dX11_alike_4 : decode cX11_alike 4 = .ok (.invokestatic 90, 3) := by decide +kernel
theorem dX11_alike_7 : decode cX11_alike 7 = .ok (.ifCond .eq 11, 3) := by decide +kernel
theorem dX11_alike_10 : decode cX11_alike 10 = .ok (.aload_n 0, 1) := by decide +kernel
theorem dX11_alike_11 : decode cX11_alike 11 = .ok (.iload_n 1, 1) := by decide +kernel
theorem dX11_alike_12 : decode cX11_alike 12 = .ok (.invokevirtual 207, 3) := by decide +kernel
theorem dX11_alike_15 : decode cX11_alike 15 = .ok (.ifCond .ne 5, 3) := by decide +kernel
theorem dX11_alike_18 : decode cX11_alike 18 = .ok (.iconst (-1), 1) := by decide +kernel
theorem dX11_alike_19 : decode cX11_alike 19 = .ok (.ireturn, 1) := by decide +kernel
theorem dX11_alike_20 : decode cX11_alike 20 = .ok (.aload_n 0, 1) := by decide +kernel
theorem dX11_alike_21 : decode cX11_alike 21 = .ok (.invokevirtual 210, 3) := by decide +kernel
theorem dX11_alike_24 : decode cX11_alike 24 = .ok (.istore 4, 2) := by decide +kernel
theorem dX11_alike_26 : decode cX11_alike 26 = .ok (.aload_n 0, 1) := by decide +kernel
theorem dX11_alike_27 : decode cX11_alike 27 = .ok (.iload_n 2, 1) := by decide +kernel
theorem dX11_alike_28 : decode cX11_alike 28 = .ok (.invokevirtual 207, 3) := by decide +kernel
theorem dX11_alike_31 : decode cX11_alike 31 = .ok (.ifCond .ne 5, 3) := by decide +kernel
theorem dX11_alike_34 : decode cX11_alike 34 = .ok (.iconst (-1), 1) := by decide +kernel
theorem dX11_alike_35 : decode cX11_alike 35 = .ok (.ireturn, 1) := by decide +kernel
theorem dX11_alike_36 : decode cX11_alike 36 = .ok (.iload_n 3, 1) := by decide +kernel
theorem dX11_alike_37 : decode cX11_alike 37 = .ok (.iload 4, 2) := by decide +kernel
theorem dX11_alike_39 : decode cX11_alike 39 = .ok (.aload_n 0, 1) := by decide +kernel
theorem dX11_alike_40 : decode cX11_alike 40 = .ok (.invokevirtual 210, 3) := by decide +kernel
theorem dX11_alike_43 : decode cX11_alike 43 = .ok (.iand, 1) := by decide +kernel
theorem dX11_alike_44 : decode cX11_alike 44 = .ok (.iconst (-1), 1) := by decide +kernel
theorem dX11_alike_45 : decode cX11_alike 45 = .ok (.ixor, 1) := by decide +kernel
theorem dX11_alike_46 : decode cX11_alike 46 = .ok (.iand, 1) := by decide +kernel
theorem dX11_alike_47 : decode cX11_alike 47 = .ok (.ifCond .ne 7, 3) := by decide +kernel
theorem dX11_alike_50 : decode cX11_alike 50 = .ok (.iconst 1, 1) := by decide +kernel
theorem dX11_alike_51 : decode cX11_alike 51 = .ok (.goto 4, 3) := by decide +kernel
theorem dX11_alike_54 : decode cX11_alike 54 = .ok (.iconst 0, 1) := by decide +kernel
theorem dX11_alike_55 : decode cX11_alike 55 = .ok (.ireturn, 1) := by decide +kernel
theorem dX11_made_0 : decode cX11_made 0 = .ok (.aload_n 0, 1) := by decide +kernel
theorem dX11_made_1 : decode cX11_made 1 = .ok (.iload_n 1, 1) := by decide +kernel
theorem dX11_made_2 : decode cX11_made 2 = .ok (.invokevirtual 207, 3) := by decide +kernel
theorem dX11_made_5 : decode cX11_made 5 = .ok (.ifCond .eq 23, 3) := by decide +kernel
theorem dX11_made_8 : decode cX11_made 8 = .ok (.iload_n 2, 1) := by decide +kernel
theorem dX11_made_9 : decode cX11_made 9 = .ok (.iconst 0, 1) := by decide +kernel
theorem dX11_made_10 : decode cX11_made 10 = .ok (.aload_n 0, 1) := by decide +kernel
theorem dX11_made_11 : decode cX11_made 11 = .ok (.getfield 199, 3) := by decide +kernel
theorem dX11_made_14 : decode cX11_made 14 = .ok (.invokestatic 90, 3) := by decide +kernel
theorem dX11_made_17 : decode cX11_made 17 = .ok (.ifCond .eq 11, 3) := by decide +kernel
theorem dX11_made_20 : decode cX11_made 20 = .ok (.aload_n 0, 1) := by decide +kernel
theorem dX11_made_21 : decode cX11_made 21 = .ok (.iload_n 2, 1) := by decide +kernel
theorem dX11_made_22 : decode cX11_made 22 = .ok (.invokevirtual 203, 3) := by decide +kernel
theorem dX11_made_25 : decode cX11_made 25 = .ok (.goto 4, 3) := by decide +kernel
theorem dX11_made_28 : decode cX11_made 28 = .ok (.iconst (-1), 1) := by decide +kernel
theorem dX11_made_29 : decode cX11_made 29 = .ok (.ireturn, 1) := by decide +kernel
theorem dX11_goodOf_0 : decode cX11_goodOf 0 = .ok (.iload_n 0, 1) := by decide +kernel
theorem dX11_goodOf_1 : decode cX11_goodOf 1 = .ok (.istore_n 3, 1) := by decide +kernel
theorem dX11_goodOf_2 : decode cX11_goodOf 2 = .ok (.iconst 0, 1) := by decide +kernel
theorem dX11_goodOf_3 : decode cX11_goodOf 3 = .ok (.istore 4, 2) := by decide +kernel
theorem dX11_goodOf_5 : decode cX11_goodOf 5 = .ok (.iload 4, 2) := by decide +kernel
theorem dX11_goodOf_7 : decode cX11_goodOf 7 = .ok (.iload_n 1, 1) := by decide +kernel
theorem dX11_goodOf_8 : decode cX11_goodOf 8 = .ok (.if_icmp .ge 21, 3) := by decide +kernel
theorem dX11_goodOf_11 : decode cX11_goodOf 11 = .ok (.iload_n 3, 1) := by decide +kernel
theorem dX11_goodOf_12 : decode cX11_goodOf 12 = .ok (.sipush 1000, 3) := by decide +kernel
theorem dX11_goodOf_15 : decode cX11_goodOf 15 = .ok (.iload_n 2, 1) := by decide +kernel
theorem dX11_goodOf_16 : decode cX11_goodOf 16 = .ok (.isub, 1) := by decide +kernel
theorem dX11_goodOf_17 : decode cX11_goodOf 17 = .ok (.imul, 1) := by decide +kernel
theorem dX11_goodOf_18 : decode cX11_goodOf 18 = .ok (.sipush 1000, 3) := by decide +kernel
theorem dX11_goodOf_21 : decode cX11_goodOf 21 = .ok (.idiv, 1) := by decide +kernel
theorem dX11_goodOf_22 : decode cX11_goodOf 22 = .ok (.istore_n 3, 1) := by decide +kernel
theorem dX11_goodOf_23 : decode cX11_goodOf 23 = .ok (.iinc 4 1, 3) := by decide +kernel
theorem dX11_goodOf_26 : decode cX11_goodOf 26 = .ok (.goto (-21), 3) := by decide +kernel
theorem dX11_goodOf_29 : decode cX11_goodOf 29 = .ok (.iload_n 3, 1) := by decide +kernel
theorem dX11_goodOf_30 : decode cX11_goodOf 30 = .ok (.ireturn, 1) := by decide +kernel
theorem dX11_begin_0 : decode cX11_begin 0 = .ok (.iload_n 1, 1) := by decide +kernel
theorem dX11_begin_1 : decode cX11_begin 1 = .ok (.iconst 0, 1) := by decide +kernel
theorem dX11_begin_2 : decode cX11_begin 2 = .ok (.bipush 20, 2) := by decide +kernel
theorem dX11_begin_4 : decode cX11_begin 4 = .ok (.invokestatic 90, 3) := by decide +kernel
theorem dX11_begin_7 : decode cX11_begin 7 = .ok (.ifCond .eq 24, 3) := by decide +kernel
theorem dX11_begin_10 : decode cX11_begin 10 = .ok (.iload_n 2, 1) := by decide +kernel
theorem dX11_begin_11 : decode cX11_begin 11 = .ok (.iconst 0, 1) := by decide +kernel
theorem dX11_begin_12 : decode cX11_begin 12 = .ok (.sipush 999, 3) := by decide +kernel
theorem dX11_begin_15 : decode cX11_begin 15 = .ok (.invokestatic 90, 3) := by decide +kernel
theorem dX11_begin_18 : decode cX11_begin 18 = .ok (.ifCond .eq 13, 3) := by decide +kernel
theorem dX11_begin_21 : decode cX11_begin 21 = .ok (.iload_n 3, 1) := by decide +kernel
theorem dX11_begin_22 : decode cX11_begin 22 = .ok (.iconst 1, 1) := by decide +kernel
theorem dX11_begin_23 : decode cX11_begin 23 = .ok (.bipush 100, 2) := by decide +kernel
theorem dX11_begin_25 : decode cX11_begin 25 = .ok (.invokestatic 90, 3) := by decide +kernel
theorem dX11_begin_28 : decode cX11_begin 28 = .ok (.ifCond .ne 5, 3) := by decide +kernel
theorem dX11_begin_31 : decode cX11_begin 31 = .ok (.iconst (-1), 1) := by decide +kernel
theorem dX11_begin_32 : decode cX11_begin 32 = .ok (.ireturn, 1) := by decide +kernel
theorem dX11_begin_33 : decode cX11_begin 33 = .ok (.iconst 1, 1) := by decide +kernel
theorem dX11_begin_34 : decode cX11_begin 34 = .ok (.istore 4, 2) := by decide +kernel
theorem dX11_begin_36 : decode cX11_begin 36 = .ok (.ldc 213, 2) := by decide +kernel
theorem dX11_begin_38 : decode cX11_begin 38 = .ok (.istore 5, 2) := by decide +kernel
theorem dX11_begin_40 : decode cX11_begin 40 = .ok (.iload 4, 2) := by decide +kernel
theorem dX11_begin_42 : decode cX11_begin 42 = .ok (.iload 5, 2) := by decide +kernel
theorem dX11_begin_44 : decode cX11_begin 44 = .ok (.if_icmp .ge 39, 3) := by decide +kernel
theorem dX11_begin_47 : decode cX11_begin 47 = .ok (.iload 4, 2) := by decide +kernel
theorem dX11_begin_49 : decode cX11_begin 49 = .ok (.iload 5, 2) := by decide +kernel
theorem dX11_begin_51 : decode cX11_begin 51 = .ok (.iadd, 1) := by decide +kernel
theorem dX11_begin_52 : decode cX11_begin 52 = .ok (.iconst 2, 1) := by decide +kernel
theorem dX11_begin_53 : decode cX11_begin 53 = .ok (.idiv, 1) := by decide +kernel
theorem dX11_begin_54 : decode cX11_begin 54 = .ok (.istore 6, 2) := by decide +kernel
theorem dX11_begin_56 : decode cX11_begin 56 = .ok (.iload 6, 2) := by decide +kernel
theorem dX11_begin_58 : decode cX11_begin 58 = .ok (.iload_n 1, 1) := by decide +kernel
theorem dX11_begin_59 : decode cX11_begin 59 = .ok (.iload_n 2, 1) := by decide +kernel
theorem dX11_begin_60 : decode cX11_begin 60 = .ok (.invokestatic 214, 3) := by decide +kernel
theorem dX11_begin_63 : decode cX11_begin 63 = .ok (.iload_n 3, 1) := by decide +kernel
theorem dX11_begin_64 : decode cX11_begin 64 = .ok (.if_icmp .lt 10, 3) := by decide +kernel
theorem dX11_begin_67 : decode cX11_begin 67 = .ok (.iload 6, 2) := by decide +kernel
theorem dX11_begin_69 : decode cX11_begin 69 = .ok (.istore 5, 2) := by decide +kernel
theorem dX11_begin_71 : decode cX11_begin 71 = .ok (.goto 9, 3) := by decide +kernel
theorem dX11_begin_74 : decode cX11_begin 74 = .ok (.iload 6, 2) := by decide +kernel
theorem dX11_begin_76 : decode cX11_begin 76 = .ok (.iconst 1, 1) := by decide +kernel
theorem dX11_begin_77 : decode cX11_begin 77 = .ok (.iadd, 1) := by decide +kernel
theorem dX11_begin_78 : decode cX11_begin 78 = .ok (.istore 4, 2) := by decide +kernel
theorem dX11_begin_80 : decode cX11_begin 80 = .ok (.goto (-40), 3) := by decide +kernel
theorem dX11_begin_83 : decode cX11_begin 83 = .ok (.iload 4, 2) := by decide +kernel
theorem dX11_begin_85 : decode cX11_begin 85 = .ok (.ldc 218, 2) := by decide +kernel
theorem dX11_begin_87 : decode cX11_begin 87 = .ok (.if_icmp .le 8, 3) := by decide +kernel
theorem dX11_begin_90 : decode cX11_begin 90 = .ok (.bipush (-4), 2) := by decide +kernel
theorem dX11_begin_92 : decode cX11_begin 92 = .ok (.goto 5, 3) := by decide +kernel
theorem dX11_begin_95 : decode cX11_begin 95 = .ok (.iload 4, 2) := by decide +kernel
theorem dX11_begin_97 : decode cX11_begin 97 = .ok (.ireturn, 1) := by decide +kernel
theorem dX11_shows_0 : decode cX11_shows 0 = .ok (.aload_n 0, 1) := by decide +kernel
theorem dX11_shows_1 : decode cX11_shows 1 = .ok (.iload_n 1, 1) := by decide +kernel
theorem dX11_shows_2 : decode cX11_shows 2 = .ok (.invokevirtual 176, 3) := by decide +kernel
theorem dX11_shows_5 : decode cX11_shows 5 = .ok (.ifCond .eq 32, 3) := by decide +kernel
theorem dX11_shows_8 : decode cX11_shows 8 = .ok (.aload_n 0, 1) := by decide +kernel
theorem dX11_shows_9 : decode cX11_shows 9 = .ok (.getfield 179, 3) := by decide +kernel
theorem dX11_shows_12 : decode cX11_shows 12 = .ok (.ifCond .eq 25, 3) := by decide +kernel
theorem dX11_shows_15 : decode cX11_shows 15 = .ok (.aload_n 0, 1) := by decide +kernel
theorem dX11_shows_16 : decode cX11_shows 16 = .ok (.getfield 179, 3) := by decide +kernel
theorem dX11_shows_19 : decode cX11_shows 19 = .ok (.aload_n 0, 1) := by decide +kernel
theorem dX11_shows_20 : decode cX11_shows 20 = .ok (.getfield 94, 3) := by decide +kernel
theorem dX11_shows_23 : decode cX11_shows 23 = .ok (.if_icmp .gt 14, 3) := by decide +kernel
theorem dX11_shows_26 : decode cX11_shows 26 = .ok (.aload_n 0, 1) := by decide +kernel
theorem dX11_shows_27 : decode cX11_shows 27 = .ok (.getfield 182, 3) := by decide +kernel
theorem dX11_shows_30 : decode cX11_shows 30 = .ok (.aload_n 0, 1) := by decide +kernel
theorem dX11_shows_31 : decode cX11_shows 31 = .ok (.getfield 97, 3) := by decide +kernel
theorem dX11_shows_34 : decode cX11_shows 34 = .ok (.if_icmp .le 5, 3) := by decide +kernel
theorem dX11_shows_37 : decode cX11_shows 37 = .ok (.iconst (-1), 1) := by decide +kernel
theorem dX11_shows_38 : decode cX11_shows 38 = .ok (.ireturn, 1) := by decide +kernel
theorem dX11_shows_39 : decode cX11_shows 39 = .ok (.iconst 0, 1) := by decide +kernel
theorem dX11_shows_40 : decode cX11_shows 40 = .ok (.istore_n 2, 1) := by decide +kernel
theorem dX11_shows_41 : decode cX11_shows 41 = .ok (.iload_n 2, 1) := by decide +kernel
theorem dX11_shows_42 : decode cX11_shows 42 = .ok (.aload_n 0, 1) := by decide +kernel
theorem dX11_shows_43 : decode cX11_shows 43 = .ok (.getfield 94, 3) := by decide +kernel
theorem dX11_shows_46 : decode cX11_shows 46 = .ok (.if_icmp .ge 80, 3) := by decide +kernel
theorem dX11_shows_49 : decode cX11_shows 49 = .ok (.iconst 0, 1) := by decide +kernel
theorem dX11_shows_50 : decode cX11_shows 50 = .ok (.istore_n 3, 1) := by decide +kernel
theorem dX11_shows_51 : decode cX11_shows 51 = .ok (.iload_n 3, 1) := by decide +kernel
theorem dX11_shows_52 : decode cX11_shows 52 = .ok (.aload_n 0, 1) := by decide +kernel
theorem dX11_shows_53 : decode cX11_shows 53 = .ok (.getfield 97, 3) := by decide +kernel
theorem dX11_shows_56 : decode cX11_shows 56 = .ok (.if_icmp .ge 64, 3) := by decide +kernel
theorem dX11_shows_59 : decode cX11_shows 59 = .ok (.iload_n 2, 1) := by decide +kernel
theorem dX11_shows_60 : decode cX11_shows 60 = .ok (.aload_n 0, 1) := by decide +kernel
theorem dX11_shows_61 : decode cX11_shows 61 = .ok (.getfield 179, 3) := by decide +kernel
theorem dX11_shows_64 : decode cX11_shows 64 = .ok (.if_icmp .ge 24, 3) := by decide +kernel
theorem dX11_shows_67 : decode cX11_shows 67 = .ok (.iload_n 3, 1) := by decide +kernel
theorem dX11_shows_68 : decode cX11_shows 68 = .ok (.aload_n 0, 1) := by decide +kernel
theorem dX11_shows_69 : decode cX11_shows 69 = .ok (.getfield 182, 3) := by decide +kernel
theorem dX11_shows_72 : decode cX11_shows 72 = .ok (.if_icmp .ge 16, 3) := by decide +kernel
theorem dX11_shows_75 : decode cX11_shows 75 = .ok (.aload_n 0, 1) := by decide +kernel
theorem dX11_shows_76 : decode cX11_shows 76 = .ok (.getfield 71, 3) := by decide +kernel
theorem dX11_shows_79 : decode cX11_shows 79 = .ok (.iconst 4, 1) := by decide +kernel
theorem dX11_shows_80 : decode cX11_shows 80 = .ok (.iload_n 2, 1) := by decide +kernel
theorem dX11_shows_81 : decode cX11_shows 81 = .ok (.imul, 1) := by decide +kernel
theorem dX11_shows_82 : decode cX11_shows 82 = .ok (.iload_n 3, 1) := by decide +kernel
theorem dX11_shows_83 : decode cX11_shows 83 = .ok (.iadd, 1) := by decide +kernel
theorem dX11_shows_84 : decode cX11_shows 84 = .ok (.iaload, 1) := by decide +kernel
theorem dX11_shows_85 : decode cX11_shows 85 = .ok (.goto 4, 3) := by decide +kernel
theorem dX11_shows_88 : decode cX11_shows 88 = .ok (.iconst 0, 1) := by decide +kernel
theorem dX11_shows_89 : decode cX11_shows 89 = .ok (.istore 4, 2) := by decide +kernel
theorem dX11_shows_91 : decode cX11_shows 91 = .ok (.aload_n 0, 1) := by decide +kernel
theorem dX11_shows_92 : decode cX11_shows 92 = .ok (.getfield 35, 3) := by decide +kernel
theorem dX11_shows_95 : decode cX11_shows 95 = .ok (.bipush 64, 2) := by decide +kernel
theorem dX11_shows_97 : decode cX11_shows 97 = .ok (.iload_n 1, 1) := by decide +kernel
theorem dX11_shows_98 : decode cX11_shows 98 = .ok (.imul, 1) := by decide +kernel
theorem dX11_shows_99 : decode cX11_shows 99 = .ok (.bipush 8, 2) := by decide +kernel
theorem dX11_shows_101 : decode cX11_shows 101 = .ok (.iload_n 2, 1) := by decide +kernel
theorem dX11_shows_102 : decode cX11_shows 102 = .ok (.imul, 1) := by decide +kernel
theorem dX11_shows_103 : decode cX11_shows 103 = .ok (.iadd, 1) := by decide +kernel
theorem dX11_shows_104 : decode cX11_shows 104 = .ok (.iload_n 3, 1) := by decide +kernel
theorem dX11_shows_105 : decode cX11_shows 105 = .ok (.iadd, 1) := by decide +kernel
theorem dX11_shows_106 : decode cX11_shows 106 = .ok (.iaload, 1) := by decide +kernel
theorem dX11_shows_107 : decode cX11_shows 107 = .ok (.iload 4, 2) := by decide +kernel
theorem dX11_shows_109 : decode cX11_shows 109 = .ok (.if_icmp .eq 5, 3) := by decide +kernel
theorem dX11_shows_112 : decode cX11_shows 112 = .ok (.iconst 0, 1) := by decide +kernel
theorem dX11_shows_113 : decode cX11_shows 113 = .ok (.ireturn, 1) := by decide +kernel
theorem dX11_shows_114 : decode cX11_shows 114 = .ok (.iinc 3 1, 3) := by decide +kernel
theorem dX11_shows_117 : decode cX11_shows 117 = .ok (.goto (-66), 3) := by decide +kernel
theorem dX11_shows_120 : decode cX11_shows 120 = .ok (.iinc 2 1, 3) := by decide +kernel
theorem dX11_shows_123 : decode cX11_shows 123 = .ok (.goto (-82), 3) := by decide +kernel
theorem dX11_shows_126 : decode cX11_shows 126 = .ok (.iconst 1, 1) := by decide +kernel
theorem dX11_shows_127 : decode cX11_shows 127 = .ok (.ireturn, 1) := by decide +kernel
theorem dX11_count_0 : decode cX11_count 0 = .ok (.iconst 0, 1) := by decide +kernel
theorem dX11_count_1 : decode cX11_count 1 = .ok (.istore_n 2, 1) := by decide +kernel
theorem dX11_count_2 : decode cX11_count 2 = .ok (.iconst 0, 1) := by decide +kernel
theorem dX11_count_3 : decode cX11_count 3 = .ok (.istore_n 3, 1) := by decide +kernel
theorem dX11_count_4 : decode cX11_count 4 = .ok (.iload_n 3, 1) := by decide +kernel
theorem dX11_count_5 : decode cX11_count 5 = .ok (.aload_n 0, 1) := by decide +kernel
theorem dX11_count_6 : decode cX11_count 6 = .ok (.getfield 155, 3) := by decide +kernel
theorem dX11_count_9 : decode cX11_count 9 = .ok (.if_icmp .ge 26, 3) := by decide +kernel
theorem dX11_count_12 : decode cX11_count 12 = .ok (.iload_n 2, 1) := by decide +kernel
theorem dX11_count_13 : decode cX11_count 13 = .ok (.aload_n 0, 1) := by decide +kernel
theorem dX11_count_14 : decode cX11_count 14 = .ok (.getfield 50, 3) := by decide +kernel
theorem dX11_count_17 : decode cX11_count 17 = .ok (.iload_n 3, 1) := by decide +kernel
theorem dX11_count_18 : decode cX11_count 18 = .ok (.baload, 1) := by decide +kernel
theorem dX11_count_19 : decode cX11_count 19 = .ok (.ifCond .eq 7, 3) := by decide +kernel
theorem dX11_count_22 : decode cX11_count 22 = .ok (.iconst 0, 1) := by decide +kernel
theorem dX11_count_23 : decode cX11_count 23 = .ok (.goto 4, 3) := by decide +kernel
theorem dX11_count_26 : decode cX11_count 26 = .ok (.iconst 1, 1) := by decide +kernel
theorem dX11_count_27 : decode cX11_count 27 = .ok (.iadd, 1) := by decide +kernel
theorem dX11_count_28 : decode cX11_count 28 = .ok (.istore_n 2, 1) := by decide +kernel
theorem dX11_count_29 : decode cX11_count 29 = .ok (.iinc 3 1, 3) := by decide +kernel
theorem dX11_count_32 : decode cX11_count 32 = .ok (.goto (-28), 3) := by decide +kernel
theorem dX11_count_35 : decode cX11_count 35 = .ok (.iconst 0, 1) := by decide +kernel
theorem dX11_count_36 : decode cX11_count 36 = .ok (.istore_n 3, 1) := by decide +kernel
theorem dX11_count_37 : decode cX11_count 37 = .ok (.iconst 0, 1) := by decide +kernel
theorem dX11_count_38 : decode cX11_count 38 = .ok (.istore 4, 2) := by decide +kernel
theorem dX11_count_40 : decode cX11_count 40 = .ok (.iload 4, 2) := by decide +kernel
theorem dX11_count_42 : decode cX11_count 42 = .ok (.bipush 64, 2) := by decide +kernel
theorem dX11_count_44 : decode cX11_count 44 = .ok (.if_icmp .ge 36, 3) := by decide +kernel
theorem dX11_count_47 : decode cX11_count 47 = .ok (.iload_n 3, 1) := by decide +kernel
theorem dX11_count_48 : decode cX11_count 48 = .ok (.aload_n 0, 1) := by decide +kernel
theorem dX11_count_49 : decode cX11_count 49 = .ok (.iload 4, 2) := by decide +kernel
theorem dX11_count_51 : decode cX11_count 51 = .ok (.invokevirtual 142, 3) := by decide +kernel
theorem dX11_count_54 : decode cX11_count 54 = .ok (.ifCond .eq 17, 3) := by decide +kernel
theorem dX11_count_57 : decode cX11_count 57 = .ok (.aload_n 0, 1) := by decide +kernel
theorem dX11_count_58 : decode cX11_count 58 = .ok (.getfield 23, 3) := by decide +kernel
theorem dX11_count_61 : decode cX11_count 61 = .ok (.iload 4, 2) := by decide +kernel
theorem dX11_count_63 : decode cX11_count 63 = .ok (.baload, 1) := by decide +kernel
theorem dX11_count_64 : decode cX11_count 64 = .ok (.ifCond .ne 7, 3) := by decide +kernel
theorem dX11_count_67 : decode cX11_count 67 = .ok (.iconst 1, 1) := by decide +kernel
theorem dX11_count_68 : decode cX11_count 68 = .ok (.goto 4, 3) := by decide +kernel
theorem dX11_count_71 : decode cX11_count 71 = .ok (.iconst 0, 1) := by decide +kernel
theorem dX11_count_72 : decode cX11_count 72 = .ok (.iadd, 1) := by decide +kernel
theorem dX11_count_73 : decode cX11_count 73 = .ok (.istore_n 3, 1) := by decide +kernel
theorem dX11_count_74 : decode cX11_count 74 = .ok (.iinc 4 1, 3) := by decide +kernel
theorem dX11_count_77 : decode cX11_count 77 = .ok (.goto (-37), 3) := by decide +kernel
theorem dX11_count_80 : decode cX11_count 80 = .ok (.iload_n 1, 1) := by decide +kernel
theorem dX11_count_81 : decode cX11_count 81 = .ok (.tableswitch 79 0 6 #[43, 48, 53, 55, 60, 65, 67], 43) := by decide +kernel
theorem dX11_count_124 : decode cX11_count 124 = .ok (.aload_n 0, 1) := by decide +kernel
theorem dX11_count_125 : decode cX11_count 125 = .ok (.getfield 100, 3) := by decide +kernel
theorem dX11_count_128 : decode cX11_count 128 = .ok (.ireturn, 1) := by decide +kernel
theorem dX11_count_129 : decode cX11_count 129 = .ok (.aload_n 0, 1) := by decide +kernel
theorem dX11_count_130 : decode cX11_count 130 = .ok (.getfield 155, 3) := by decide +kernel
theorem dX11_count_133 : decode cX11_count 133 = .ok (.ireturn, 1) := by decide +kernel
theorem dX11_count_134 : decode cX11_count 134 = .ok (.iload_n 2, 1) := by decide +kernel
theorem dX11_count_135 : decode cX11_count 135 = .ok (.ireturn, 1) := by decide +kernel
theorem dX11_count_136 : decode cX11_count 136 = .ok (.aload_n 0, 1) := by decide +kernel
theorem dX11_count_137 : decode cX11_count 137 = .ok (.getfield 159, 3) := by decide +kernel
theorem dX11_count_140 : decode cX11_count 140 = .ok (.ireturn, 1) := by decide +kernel
theorem dX11_count_141 : decode cX11_count 141 = .ok (.aload_n 0, 1) := by decide +kernel
theorem dX11_count_142 : decode cX11_count 142 = .ok (.getfield 116, 3) := by decide +kernel
theorem dX11_count_145 : decode cX11_count 145 = .ok (.ireturn, 1) := by decide +kernel
theorem dX11_count_146 : decode cX11_count 146 = .ok (.iload_n 3, 1) := by decide +kernel
theorem dX11_count_147 : decode cX11_count 147 = .ok (.ireturn, 1) := by decide +kernel
theorem dX11_count_148 : decode cX11_count 148 = .ok (.aload_n 0, 1) := by decide +kernel
theorem dX11_count_149 : decode cX11_count 149 = .ok (.getfield 94, 3) := by decide +kernel
theorem dX11_count_152 : decode cX11_count 152 = .ok (.aload_n 0, 1) := by decide +kernel
theorem dX11_count_153 : decode cX11_count 153 = .ok (.getfield 97, 3) := by decide +kernel
theorem dX11_count_156 : decode cX11_count 156 = .ok (.imul, 1) := by decide +kernel
theorem dX11_count_157 : decode cX11_count 157 = .ok (.iload_n 3, 1) := by decide +kernel
theorem dX11_count_158 : decode cX11_count 158 = .ok (.isub, 1) := by decide +kernel
theorem dX11_count_159 : decode cX11_count 159 = .ok (.ireturn, 1) := by decide +kernel
theorem dX11_count_160 : decode cX11_count 160 = .ok (.iconst (-1), 1) := by decide +kernel
theorem dX11_count_161 : decode cX11_count 161 = .ok (.ireturn, 1) := by decide +kernel
