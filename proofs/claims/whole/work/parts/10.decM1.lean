theorem d_M_readBracket_41 : decode c0_M_readBracket 41 = .ok (.getfield 34, 3) := by decide +kernel
theorem d_M_readBracket_44 : decode c0_M_readBracket 44 = .ok (.iconst 4, 1) := by decide +kernel
theorem d_M_readBracket_45 : decode c0_M_readBracket 45 = .ok (.iload_n 1, 1) := by decide +kernel
theorem d_M_readBracket_46 : decode c0_M_readBracket 46 = .ok (.imul, 1) := by decide +kernel
theorem d_M_readBracket_47 : decode c0_M_readBracket 47 = .ok (.iload_n 2, 1) := by decide +kernel
theorem d_M_readBracket_48 : decode c0_M_readBracket 48 = .ok (.iadd, 1) := by decide +kernel
theorem d_M_readBracket_49 : decode c0_M_readBracket 49 = .ok (.iconst 0, 1) := by decide +kernel
theorem d_M_readBracket_50 : decode c0_M_readBracket 50 = .ok (.iastore, 1) := by decide +kernel
theorem d_M_readBracket_51 : decode c0_M_readBracket 51 = .ok (.iinc 2 1, 3) := by decide +kernel
theorem d_M_readBracket_54 : decode c0_M_readBracket 54 = .ok (.goto (-19), 3) := by decide +kernel
theorem d_M_readBracket_57 : decode c0_M_readBracket 57 = .ok (.aload_n 0, 1) := by decide +kernel
theorem d_M_readBracket_58 : decode c0_M_readBracket 58 = .ok (.invokevirtual 106, 3) := by decide +kernel
theorem d_M_readBracket_61 : decode c0_M_readBracket 61 = .ok (.ifCond .eq 58, 3) := by decide +kernel
theorem d_M_readBracket_64 : decode c0_M_readBracket 64 = .ok (.aload_n 0, 1) := by decide +kernel
theorem d_M_readBracket_65 : decode c0_M_readBracket 65 = .ok (.getfield 25, 3) := by decide +kernel
theorem d_M_readBracket_68 : decode c0_M_readBracket 68 = .ok (.iload_n 1, 1) := by decide +kernel
theorem d_M_readBracket_69 : decode c0_M_readBracket 69 = .ok (.bipush 8, 2) := by decide +kernel
theorem d_M_readBracket_71 : decode c0_M_readBracket 71 = .ok (.iastore, 1) := by decide +kernel
theorem d_M_readBracket_72 : decode c0_M_readBracket 72 = .ok (.aload_n 0, 1) := by decide +kernel
theorem d_M_readBracket_73 : decode c0_M_readBracket 73 = .ok (.getfield 31, 3) := by decide +kernel
theorem d_M_readBracket_76 : decode c0_M_readBracket 76 = .ok (.iload_n 1, 1) := by decide +kernel
theorem d_M_readBracket_77 : decode c0_M_readBracket 77 = .ok (.aload_n 0, 1) := by decide +kernel
theorem d_M_readBracket_78 : decode c0_M_readBracket 78 = .ok (.invokevirtual 83, 3) := by decide +kernel
theorem d_M_readBracket_81 : decode c0_M_readBracket 81 = .ok (.bipush 48, 2) := by decide +kernel
theorem d_M_readBracket_83 : decode c0_M_readBracket 83 = .ok (.isub, 1) := by decide +kernel
theorem d_M_readBracket_84 : decode c0_M_readBracket 84 = .ok (.iastore, 1) := by decide +kernel
theorem d_M_readBracket_85 : decode c0_M_readBracket 85 = .ok (.aload_n 0, 1) := by decide +kernel
theorem d_M_readBracket_86 : decode c0_M_readBracket 86 = .ok (.aload_n 0, 1) := by decide +kernel
theorem d_M_readBracket_87 : decode c0_M_readBracket 87 = .ok (.getfield 77, 3) := by decide +kernel
theorem d_M_readBracket_90 : decode c0_M_readBracket 90 = .ok (.iconst 1, 1) := by decide +kernel
theorem d_M_readBracket_91 : decode c0_M_readBracket 91 = .ok (.iadd, 1) := by decide +kernel
theorem d_M_readBracket_92 : decode c0_M_readBracket 92 = .ok (.putfield 77, 3) := by decide +kernel
theorem d_M_readBracket_95 : decode c0_M_readBracket 95 = .ok (.aload_n 0, 1) := by decide +kernel
theorem d_M_readBracket_96 : decode c0_M_readBracket 96 = .ok (.invokevirtual 83, 3) := by decide +kernel
theorem d_M_readBracket_99 : decode c0_M_readBracket 99 = .ok (.pop, 1) := by decide +kernel
theorem d_M_readBracket_100 : decode c0_M_readBracket 100 = .ok (.aload_n 0, 1) := by decide +kernel
theorem d_M_readBracket_101 : decode c0_M_readBracket 101 = .ok (.aload_n 0, 1) := by decide +kernel
theorem d_M_readBracket_102 : decode c0_M_readBracket 102 = .ok (.getfield 77, 3) := by decide +kernel
theorem d_M_readBracket_105 : decode c0_M_readBracket 105 = .ok (.iconst 1, 1) := by decide +kernel
theorem d_M_readBracket_106 : decode c0_M_readBracket 106 = .ok (.iadd, 1) := by decide +kernel
theorem d_M_readBracket_107 : decode c0_M_readBracket 107 = .ok (.putfield 77, 3) := by decide +kernel
theorem d_M_readBracket_110 : decode c0_M_readBracket 110 = .ok (.aload_n 0, 1) := by decide +kernel
theorem d_M_readBracket_111 : decode c0_M_readBracket 111 = .ok (.iload_n 1, 1) := by decide +kernel
theorem d_M_readBracket_112 : decode c0_M_readBracket 112 = .ok (.iconst 1, 1) := by decide +kernel
theorem d_M_readBracket_113 : decode c0_M_readBracket 113 = .ok (.invokevirtual 110, 3) := by decide +kernel
theorem d_M_readBracket_116 : decode c0_M_readBracket 116 = .ok (.goto 72, 3) := by decide +kernel
theorem d_M_readBracket_119 : decode c0_M_readBracket 119 = .ok (.aload_n 0, 1) := by decide +kernel
theorem d_M_readBracket_120 : decode c0_M_readBracket 120 = .ok (.iload_n 1, 1) := by decide +kernel
theorem d_M_readBracket_121 : decode c0_M_readBracket 121 = .ok (.iconst 1, 1) := by decide +kernel
theorem d_M_readBracket_122 : decode c0_M_readBracket 122 = .ok (.invokevirtual 110, 3) := by decide +kernel
theorem d_M_readBracket_125 : decode c0_M_readBracket 125 = .ok (.aload_n 0, 1) := by decide +kernel
theorem d_M_readBracket_126 : decode c0_M_readBracket 126 = .ok (.invokevirtual 83, 3) := by decide +kernel
theorem d_M_readBracket_129 : decode c0_M_readBracket 129 = .ok (.istore_n 2, 1) := by decide +kernel
theorem d_M_readBracket_130 : decode c0_M_readBracket 130 = .ok (.iload_n 2, 1) := by decide +kernel
theorem d_M_readBracket_131 : decode c0_M_readBracket 131 = .ok (.bipush 60, 2) := by decide +kernel
theorem d_M_readBracket_133 : decode c0_M_readBracket 133 = .ok (.if_icmp .eq 13, 3) := by decide +kernel
theorem d_M_readBracket_136 : decode c0_M_readBracket 136 = .ok (.iload_n 2, 1) := by decide +kernel
theorem d_M_readBracket_137 : decode c0_M_readBracket 137 = .ok (.bipush 61, 2) := by decide +kernel
theorem d_M_readBracket_139 : decode c0_M_readBracket 139 = .ok (.if_icmp .eq 7, 3) := by decide +kernel
theorem d_M_readBracket_142 : decode c0_M_readBracket 142 = .ok (.aload_n 0, 1) := by decide +kernel
theorem d_M_readBracket_143 : decode c0_M_readBracket 143 = .ok (.invokevirtual 90, 3) := by decide +kernel
theorem d_M_readBracket_146 : decode c0_M_readBracket 146 = .ok (.aload_n 0, 1) := by decide +kernel
theorem d_M_readBracket_147 : decode c0_M_readBracket 147 = .ok (.getfield 25, 3) := by decide +kernel
theorem d_M_readBracket_150 : decode c0_M_readBracket 150 = .ok (.iload_n 1, 1) := by decide +kernel
theorem d_M_readBracket_151 : decode c0_M_readBracket 151 = .ok (.iload_n 2, 1) := by decide +kernel
theorem d_M_readBracket_152 : decode c0_M_readBracket 152 = .ok (.bipush 60, 2) := by decide +kernel
theorem d_M_readBracket_154 : decode c0_M_readBracket 154 = .ok (.if_icmp .ne 8, 3) := by decide +kernel
theorem d_M_readBracket_157 : decode c0_M_readBracket 157 = .ok (.bipush 6, 2) := by decide +kernel
theorem d_M_readBracket_159 : decode c0_M_readBracket 159 = .ok (.goto 5, 3) := by decide +kernel
theorem d_M_readBracket_162 : decode c0_M_readBracket 162 = .ok (.bipush 7, 2) := by decide +kernel
theorem d_M_readBracket_164 : decode c0_M_readBracket 164 = .ok (.iastore, 1) := by decide +kernel
theorem d_M_readBracket_165 : decode c0_M_readBracket 165 = .ok (.aload_n 0, 1) := by decide +kernel
theorem d_M_readBracket_166 : decode c0_M_readBracket 166 = .ok (.aload_n 0, 1) := by decide +kernel
theorem d_M_readBracket_167 : decode c0_M_readBracket 167 = .ok (.getfield 77, 3) := by decide +kernel
theorem d_M_readBracket_170 : decode c0_M_readBracket 170 = .ok (.iconst 1, 1) := by decide +kernel
theorem d_M_readBracket_171 : decode c0_M_readBracket 171 = .ok (.iadd, 1) := by decide +kernel
theorem d_M_readBracket_172 : decode c0_M_readBracket 172 = .ok (.putfield 77, 3) := by decide +kernel
theorem d_M_readBracket_175 : decode c0_M_readBracket 175 = .ok (.aload_n 0, 1) := by decide +kernel
theorem d_M_readBracket_176 : decode c0_M_readBracket 176 = .ok (.getfield 87, 3) := by decide +kernel
theorem d_M_readBracket_179 : decode c0_M_readBracket 179 = .ok (.ifCond .ge 9, 3) := by decide +kernel
theorem d_M_readBracket_182 : decode c0_M_readBracket 182 = .ok (.aload_n 0, 1) := by decide +kernel
theorem d_M_readBracket_183 : decode c0_M_readBracket 183 = .ok (.iload_n 1, 1) := by decide +kernel
theorem d_M_readBracket_184 : decode c0_M_readBracket 184 = .ok (.iconst (-1), 1) := by decide +kernel
theorem d_M_readBracket_185 : decode c0_M_readBracket 185 = .ok (.invokevirtual 110, 3) := by decide +kernel
theorem d_M_readBracket_188 : decode c0_M_readBracket 188 = .ok (.aload_n 0, 1) := by decide +kernel
theorem d_M_readBracket_189 : decode c0_M_readBracket 189 = .ok (.invokevirtual 83, 3) := by decide +kernel
theorem d_M_readBracket_192 : decode c0_M_readBracket 192 = .ok (.bipush 93, 2) := by decide +kernel
theorem d_M_readBracket_194 : decode c0_M_readBracket 194 = .ok (.if_icmp .ne 27, 3) := by decide +kernel
theorem d_M_readBracket_197 : decode c0_M_readBracket 197 = .ok (.aload_n 0, 1) := by decide +kernel
theorem d_M_readBracket_198 : decode c0_M_readBracket 198 = .ok (.getfield 34, 3) := by decide +kernel
theorem d_M_readBracket_201 : decode c0_M_readBracket 201 = .ok (.iconst 4, 1) := by decide +kernel
theorem d_M_readBracket_202 : decode c0_M_readBracket 202 = .ok (.iload_n 1, 1) := by decide +kernel
theorem d_M_readBracket_203 : decode c0_M_readBracket 203 = .ok (.imul, 1) := by decide +kernel
theorem d_M_readBracket_204 : decode c0_M_readBracket 204 = .ok (.iconst 3, 1) := by decide +kernel
theorem d_M_readBracket_205 : decode c0_M_readBracket 205 = .ok (.iadd, 1) := by decide +kernel
theorem d_M_readBracket_206 : decode c0_M_readBracket 206 = .ok (.iaload, 1) := by decide +kernel
theorem d_M_readBracket_207 : decode c0_M_readBracket 207 = .ok (.bipush (-15), 2) := by decide +kernel
theorem d_M_readBracket_209 : decode c0_M_readBracket 209 = .ok (.bipush 15, 2) := by decide +kernel
theorem d_M_readBracket_211 : decode c0_M_readBracket 211 = .ok (.invokestatic 70, 3) := by decide +kernel
theorem d_M_readBracket_214 : decode c0_M_readBracket 214 = .ok (.ifCond .eq 7, 3) := by decide +kernel
theorem d_M_readBracket_217 : decode c0_M_readBracket 217 = .ok (.iconst 1, 1) := by decide +kernel
theorem d_M_readBracket_218 : decode c0_M_readBracket 218 = .ok (.goto 4, 3) := by decide +kernel
theorem d_M_readBracket_221 : decode c0_M_readBracket 221 = .ok (.iconst 0, 1) := by decide +kernel
theorem d_M_readBracket_222 : decode c0_M_readBracket 222 = .ok (.istore_n 2, 1) := by decide +kernel
theorem d_M_readBracket_223 : decode c0_M_readBracket 223 = .ok (.iconst 0, 1) := by decide +kernel
theorem d_M_readBracket_224 : decode c0_M_readBracket 224 = .ok (.istore_n 3, 1) := by decide +kernel
theorem d_M_readBracket_225 : decode c0_M_readBracket 225 = .ok (.iload_n 3, 1) := by decide +kernel
theorem d_M_readBracket_226 : decode c0_M_readBracket 226 = .ok (.iconst 3, 1) := by decide +kernel
theorem d_M_readBracket_227 : decode c0_M_readBracket 227 = .ok (.if_icmp .ge 38, 3) := by decide +kernel
theorem d_M_readBracket_230 : decode c0_M_readBracket 230 = .ok (.iload_n 2, 1) := by decide +kernel
theorem d_M_readBracket_231 : decode c0_M_readBracket 231 = .ok (.ifCond .eq 26, 3) := by decide +kernel
theorem d_M_readBracket_234 : decode c0_M_readBracket 234 = .ok (.aload_n 0, 1) := by decide +kernel
theorem d_M_readBracket_235 : decode c0_M_readBracket 235 = .ok (.getfield 34, 3) := by decide +kernel
theorem d_M_readBracket_238 : decode c0_M_readBracket 238 = .ok (.iconst 4, 1) := by decide +kernel
theorem d_M_readBracket_239 : decode c0_M_readBracket 239 = .ok (.iload_n 1, 1) := by decide +kernel
theorem d_M_readBracket_240 : decode c0_M_readBracket 240 = .ok (.imul, 1) := by decide +kernel
theorem d_M_readBracket_241 : decode c0_M_readBracket 241 = .ok (.iload_n 3, 1) := by decide +kernel
theorem d_M_readBracket_242 : decode c0_M_readBracket 242 = .ok (.iadd, 1) := by decide +kernel
theorem d_M_readBracket_243 : decode c0_M_readBracket 243 = .ok (.iaload, 1) := by decide +kernel
theorem d_M_readBracket_244 : decode c0_M_readBracket 244 = .ok (.bipush (-2), 2) := by decide +kernel
theorem d_M_readBracket_246 : decode c0_M_readBracket 246 = .ok (.iconst 2, 1) := by decide +kernel
theorem d_M_readBracket_247 : decode c0_M_readBracket 247 = .ok (.invokestatic 70, 3) := by decide +kernel
theorem d_M_readBracket_250 : decode c0_M_readBracket 250 = .ok (.ifCond .eq 7, 3) := by decide +kernel
theorem d_M_readBracket_253 : decode c0_M_readBracket 253 = .ok (.iconst 1, 1) := by decide +kernel
theorem d_M_readBracket_254 : decode c0_M_readBracket 254 = .ok (.goto 4, 3) := by decide +kernel
theorem d_M_readBracket_257 : decode c0_M_readBracket 257 = .ok (.iconst 0, 1) := by decide +kernel
theorem d_M_readBracket_258 : decode c0_M_readBracket 258 = .ok (.istore_n 2, 1) := by decide +kernel
theorem d_M_readBracket_259 : decode c0_M_readBracket 259 = .ok (.iinc 3 1, 3) := by decide +kernel
theorem d_M_readBracket_262 : decode c0_M_readBracket 262 = .ok (.goto (-37), 3) := by decide +kernel
theorem d_M_readBracket_265 : decode c0_M_readBracket 265 = .ok (.iload_n 2, 1) := by decide +kernel
theorem d_M_readBracket_266 : decode c0_M_readBracket 266 = .ok (.ifCond .ne 7, 3) := by decide +kernel
theorem d_M_readBracket_269 : decode c0_M_readBracket 269 = .ok (.aload_n 0, 1) := by decide +kernel
theorem d_M_readBracket_270 : decode c0_M_readBracket 270 = .ok (.invokevirtual 90, 3) := by decide +kernel
theorem d_M_readBracket_273 : decode c0_M_readBracket 273 = .ok (.aload_n 0, 1) := by decide +kernel
theorem d_M_readBracket_274 : decode c0_M_readBracket 274 = .ok (.aload_n 0, 1) := by decide +kernel
theorem d_M_readBracket_275 : decode c0_M_readBracket 275 = .ok (.getfield 77, 3) := by decide +kernel
theorem d_M_readBracket_278 : decode c0_M_readBracket 278 = .ok (.iconst 1, 1) := by decide +kernel
theorem d_M_readBracket_279 : decode c0_M_readBracket 279 = .ok (.iadd, 1) := by decide +kernel
theorem d_M_readBracket_280 : decode c0_M_readBracket 280 = .ok (.putfield 77, 3) := by decide +kernel
theorem d_M_readBracket_283 : decode c0_M_readBracket 283 = .ok (.return_, 1) := by decide +kernel
theorem d_M_readClaims_0 : decode c0_M_readClaims 0 = .ok (.aload_n 0, 1) := by decide +kernel
theorem d_M_readClaims_1 : decode c0_M_readClaims 1 = .ok (.iconst 0, 1) := by decide +kernel
theorem d_M_readClaims_2 : decode c0_M_readClaims 2 = .ok (.putfield 113, 3) := by decide +kernel
theorem d_M_readClaims_5 : decode c0_M_readClaims 5 = .ok (.aload_n 0, 1) := by decide +kernel
theorem d_M_readClaims_6 : decode c0_M_readClaims 6 = .ok (.iconst 0, 1) := by decide +kernel
theorem d_M_readClaims_7 : decode c0_M_readClaims 7 = .ok (.putfield 103, 3) := by decide +kernel
theorem d_M_readClaims_10 : decode c0_M_readClaims 10 = .ok (.aload_n 0, 1) := by decide +kernel
theorem d_M_readClaims_11 : decode c0_M_readClaims 11 = .ok (.iconst 0, 1) := by decide +kernel
theorem d_M_readClaims_12 : decode c0_M_readClaims 12 = .ok (.putfield 93, 3) := by decide +kernel
theorem d_M_readClaims_15 : decode c0_M_readClaims 15 = .ok (.aload_n 0, 1) := by decide +kernel
theorem d_M_readClaims_16 : decode c0_M_readClaims 16 = .ok (.iconst 0, 1) := by decide +kernel
theorem d_M_readClaims_17 : decode c0_M_readClaims 17 = .ok (.putfield 116, 3) := by decide +kernel
theorem d_M_readClaims_20 : decode c0_M_readClaims 20 = .ok (.iconst 0, 1) := by decide +kernel
theorem d_M_readClaims_21 : decode c0_M_readClaims 21 = .ok (.istore_n 1, 1) := by decide +kernel
theorem d_M_readClaims_22 : decode c0_M_readClaims 22 = .ok (.iload_n 1, 1) := by decide +kernel
theorem d_M_readClaims_23 : decode c0_M_readClaims 23 = .ok (.iconst 3, 1) := by decide +kernel
theorem d_M_readClaims_24 : decode c0_M_readClaims 24 = .ok (.if_icmp .ge 16, 3) := by decide +kernel
theorem d_M_readClaims_27 : decode c0_M_readClaims 27 = .ok (.aload_n 0, 1) := by decide +kernel
theorem d_M_readClaims_28 : decode c0_M_readClaims 28 = .ok (.getfield 37, 3) := by decide +kernel
theorem d_M_readClaims_31 : decode c0_M_readClaims 31 = .ok (.iload_n 1, 1) := by decide +kernel
theorem d_M_readClaims_32 : decode c0_M_readClaims 32 = .ok (.iconst 0, 1) := by decide +kernel
theorem d_M_readClaims_33 : decode c0_M_readClaims 33 = .ok (.iastore, 1) := by decide +kernel
theorem d_M_readClaims_34 : decode c0_M_readClaims 34 = .ok (.iinc 1 1, 3) := by decide +kernel
theorem d_M_readClaims_37 : decode c0_M_readClaims 37 = .ok (.goto (-15), 3) := by decide +kernel
theorem d_M_readClaims_40 : decode c0_M_readClaims 40 = .ok (.iconst 0, 1) := by decide +kernel
theorem d_M_readClaims_41 : decode c0_M_readClaims 41 = .ok (.istore_n 1, 1) := by decide +kernel
theorem d_M_readClaims_42 : decode c0_M_readClaims 42 = .ok (.iconst (-1), 1) := by decide +kernel
theorem d_M_readClaims_43 : decode c0_M_readClaims 43 = .ok (.istore_n 2, 1) := by decide +kernel
theorem d_M_readClaims_44 : decode c0_M_readClaims 44 = .ok (.iconst 0, 1) := by decide +kernel
theorem d_M_readClaims_45 : decode c0_M_readClaims 45 = .ok (.istore_n 3, 1) := by decide +kernel
theorem d_M_readClaims_46 : decode c0_M_readClaims 46 = .ok (.iconst 0, 1) := by decide +kernel
theorem d_M_readClaims_47 : decode c0_M_readClaims 47 = .ok (.istore 4, 2) := by decide +kernel
theorem d_M_readClaims_49 : decode c0_M_readClaims 49 = .ok (.aload_n 0, 1) := by decide +kernel
theorem d_M_readClaims_50 : decode c0_M_readClaims 50 = .ok (.getfield 87, 3) := by decide +kernel
theorem d_M_readClaims_53 : decode c0_M_readClaims 53 = .ok (.ifCond .ge 510, 3) := by decide +kernel
theorem d_M_readClaims_56 : decode c0_M_readClaims 56 = .ok (.iload 4, 2) := by decide +kernel
theorem d_M_readClaims_58 : decode c0_M_readClaims 58 = .ok (.ifCond .ne 505, 3) := by decide +kernel
theorem d_M_readClaims_61 : decode c0_M_readClaims 61 = .ok (.aload_n 0, 1) := by decide +kernel
theorem d_M_readClaims_62 : decode c0_M_readClaims 62 = .ok (.invokevirtual 83, 3) := by decide +kernel
theorem d_M_readClaims_65 : decode c0_M_readClaims 65 = .ok (.istore 5, 2) := by decide +kernel
theorem d_M_readClaims_67 : decode c0_M_readClaims 67 = .ok (.iload 5, 2) := by decide +kernel
theorem d_M_readClaims_69 : decode c0_M_readClaims 69 = .ok (.bipush 65, 2) := by decide +kernel
theorem d_M_readClaims_71 : decode c0_M_readClaims 71 = .ok (.if_icmp .ne 7, 3) := by decide +kernel
theorem d_M_readClaims_74 : decode c0_M_readClaims 74 = .ok (.iconst 1, 1) := by decide +kernel
theorem d_M_readClaims_75 : decode c0_M_readClaims 75 = .ok (.goto 4, 3) := by decide +kernel
theorem d_M_readClaims_78 : decode c0_M_readClaims 78 = .ok (.iconst 0, 1) := by decide +kernel
theorem d_M_readClaims_79 : decode c0_M_readClaims 79 = .ok (.istore 6, 2) := by decide +kernel
theorem d_M_readClaims_81 : decode c0_M_readClaims 81 = .ok (.iload 6, 2) := by decide +kernel
theorem d_M_readClaims_83 : decode c0_M_readClaims 83 = .ok (.ifCond .ne 10, 3) := by decide +kernel
theorem d_M_readClaims_86 : decode c0_M_readClaims 86 = .ok (.iload 5, 2) := by decide +kernel
theorem d_M_readClaims_88 : decode c0_M_readClaims 88 = .ok (.bipush 69, 2) := by decide +kernel
theorem d_M_readClaims_90 : decode c0_M_readClaims 90 = .ok (.if_icmp .ne 7, 3) := by decide +kernel
theorem d_M_readClaims_93 : decode c0_M_readClaims 93 = .ok (.iconst 1, 1) := by decide +kernel
theorem d_M_readClaims_94 : decode c0_M_readClaims 94 = .ok (.goto 4, 3) := by decide +kernel
theorem d_M_readClaims_97 : decode c0_M_readClaims 97 = .ok (.iconst 0, 1) := by decide +kernel
theorem d_M_readClaims_98 : decode c0_M_readClaims 98 = .ok (.istore 7, 2) := by decide +kernel
theorem d_M_readClaims_100 : decode c0_M_readClaims 100 = .ok (.iload 5, 2) := by decide +kernel
theorem d_M_readClaims_102 : decode c0_M_readClaims 102 = .ok (.bipush 38, 2) := by decide +kernel
theorem d_M_readClaims_104 : decode c0_M_readClaims 104 = .ok (.if_icmp .eq 41, 3) := by decide +kernel
theorem d_M_readClaims_107 : decode c0_M_readClaims 107 = .ok (.iload 5, 2) := by decide +kernel
theorem d_M_readClaims_109 : decode c0_M_readClaims 109 = .ok (.bipush 47, 2) := by decide +kernel
theorem d_M_readClaims_111 : decode c0_M_readClaims 111 = .ok (.if_icmp .eq 34, 3) := by decide +kernel
theorem d_M_readClaims_114 : decode c0_M_readClaims 114 = .ok (.iload 5, 2) := by decide +kernel
theorem d_M_readClaims_116 : decode c0_M_readClaims 116 = .ok (.bipush 62, 2) := by decide +kernel
theorem d_M_readClaims_118 : decode c0_M_readClaims 118 = .ok (.if_icmp .eq 27, 3) := by decide +kernel
theorem d_M_readClaims_121 : decode c0_M_readClaims 121 = .ok (.iload 5, 2) := by decide +kernel
theorem d_M_readClaims_123 : decode c0_M_readClaims 123 = .ok (.bipush 33, 2) := by decide +kernel
theorem d_M_readClaims_125 : decode c0_M_readClaims 125 = .ok (.if_icmp .eq 20, 3) := by decide +kernel
theorem d_M_readClaims_128 : decode c0_M_readClaims 128 = .ok (.iload 5, 2) := by decide +kernel
theorem d_M_readClaims_130 : decode c0_M_readClaims 130 = .ok (.bipush 91, 2) := by decide +kernel
theorem d_M_readClaims_132 : decode c0_M_readClaims 132 = .ok (.if_icmp .eq 13, 3) := by decide +kernel
theorem d_M_readClaims_135 : decode c0_M_readClaims 135 = .ok (.iload 7, 2) := by decide +kernel
theorem d_M_readClaims_137 : decode c0_M_readClaims 137 = .ok (.ifCond .eq 12, 3) := by decide +kernel
theorem d_M_readClaims_140 : decode c0_M_readClaims 140 = .ok (.iload_n 3, 1) := by decide +kernel
theorem d_M_readClaims_141 : decode c0_M_readClaims 141 = .ok (.iconst 2, 1) := by decide +kernel
theorem d_M_readClaims_142 : decode c0_M_readClaims 142 = .ok (.if_icmp .ge 7, 3) := by decide +kernel
theorem d_M_readClaims_145 : decode c0_M_readClaims 145 = .ok (.iconst 1, 1) := by decide +kernel
theorem d_M_readClaims_146 : decode c0_M_readClaims 146 = .ok (.goto 4, 3) := by decide +kernel
theorem d_M_readClaims_149 : decode c0_M_readClaims 149 = .ok (.iconst 0, 1) := by decide +kernel
theorem d_M_readClaims_150 : decode c0_M_readClaims 150 = .ok (.istore 8, 2) := by decide +kernel
theorem d_M_readClaims_152 : decode c0_M_readClaims 152 = .ok (.iload 8, 2) := by decide +kernel
theorem d_M_readClaims_154 : decode c0_M_readClaims 154 = .ok (.ifCond .eq 12, 3) := by decide +kernel
theorem d_M_readClaims_157 : decode c0_M_readClaims 157 = .ok (.aload_n 0, 1) := by decide +kernel
theorem d_M_readClaims_158 : decode c0_M_readClaims 158 = .ok (.getfield 113, 3) := by decide +kernel
theorem d_M_readClaims_161 : decode c0_M_readClaims 161 = .ok (.bipush 20, 2) := by decide +kernel
theorem d_M_readClaims_163 : decode c0_M_readClaims 163 = .ok (.if_icmp .ne 10, 3) := by decide +kernel
theorem d_M_readClaims_166 : decode c0_M_readClaims 166 = .ok (.aload_n 0, 1) := by decide +kernel
theorem d_M_readClaims_167 : decode c0_M_readClaims 167 = .ok (.invokevirtual 90, 3) := by decide +kernel
theorem d_M_readClaims_170 : decode c0_M_readClaims 170 = .ok (.goto 390, 3) := by decide +kernel
theorem d_M_readClaims_173 : decode c0_M_readClaims 173 = .ok (.aload_n 0, 1) := by decide +kernel
theorem d_M_readClaims_174 : decode c0_M_readClaims 174 = .ok (.getfield 113, 3) := by decide +kernel
theorem d_M_readClaims_177 : decode c0_M_readClaims 177 = .ok (.istore 9, 2) := by decide +kernel
theorem d_M_readClaims_179 : decode c0_M_readClaims 179 = .ok (.aload_n 0, 1) := by decide +kernel
theorem d_M_readClaims_180 : decode c0_M_readClaims 180 = .ok (.aload_n 0, 1) := by decide +kernel
theorem d_M_readClaims_181 : decode c0_M_readClaims 181 = .ok (.getfield 113, 3) := by decide +kernel
theorem d_M_readClaims_184 : decode c0_M_readClaims 184 = .ok (.iconst 1, 1) := by decide +kernel
theorem d_M_readClaims_185 : decode c0_M_readClaims 185 = .ok (.iadd, 1) := by decide +kernel
theorem d_M_readClaims_186 : decode c0_M_readClaims 186 = .ok (.putfield 113, 3) := by decide +kernel
theorem d_M_readClaims_189 : decode c0_M_readClaims 189 = .ok (.aload_n 0, 1) := by decide +kernel
theorem d_M_readClaims_190 : decode c0_M_readClaims 190 = .ok (.getfield 28, 3) := by decide +kernel
theorem d_M_readClaims_193 : decode c0_M_readClaims 193 = .ok (.iload 9, 2) := by decide +kernel
theorem d_M_readClaims_195 : decode c0_M_readClaims 195 = .ok (.iload_n 2, 1) := by decide +kernel
theorem d_M_readClaims_196 : decode c0_M_readClaims 196 = .ok (.iastore, 1) := by decide +kernel
theorem d_M_readClaims_197 : decode c0_M_readClaims 197 = .ok (.iload 5, 2) := by decide +kernel
theorem d_M_readClaims_199 : decode c0_M_readClaims 199 = .ok (.bipush 91, 2) := by decide +kernel
theorem d_M_readClaims_201 : decode c0_M_readClaims 201 = .ok (.if_icmp .ne 143, 3) := by decide +kernel
theorem d_M_readClaims_204 : decode c0_M_readClaims 204 = .ok (.aload_n 0, 1) := by decide +kernel
theorem d_M_readClaims_205 : decode c0_M_readClaims 205 = .ok (.iload 9, 2) := by decide +kernel
theorem d_M_readClaims_207 : decode c0_M_readClaims 207 = .ok (.invokevirtual 119, 3) := by decide +kernel
theorem d_M_readClaims_210 : decode c0_M_readClaims 210 = .ok (.iconst 1, 1) := by decide +kernel
theorem d_M_readClaims_211 : decode c0_M_readClaims 211 = .ok (.istore 10, 2) := by decide +kernel
theorem d_M_readClaims_213 : decode c0_M_readClaims 213 = .ok (.iload 10, 2) := by decide +kernel
theorem d_M_readClaims_215 : decode c0_M_readClaims 215 = .ok (.ifCond .eq 115, 3) := by decide +kernel
theorem d_M_readClaims_218 : decode c0_M_readClaims 218 = .ok (.iload_n 1, 1) := by decide +kernel
theorem d_M_readClaims_219 : decode c0_M_readClaims 219 = .ok (.ifCond .le 111, 3) := by decide +kernel
theorem d_M_readClaims_222 : decode c0_M_readClaims 222 = .ok (.aload_n 0, 1) := by decide +kernel
theorem d_M_readClaims_223 : decode c0_M_readClaims 223 = .ok (.getfield 43, 3) := by decide +kernel
theorem d_M_readClaims_226 : decode c0_M_readClaims 226 = .ok (.iload_n 1, 1) := by decide +kernel
theorem d_M_readClaims_227 : decode c0_M_readClaims 227 = .ok (.aload_n 0, 1) := by decide +kernel
theorem d_M_readClaims_228 : decode c0_M_readClaims 228 = .ok (.getfield 43, 3) := by decide +kernel
theorem d_M_readClaims_231 : decode c0_M_readClaims 231 = .ok (.iload_n 1, 1) := by decide +kernel
theorem d_M_readClaims_232 : decode c0_M_readClaims 232 = .ok (.iaload, 1) := by decide +kernel
theorem d_M_readClaims_233 : decode c0_M_readClaims 233 = .ok (.iconst 1, 1) := by decide +kernel
theorem d_M_readClaims_234 : decode c0_M_readClaims 234 = .ok (.isub, 1) := by decide +kernel
theorem d_M_readClaims_235 : decode c0_M_readClaims 235 = .ok (.iastore, 1) := by decide +kernel
theorem d_M_readClaims_236 : decode c0_M_readClaims 236 = .ok (.aload_n 0, 1) := by decide +kernel
theorem d_M_readClaims_237 : decode c0_M_readClaims 237 = .ok (.getfield 43, 3) := by decide +kernel
theorem d_M_readClaims_240 : decode c0_M_readClaims 240 = .ok (.iload_n 1, 1) := by decide +kernel
theorem d_M_readClaims_241 : decode c0_M_readClaims 241 = .ok (.iaload, 1) := by decide +kernel
theorem d_M_readClaims_242 : decode c0_M_readClaims 242 = .ok (.ifCond .ne 7, 3) := by decide +kernel
theorem d_M_readClaims_245 : decode c0_M_readClaims 245 = .ok (.iconst 1, 1) := by decide +kernel
theorem d_M_readClaims_246 : decode c0_M_readClaims 246 = .ok (.goto 4, 3) := by decide +kernel
theorem d_M_readClaims_249 : decode c0_M_readClaims 249 = .ok (.iconst 0, 1) := by decide +kernel
theorem d_M_readClaims_250 : decode c0_M_readClaims 250 = .ok (.istore 10, 2) := by decide +kernel
theorem d_M_readClaims_252 : decode c0_M_readClaims 252 = .ok (.aload_n 0, 1) := by decide +kernel
theorem d_M_readClaims_253 : decode c0_M_readClaims 253 = .ok (.getfield 40, 3) := by decide +kernel
theorem d_M_readClaims_256 : decode c0_M_readClaims 256 = .ok (.iload_n 1, 1) := by decide +kernel
theorem d_M_readClaims_257 : decode c0_M_readClaims 257 = .ok (.iaload, 1) := by decide +kernel
theorem d_M_readClaims_258 : decode c0_M_readClaims 258 = .ok (.istore 11, 2) := by decide +kernel
theorem d_M_readClaims_260 : decode c0_M_readClaims 260 = .ok (.iload 10, 2) := by decide +kernel
theorem d_M_readClaims_262 : decode c0_M_readClaims 262 = .ok (.ifCond .eq 52, 3) := by decide +kernel
theorem d_M_readClaims_265 : decode c0_M_readClaims 265 = .ok (.aload_n 0, 1) := by decide +kernel
theorem d_M_readClaims_266 : decode c0_M_readClaims 266 = .ok (.getfield 25, 3) := by decide +kernel
theorem d_M_readClaims_269 : decode c0_M_readClaims 269 = .ok (.iload 11, 2) := by decide +kernel
theorem d_M_readClaims_271 : decode c0_M_readClaims 271 = .ok (.iaload, 1) := by decide +kernel
theorem d_M_readClaims_272 : decode c0_M_readClaims 272 = .ok (.iconst 4, 1) := by decide +kernel
theorem d_M_readClaims_273 : decode c0_M_readClaims 273 = .ok (.if_icmp .lt 41, 3) := by decide +kernel
theorem d_M_readClaims_276 : decode c0_M_readClaims 276 = .ok (.aload_n 0, 1) := by decide +kernel
theorem d_M_readClaims_277 : decode c0_M_readClaims 277 = .ok (.getfield 37, 3) := by decide +kernel
theorem d_M_readClaims_280 : decode c0_M_readClaims 280 = .ok (.aload_n 0, 1) := by decide +kernel
theorem d_M_readClaims_281 : decode c0_M_readClaims 281 = .ok (.getfield 31, 3) := by decide +kernel
theorem d_M_readClaims_284 : decode c0_M_readClaims 284 = .ok (.iload 11, 2) := by decide +kernel
theorem d_M_readClaims_286 : decode c0_M_readClaims 286 = .ok (.iaload, 1) := by decide +kernel
theorem d_M_readClaims_287 : decode c0_M_readClaims 287 = .ok (.aload_n 0, 1) := by decide +kernel
theorem d_M_readClaims_288 : decode c0_M_readClaims 288 = .ok (.getfield 37, 3) := by decide +kernel
theorem d_M_readClaims_291 : decode c0_M_readClaims 291 = .ok (.aload_n 0, 1) := by decide +kernel
theorem d_M_readClaims_292 : decode c0_M_readClaims 292 = .ok (.getfield 31, 3) := by decide +kernel
theorem d_M_readClaims_295 : decode c0_M_readClaims 295 = .ok (.iload 11, 2) := by decide +kernel
theorem d_M_readClaims_297 : decode c0_M_readClaims 297 = .ok (.iaload, 1) := by decide +kernel
theorem d_M_readClaims_298 : decode c0_M_readClaims 298 = .ok (.iaload, 1) := by decide +kernel
theorem d_M_readClaims_299 : decode c0_M_readClaims 299 = .ok (.iconst 1, 1) := by decide +kernel
theorem d_M_readClaims_300 : decode c0_M_readClaims 300 = .ok (.isub, 1) := by decide +kernel
theorem d_M_readClaims_301 : decode c0_M_readClaims 301 = .ok (.iastore, 1) := by decide +kernel
theorem d_M_readClaims_302 : decode c0_M_readClaims 302 = .ok (.aload_n 0, 1) := by decide +kernel
theorem d_M_readClaims_303 : decode c0_M_readClaims 303 = .ok (.getfield 28, 3) := by decide +kernel
theorem d_M_readClaims_306 : decode c0_M_readClaims 306 = .ok (.iload 11, 2) := by decide +kernel
theorem d_M_readClaims_308 : decode c0_M_readClaims 308 = .ok (.iaload, 1) := by decide +kernel
theorem d_M_readClaims_309 : decode c0_M_readClaims 309 = .ok (.istore_n 2, 1) := by decide +kernel
theorem d_M_readClaims_310 : decode c0_M_readClaims 310 = .ok (.iload_n 3, 1) := by decide +kernel
theorem d_M_readClaims_311 : decode c0_M_readClaims 311 = .ok (.iconst 1, 1) := by decide +kernel
theorem d_M_readClaims_312 : decode c0_M_readClaims 312 = .ok (.isub, 1) := by decide +kernel
theorem d_M_readClaims_313 : decode c0_M_readClaims 313 = .ok (.istore_n 3, 1) := by decide +kernel
theorem d_M_readClaims_314 : decode c0_M_readClaims 314 = .ok (.iload 10, 2) := by decide +kernel
theorem d_M_readClaims_316 : decode c0_M_readClaims 316 = .ok (.ifCond .eq 9, 3) := by decide +kernel
theorem d_M_readClaims_319 : decode c0_M_readClaims 319 = .ok (.iload_n 1, 1) := by decide +kernel
theorem d_M_readClaims_320 : decode c0_M_readClaims 320 = .ok (.iconst 1, 1) := by decide +kernel
theorem d_M_readClaims_321 : decode c0_M_readClaims 321 = .ok (.isub, 1) := by decide +kernel
theorem d_M_readClaims_322 : decode c0_M_readClaims 322 = .ok (.goto 4, 3) := by decide +kernel
theorem d_M_readClaims_325 : decode c0_M_readClaims 325 = .ok (.iload_n 1, 1) := by decide +kernel
theorem d_M_readClaims_326 : decode c0_M_readClaims 326 = .ok (.istore_n 1, 1) := by decide +kernel
theorem d_M_readClaims_327 : decode c0_M_readClaims 327 = .ok (.goto (-114), 3) := by decide +kernel
theorem d_M_readClaims_330 : decode c0_M_readClaims 330 = .ok (.iload_n 1, 1) := by decide +kernel
theorem d_M_readClaims_331 : decode c0_M_readClaims 331 = .ok (.ifCond .ne 7, 3) := by decide +kernel
theorem d_M_readClaims_334 : decode c0_M_readClaims 334 = .ok (.iconst 1, 1) := by decide +kernel
theorem d_M_readClaims_335 : decode c0_M_readClaims 335 = .ok (.goto 4, 3) := by decide +kernel
theorem d_M_readClaims_338 : decode c0_M_readClaims 338 = .ok (.iconst 0, 1) := by decide +kernel
theorem d_M_readClaims_339 : decode c0_M_readClaims 339 = .ok (.istore 4, 2) := by decide +kernel
theorem d_M_readClaims_341 : decode c0_M_readClaims 341 = .ok (.goto 219, 3) := by decide +kernel
theorem d_M_readClaims_344 : decode c0_M_readClaims 344 = .ok (.aload_n 0, 1) := by decide +kernel
theorem d_M_readClaims_345 : decode c0_M_readClaims 345 = .ok (.getfield 25, 3) := by decide +kernel
theorem d_M_readClaims_348 : decode c0_M_readClaims 348 = .ok (.iload 9, 2) := by decide +kernel
theorem d_M_readClaims_350 : decode c0_M_readClaims 350 = .ok (.iload 5, 2) := by decide +kernel
theorem d_M_readClaims_352 : decode c0_M_readClaims 352 = .ok (.bipush 38, 2) := by decide +kernel
theorem d_M_readClaims_354 : decode c0_M_readClaims 354 = .ok (.if_icmp .ne 7, 3) := by decide +kernel
theorem d_M_readClaims_357 : decode c0_M_readClaims 357 = .ok (.iconst 0, 1) := by decide +kernel
theorem d_M_readClaims_358 : decode c0_M_readClaims 358 = .ok (.goto 46, 3) := by decide +kernel
theorem d_M_readClaims_361 : decode c0_M_readClaims 361 = .ok (.iload 5, 2) := by decide +kernel
theorem d_M_readClaims_363 : decode c0_M_readClaims 363 = .ok (.bipush 47, 2) := by decide +kernel
theorem d_M_readClaims_365 : decode c0_M_readClaims 365 = .ok (.if_icmp .ne 7, 3) := by decide +kernel
theorem d_M_readClaims_368 : decode c0_M_readClaims 368 = .ok (.iconst 1, 1) := by decide +kernel
theorem d_M_readClaims_369 : decode c0_M_readClaims 369 = .ok (.goto 35, 3) := by decide +kernel
theorem d_M_readClaims_372 : decode c0_M_readClaims 372 = .ok (.iload 5, 2) := by decide +kernel
theorem d_M_readClaims_374 : decode c0_M_readClaims 374 = .ok (.bipush 62, 2) := by decide +kernel
theorem d_M_readClaims_376 : decode c0_M_readClaims 376 = .ok (.if_icmp .ne 7, 3) := by decide +kernel
theorem d_M_readClaims_379 : decode c0_M_readClaims 379 = .ok (.iconst 2, 1) := by decide +kernel
theorem d_M_readClaims_380 : decode c0_M_readClaims 380 = .ok (.goto 24, 3) := by decide +kernel
theorem d_M_readClaims_383 : decode c0_M_readClaims 383 = .ok (.iload 5, 2) := by decide +kernel
theorem d_M_readClaims_385 : decode c0_M_readClaims 385 = .ok (.bipush 33, 2) := by decide +kernel
theorem d_M_readClaims_387 : decode c0_M_readClaims 387 = .ok (.if_icmp .ne 7, 3) := by decide +kernel
theorem d_M_readClaims_390 : decode c0_M_readClaims 390 = .ok (.iconst 3, 1) := by decide +kernel
theorem d_M_readClaims_391 : decode c0_M_readClaims 391 = .ok (.goto 13, 3) := by decide +kernel
theorem d_M_readClaims_394 : decode c0_M_readClaims 394 = .ok (.iload 6, 2) := by decide +kernel
theorem d_M_readClaims_396 : decode c0_M_readClaims 396 = .ok (.ifCond .eq 7, 3) := by decide +kernel
theorem d_M_readClaims_399 : decode c0_M_readClaims 399 = .ok (.iconst 5, 1) := by decide +kernel
theorem d_M_readClaims_400 : decode c0_M_readClaims 400 = .ok (.goto 4, 3) := by decide +kernel
theorem d_M_readClaims_403 : decode c0_M_readClaims 403 = .ok (.iconst 4, 1) := by decide +kernel
theorem d_M_readClaims_404 : decode c0_M_readClaims 404 = .ok (.iastore, 1) := by decide +kernel
theorem d_M_readClaims_405 : decode c0_M_readClaims 405 = .ok (.aload_n 0, 1) := by decide +kernel
theorem d_M_readClaims_406 : decode c0_M_readClaims 406 = .ok (.aload_n 0, 1) := by decide +kernel
theorem d_M_readClaims_407 : decode c0_M_readClaims 407 = .ok (.getfield 77, 3) := by decide +kernel
theorem d_M_readClaims_410 : decode c0_M_readClaims 410 = .ok (.iconst 1, 1) := by decide +kernel
theorem d_M_readClaims_411 : decode c0_M_readClaims 411 = .ok (.iadd, 1) := by decide +kernel
theorem d_M_readClaims_412 : decode c0_M_readClaims 412 = .ok (.putfield 77, 3) := by decide +kernel
theorem d_M_readClaims_415 : decode c0_M_readClaims 415 = .ok (.iload_n 1, 1) := by decide +kernel
theorem d_M_readClaims_416 : decode c0_M_readClaims 416 = .ok (.iconst 1, 1) := by decide +kernel
theorem d_M_readClaims_417 : decode c0_M_readClaims 417 = .ok (.iadd, 1) := by decide +kernel
theorem d_M_readClaims_418 : decode c0_M_readClaims 418 = .ok (.istore_n 1, 1) := by decide +kernel
theorem d_M_readClaims_419 : decode c0_M_readClaims 419 = .ok (.aload_n 0, 1) := by decide +kernel
theorem d_M_readClaims_420 : decode c0_M_readClaims 420 = .ok (.getfield 40, 3) := by decide +kernel
theorem d_M_readClaims_423 : decode c0_M_readClaims 423 = .ok (.iload_n 1, 1) := by decide +kernel
theorem d_M_readClaims_424 : decode c0_M_readClaims 424 = .ok (.iload 9, 2) := by decide +kernel
theorem d_M_readClaims_426 : decode c0_M_readClaims 426 = .ok (.iastore, 1) := by decide +kernel
theorem d_M_readClaims_427 : decode c0_M_readClaims 427 = .ok (.aload_n 0, 1) := by decide +kernel
theorem d_M_readClaims_428 : decode c0_M_readClaims 428 = .ok (.getfield 43, 3) := by decide +kernel
theorem d_M_readClaims_431 : decode c0_M_readClaims 431 = .ok (.iload_n 1, 1) := by decide +kernel
theorem d_M_readClaims_432 : decode c0_M_readClaims 432 = .ok (.aload_n 0, 1) := by decide +kernel
theorem d_M_readClaims_433 : decode c0_M_readClaims 433 = .ok (.getfield 25, 3) := by decide +kernel
theorem d_M_readClaims_436 : decode c0_M_readClaims 436 = .ok (.iload 9, 2) := by decide +kernel
theorem d_M_readClaims_438 : decode c0_M_readClaims 438 = .ok (.iaload, 1) := by decide +kernel
theorem d_M_readClaims_439 : decode c0_M_readClaims 439 = .ok (.iconst 3, 1) := by decide +kernel
theorem d_M_readClaims_440 : decode c0_M_readClaims 440 = .ok (.if_icmp .ge 7, 3) := by decide +kernel
theorem d_M_readClaims_443 : decode c0_M_readClaims 443 = .ok (.iconst 2, 1) := by decide +kernel
theorem d_M_readClaims_444 : decode c0_M_readClaims 444 = .ok (.goto 4, 3) := by decide +kernel
theorem d_M_readClaims_447 : decode c0_M_readClaims 447 = .ok (.iconst 1, 1) := by decide +kernel
theorem d_M_readClaims_448 : decode c0_M_readClaims 448 = .ok (.iastore, 1) := by decide +kernel
theorem d_M_readClaims_449 : decode c0_M_readClaims 449 = .ok (.iload 7, 2) := by decide +kernel
theorem d_M_readClaims_451 : decode c0_M_readClaims 451 = .ok (.ifCond .eq 109, 3) := by decide +kernel
theorem d_M_readClaims_454 : decode c0_M_readClaims 454 = .ok (.aload_n 0, 1) := by decide +kernel
theorem d_M_readClaims_455 : decode c0_M_readClaims 455 = .ok (.invokevirtual 83, 3) := by decide +kernel
theorem d_M_readClaims_458 : decode c0_M_readClaims 458 = .ok (.bipush 120, 2) := by decide +kernel
theorem d_M_readClaims_460 : decode c0_M_readClaims 460 = .ok (.bipush 122, 2) := by decide +kernel
theorem d_M_readClaims_462 : decode c0_M_readClaims 462 = .ok (.invokestatic 70, 3) := by decide +kernel
theorem d_M_readClaims_465 : decode c0_M_readClaims 465 = .ok (.ifCond .ne 7, 3) := by decide +kernel
theorem d_M_readClaims_468 : decode c0_M_readClaims 468 = .ok (.aload_n 0, 1) := by decide +kernel
theorem d_M_readClaims_469 : decode c0_M_readClaims 469 = .ok (.invokevirtual 90, 3) := by decide +kernel
theorem d_M_readClaims_472 : decode c0_M_readClaims 472 = .ok (.aload_n 0, 1) := by decide +kernel
theorem d_M_readClaims_473 : decode c0_M_readClaims 473 = .ok (.getfield 31, 3) := by decide +kernel
theorem d_M_readClaims_476 : decode c0_M_readClaims 476 = .ok (.iload 9, 2) := by decide +kernel
theorem d_M_readClaims_478 : decode c0_M_readClaims 478 = .ok (.aload_n 0, 1) := by decide +kernel
theorem d_M_readClaims_479 : decode c0_M_readClaims 479 = .ok (.getfield 87, 3) := by decide +kernel
theorem d_M_readClaims_482 : decode c0_M_readClaims 482 = .ok (.ifCond .ge 13, 3) := by decide +kernel
theorem d_M_readClaims_485 : decode c0_M_readClaims 485 = .ok (.aload_n 0, 1) := by decide +kernel
theorem d_M_readClaims_486 : decode c0_M_readClaims 486 = .ok (.invokevirtual 83, 3) := by decide +kernel
theorem d_M_readClaims_489 : decode c0_M_readClaims 489 = .ok (.bipush 120, 2) := by decide +kernel
theorem d_M_readClaims_491 : decode c0_M_readClaims 491 = .ok (.isub, 1) := by decide +kernel
theorem d_M_readClaims_492 : decode c0_M_readClaims 492 = .ok (.goto 4, 3) := by decide +kernel
theorem d_M_readClaims_495 : decode c0_M_readClaims 495 = .ok (.iconst 0, 1) := by decide +kernel
theorem d_M_readClaims_496 : decode c0_M_readClaims 496 = .ok (.iastore, 1) := by decide +kernel
theorem d_M_readClaims_497 : decode c0_M_readClaims 497 = .ok (.aload_n 0, 1) := by decide +kernel
theorem d_M_readClaims_498 : decode c0_M_readClaims 498 = .ok (.aload_n 0, 1) := by decide +kernel
theorem d_M_readClaims_499 : decode c0_M_readClaims 499 = .ok (.getfield 77, 3) := by decide +kernel
theorem d_M_readClaims_502 : decode c0_M_readClaims 502 = .ok (.iconst 1, 1) := by decide +kernel
theorem d_M_readClaims_503 : decode c0_M_readClaims 503 = .ok (.iadd, 1) := by decide +kernel
theorem d_M_readClaims_504 : decode c0_M_readClaims 504 = .ok (.putfield 77, 3) := by decide +kernel
theorem d_M_readClaims_507 : decode c0_M_readClaims 507 = .ok (.aload_n 0, 1) := by decide +kernel
theorem d_M_readClaims_508 : decode c0_M_readClaims 508 = .ok (.getfield 37, 3) := by decide +kernel
theorem d_M_readClaims_511 : decode c0_M_readClaims 511 = .ok (.aload_n 0, 1) := by decide +kernel
theorem d_M_readClaims_512 : decode c0_M_readClaims 512 = .ok (.getfield 31, 3) := by decide +kernel
theorem d_M_readClaims_515 : decode c0_M_readClaims 515 = .ok (.iload 9, 2) := by decide +kernel
theorem d_M_readClaims_517 : decode c0_M_readClaims 517 = .ok (.iaload, 1) := by decide +kernel
theorem d_M_readClaims_518 : decode c0_M_readClaims 518 = .ok (.aload_n 0, 1) := by decide +kernel
theorem d_M_readClaims_519 : decode c0_M_readClaims 519 = .ok (.getfield 37, 3) := by decide +kernel
theorem d_M_readClaims_522 : decode c0_M_readClaims 522 = .ok (.aload_n 0, 1) := by decide +kernel
theorem d_M_readClaims_523 : decode c0_M_readClaims 523 = .ok (.getfield 31, 3) := by decide +kernel
theorem d_M_readClaims_526 : decode c0_M_readClaims 526 = .ok (.iload 9, 2) := by decide +kernel
theorem d_M_readClaims_528 : decode c0_M_readClaims 528 = .ok (.iaload, 1) := by decide +kernel
theorem d_M_readClaims_529 : decode c0_M_readClaims 529 = .ok (.iaload, 1) := by decide +kernel
theorem d_M_readClaims_530 : decode c0_M_readClaims 530 = .ok (.iconst 1, 1) := by decide +kernel
theorem d_M_readClaims_531 : decode c0_M_readClaims 531 = .ok (.iadd, 1) := by decide +kernel
theorem d_M_readClaims_532 : decode c0_M_readClaims 532 = .ok (.iastore, 1) := by decide +kernel
theorem d_M_readClaims_533 : decode c0_M_readClaims 533 = .ok (.aload_n 0, 1) := by decide +kernel
theorem d_M_readClaims_534 : decode c0_M_readClaims 534 = .ok (.aload_n 0, 1) := by decide +kernel
theorem d_M_readClaims_535 : decode c0_M_readClaims 535 = .ok (.getfield 116, 3) := by decide +kernel
theorem d_M_readClaims_538 : decode c0_M_readClaims 538 = .ok (.ifCond .ne 7, 3) := by decide +kernel
theorem d_M_readClaims_541 : decode c0_M_readClaims 541 = .ok (.iload_n 3, 1) := by decide +kernel
theorem d_M_readClaims_542 : decode c0_M_readClaims 542 = .ok (.ifCond .le 7, 3) := by decide +kernel
theorem d_M_readClaims_545 : decode c0_M_readClaims 545 = .ok (.iconst 1, 1) := by decide +kernel
theorem d_M_readClaims_546 : decode c0_M_readClaims 546 = .ok (.goto 4, 3) := by decide +kernel
theorem d_M_readClaims_549 : decode c0_M_readClaims 549 = .ok (.iconst 0, 1) := by decide +kernel
theorem d_M_readClaims_550 : decode c0_M_readClaims 550 = .ok (.putfield 116, 3) := by decide +kernel
theorem d_M_readClaims_553 : decode c0_M_readClaims 553 = .ok (.iload 9, 2) := by decide +kernel
theorem d_M_readClaims_555 : decode c0_M_readClaims 555 = .ok (.istore_n 2, 1) := by decide +kernel
theorem d_M_readClaims_556 : decode c0_M_readClaims 556 = .ok (.iload_n 3, 1) := by decide +kernel
theorem d_M_readClaims_557 : decode c0_M_readClaims 557 = .ok (.iconst 1, 1) := by decide +kernel
theorem d_M_readClaims_558 : decode c0_M_readClaims 558 = .ok (.iadd, 1) := by decide +kernel
theorem d_M_readClaims_559 : decode c0_M_readClaims 559 = .ok (.istore_n 3, 1) := by decide +kernel
theorem d_M_readClaims_560 : decode c0_M_readClaims 560 = .ok (.goto (-511), 3) := by decide +kernel
theorem d_M_readClaims_563 : decode c0_M_readClaims 563 = .ok (.return_, 1) := by decide +kernel
theorem d_M_isBracket_0 : decode c0_M_isBracket 0 = .ok (.aload_n 0, 1) := by decide +kernel
theorem d_M_isBracket_1 : decode c0_M_isBracket 1 = .ok (.getfield 13, 3) := by decide +kernel
theorem d_M_isBracket_4 : decode c0_M_isBracket 4 = .ok (.iload_n 1, 1) := by decide +kernel
theorem d_M_isBracket_5 : decode c0_M_isBracket 5 = .ok (.iaload, 1) := by decide +kernel
theorem d_M_isBracket_6 : decode c0_M_isBracket 6 = .ok (.bipush 6, 2) := by decide +kernel
theorem d_M_isBracket_8 : decode c0_M_isBracket 8 = .ok (.if_icmp .lt 7, 3) := by decide +kernel
theorem d_M_isBracket_11 : decode c0_M_isBracket 11 = .ok (.iconst 1, 1) := by decide +kernel
theorem d_M_isBracket_12 : decode c0_M_isBracket 12 = .ok (.goto 4, 3) := by decide +kernel
theorem d_M_isBracket_15 : decode c0_M_isBracket 15 = .ok (.iconst 0, 1) := by decide +kernel
theorem d_M_isBracket_16 : decode c0_M_isBracket 16 = .ok (.ireturn, 1) := by decide +kernel
theorem d_M_rest_0 : decode c0_M_rest 0 = .ok (.aload_n 0, 1) := by decide +kernel
theorem d_M_rest_1 : decode c0_M_rest 1 = .ok (.getfield 22, 3) := by decide +kernel
theorem d_M_rest_4 : decode c0_M_rest 4 = .ok (.iconst 4, 1) := by decide +kernel
theorem d_M_rest_5 : decode c0_M_rest 5 = .ok (.iload_n 1, 1) := by decide +kernel
theorem d_M_rest_6 : decode c0_M_rest 6 = .ok (.imul, 1) := by decide +kernel
theorem d_M_rest_7 : decode c0_M_rest 7 = .ok (.iconst 3, 1) := by decide +kernel
theorem d_M_rest_8 : decode c0_M_rest 8 = .ok (.iadd, 1) := by decide +kernel
theorem d_M_rest_9 : decode c0_M_rest 9 = .ok (.iaload, 1) := by decide +kernel
theorem d_M_rest_10 : decode c0_M_rest 10 = .ok (.istore_n 3, 1) := by decide +kernel
theorem d_M_rest_11 : decode c0_M_rest 11 = .ok (.iconst 0, 1) := by decide +kernel
theorem d_M_rest_12 : decode c0_M_rest 12 = .ok (.istore 4, 2) := by decide +kernel
theorem d_M_rest_14 : decode c0_M_rest 14 = .ok (.iload 4, 2) := by decide +kernel
theorem d_M_rest_16 : decode c0_M_rest 16 = .ok (.iconst 3, 1) := by decide +kernel
theorem d_M_rest_17 : decode c0_M_rest 17 = .ok (.if_icmp .ge 41, 3) := by decide +kernel
theorem d_M_rest_20 : decode c0_M_rest 20 = .ok (.iload 4, 2) := by decide +kernel
theorem d_M_rest_22 : decode c0_M_rest 22 = .ok (.iload_n 2, 1) := by decide +kernel
theorem d_M_rest_23 : decode c0_M_rest 23 = .ok (.if_icmp .ne 7, 3) := by decide +kernel
theorem d_M_rest_26 : decode c0_M_rest 26 = .ok (.iload_n 3, 1) := by decide +kernel
theorem d_M_rest_27 : decode c0_M_rest 27 = .ok (.goto 24, 3) := by decide +kernel
theorem d_M_rest_30 : decode c0_M_rest 30 = .ok (.iload_n 3, 1) := by decide +kernel
theorem d_M_rest_31 : decode c0_M_rest 31 = .ok (.aload_n 0, 1) := by decide +kernel
theorem d_M_rest_32 : decode c0_M_rest 32 = .ok (.getfield 22, 3) := by decide +kernel
theorem d_M_rest_35 : decode c0_M_rest 35 = .ok (.iconst 4, 1) := by decide +kernel
theorem d_M_rest_36 : decode c0_M_rest 36 = .ok (.iload_n 1, 1) := by decide +kernel
theorem d_M_rest_37 : decode c0_M_rest 37 = .ok (.imul, 1) := by decide +kernel
theorem d_M_rest_38 : decode c0_M_rest 38 = .ok (.iload 4, 2) := by decide +kernel
theorem d_M_rest_40 : decode c0_M_rest 40 = .ok (.iadd, 1) := by decide +kernel
theorem d_M_rest_41 : decode c0_M_rest 41 = .ok (.iaload, 1) := by decide +kernel
theorem d_M_rest_42 : decode c0_M_rest 42 = .ok (.aload_n 0, 1) := by decide +kernel
theorem d_M_rest_43 : decode c0_M_rest 43 = .ok (.getfield 46, 3) := by decide +kernel
theorem d_M_rest_46 : decode c0_M_rest 46 = .ok (.iload 4, 2) := by decide +kernel
theorem d_M_rest_48 : decode c0_M_rest 48 = .ok (.iaload, 1) := by decide +kernel
theorem d_M_rest_49 : decode c0_M_rest 49 = .ok (.imul, 1) := by decide +kernel
theorem d_M_rest_50 : decode c0_M_rest 50 = .ok (.iadd, 1) := by decide +kernel
theorem d_M_rest_51 : decode c0_M_rest 51 = .ok (.istore_n 3, 1) := by decide +kernel
theorem d_M_rest_52 : decode c0_M_rest 52 = .ok (.iinc 4 1, 3) := by decide +kernel
theorem d_M_rest_55 : decode c0_M_rest 55 = .ok (.goto (-41), 3) := by decide +kernel
theorem d_M_rest_58 : decode c0_M_rest 58 = .ok (.iload_n 3, 1) := by decide +kernel
theorem d_M_rest_59 : decode c0_M_rest 59 = .ok (.ireturn, 1) := by decide +kernel
theorem d_M_bracketHolds_0 : decode c0_M_bracketHolds 0 = .ok (.aload_n 0, 1) := by decide +kernel
theorem d_M_bracketHolds_1 : decode c0_M_bracketHolds 1 = .ok (.iload_n 1, 1) := by decide +kernel
theorem d_M_bracketHolds_2 : decode c0_M_bracketHolds 2 = .ok (.iconst (-1), 1) := by decide +kernel
