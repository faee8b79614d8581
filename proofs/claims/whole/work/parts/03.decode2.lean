theorem dX6_mixBlock_7 : decode cX6_mixBlock 7 = .ok (.aload_n 0, 1) := by decide +kernel
theorem dX6_mixBlock_8 : decode cX6_mixBlock 8 = .ok (.getfield 7, 3) := by decide +kernel
theorem dX6_mixBlock_11 : decode cX6_mixBlock 11 = .ok (.iconst 1, 1) := by decide +kernel
theorem dX6_mixBlock_12 : decode cX6_mixBlock 12 = .ok (.iaload, 1) := by decide +kernel
theorem dX6_mixBlock_13 : decode cX6_mixBlock 13 = .ok (.istore_n 2, 1) := by decide +kernel
theorem dX6_mixBlock_14 : decode cX6_mixBlock 14 = .ok (.aload_n 0, 1) := by decide +kernel
theorem dX6_mixBlock_15 : decode cX6_mixBlock 15 = .ok (.getfield 7, 3) := by decide +kernel
theorem dX6_mixBlock_18 : decode cX6_mixBlock 18 = .ok (.iconst 2, 1) := by decide +kernel
theorem dX6_mixBlock_19 : decode cX6_mixBlock 19 = .ok (.iaload, 1) := by decide +kernel
theorem dX6_mixBlock_20 : decode cX6_mixBlock 20 = .ok (.istore_n 3, 1) := by decide +kernel
theorem dX6_mixBlock_21 : decode cX6_mixBlock 21 = .ok (.aload_n 0, 1) := by decide +kernel
theorem dX6_mixBlock_22 : decode cX6_mixBlock 22 = .ok (.getfield 7, 3) := by decide +kernel
theorem dX6_mixBlock_25 : decode cX6_mixBlock 25 = .ok (.iconst 3, 1) := by decide +kernel
theorem dX6_mixBlock_26 : decode cX6_mixBlock 26 = .ok (.iaload, 1) := by decide +kernel
theorem dX6_mixBlock_27 : decode cX6_mixBlock 27 = .ok (.istore 4, 2) := by decide +kernel
theorem dX6_mixBlock_29 : decode cX6_mixBlock 29 = .ok (.aload_n 0, 1) := by decide +kernel
theorem dX6_mixBlock_30 : decode cX6_mixBlock 30 = .ok (.getfield 7, 3) := by decide +kernel
theorem dX6_mixBlock_33 : decode cX6_mixBlock 33 = .ok (.iconst 4, 1) := by decide +kernel
theorem dX6_mixBlock_34 : decode cX6_mixBlock 34 = .ok (.iaload, 1) := by decide +kernel
theorem dX6_mixBlock_35 : decode cX6_mixBlock 35 = .ok (.istore 5, 2) := by decide +kernel
theorem dX6_mixBlock_37 : decode cX6_mixBlock 37 = .ok (.aload_n 0, 1) := by decide +kernel
theorem dX6_mixBlock_38 : decode cX6_mixBlock 38 = .ok (.getfield 7, 3) := by decide +kernel
theorem dX6_mixBlock_41 : decode cX6_mixBlock 41 = .ok (.iconst 5, 1) := by decide +kernel
theorem dX6_mixBlock_42 : decode cX6_mixBlock 42 = .ok (.iaload, 1) := by decide +kernel
theorem dX6_mixBlock_43 : decode cX6_mixBlock 43 = .ok (.istore 6, 2) := by decide +kernel
theorem dX6_mixBlock_45 : decode cX6_mixBlock 45 = .ok (.aload_n 0, 1) := by decide +kernel
theorem dX6_mixBlock_46 : decode cX6_mixBlock 46 = .ok (.getfield 7, 3) := by decide +kernel
theorem dX6_mixBlock_49 : decode cX6_mixBlock 49 = .ok (.bipush 6, 2) := by decide +kernel
theorem dX6_mixBlock_51 : decode cX6_mixBlock 51 = .ok (.iaload, 1) := by decide +kernel
theorem dX6_mixBlock_52 : decode cX6_mixBlock 52 = .ok (.istore 7, 2) := by decide +kernel
theorem dX6_mixBlock_54 : decode cX6_mixBlock 54 = .ok (.aload_n 0, 1) := by decide +kernel
theorem dX6_mixBlock_55 : decode cX6_mixBlock 55 = .ok (.getfield 7, 3) := by decide +kernel
theorem dX6_mixBlock_58 : decode cX6_mixBlock 58 = .ok (.bipush 7, 2) := by decide +kernel
theorem dX6_mixBlock_60 : decode cX6_mixBlock 60 = .ok (.iaload, 1) := by decide +kernel
theorem dX6_mixBlock_61 : decode cX6_mixBlock 61 = .ok (.istore 8, 2) := by decide +kernel
theorem dX6_mixBlock_63 : decode cX6_mixBlock 63 = .ok (.iconst 0, 1) := by decide +kernel
theorem dX6_mixBlock_64 : decode cX6_mixBlock 64 = .ok (.istore 9, 2) := by decide +kernel
theorem dX6_mixBlock_66 : decode cX6_mixBlock 66 = .ok (.iload 9, 2) := by decide +kernel
theorem dX6_mixBlock_68 : decode cX6_mixBlock 68 = .ok (.aload_n 0, 1) := by decide +kernel
theorem dX6_mixBlock_69 : decode cX6_mixBlock 69 = .ok (.getfield 13, 3) := by decide +kernel
theorem dX6_mixBlock_72 : decode cX6_mixBlock 72 = .ok (.arraylength, 1) := by decide +kernel
theorem dX6_mixBlock_73 : decode cX6_mixBlock 73 = .ok (.if_icmp .ge 152, 3) := by decide +kernel
theorem dX6_mixBlock_76 : decode cX6_mixBlock 76 = .ok (.iload 9, 2) := by decide +kernel
theorem dX6_mixBlock_78 : decode cX6_mixBlock 78 = .ok (.getstatic 35, 3) := by decide +kernel
theorem dX6_mixBlock_81 : decode cX6_mixBlock 81 = .ok (.arraylength, 1) := by decide +kernel
theorem dX6_mixBlock_82 : decode cX6_mixBlock 82 = .ok (.if_icmp .ge 143, 3) := by decide +kernel
theorem dX6_mixBlock_85 : decode cX6_mixBlock 85 = .ok (.iload 5, 2) := by decide +kernel
theorem dX6_mixBlock_87 : decode cX6_mixBlock 87 = .ok (.bipush 6, 2) := by decide +kernel
theorem dX6_mixBlock_89 : decode cX6_mixBlock 89 = .ok (.invokestatic 29, 3) := by decide +kernel
theorem dX6_mixBlock_92 : decode cX6_mixBlock 92 = .ok (.iload 5, 2) := by decide +kernel
theorem dX6_mixBlock_94 : decode cX6_mixBlock 94 = .ok (.bipush 11, 2) := by decide +kernel
theorem dX6_mixBlock_96 : decode cX6_mixBlock 96 = .ok (.invokestatic 29, 3) := by decide +kernel
theorem dX6_mixBlock_99 : decode cX6_mixBlock 99 = .ok (.ixor, 1) := by decide +kernel
theorem dX6_mixBlock_100 : decode cX6_mixBlock 100 = .ok (.iload 5, 2) := by decide +kernel
theorem dX6_mixBlock_102 : decode cX6_mixBlock 102 = .ok (.bipush 25, 2) := by decide +kernel
theorem dX6_mixBlock_104 : decode cX6_mixBlock 104 = .ok (.invokestatic 29, 3) := by decide +kernel
theorem dX6_mixBlock_107 : decode cX6_mixBlock 107 = .ok (.ixor, 1) := by decide +kernel
theorem dX6_mixBlock_108 : decode cX6_mixBlock 108 = .ok (.istore 10, 2) := by decide +kernel
theorem dX6_mixBlock_110 : decode cX6_mixBlock 110 = .ok (.iload_n 1, 1) := by decide +kernel
theorem dX6_mixBlock_111 : decode cX6_mixBlock 111 = .ok (.iconst 2, 1) := by decide +kernel
theorem dX6_mixBlock_112 : decode cX6_mixBlock 112 = .ok (.invokestatic 29, 3) := by decide +kernel
theorem dX6_mixBlock_115 : decode cX6_mixBlock 115 = .ok (.iload_n 1, 1) := by decide +kernel
theorem dX6_mixBlock_116 : decode cX6_mixBlock 116 = .ok (.bipush 13, 2) := by decide +kernel
theorem dX6_mixBlock_118 : decode cX6_mixBlock 118 = .ok (.invokestatic 29, 3) := by decide +kernel
theorem dX6_mixBlock_121 : decode cX6_mixBlock 121 = .ok (.ixor, 1) := by decide +kernel
theorem dX6_mixBlock_122 : decode cX6_mixBlock 122 = .ok (.iload_n 1, 1) := by decide +kernel
theorem dX6_mixBlock_123 : decode cX6_mixBlock 123 = .ok (.bipush 22, 2) := by decide +kernel
theorem dX6_mixBlock_125 : decode cX6_mixBlock 125 = .ok (.invokestatic 29, 3) := by decide +kernel
theorem dX6_mixBlock_128 : decode cX6_mixBlock 128 = .ok (.ixor, 1) := by decide +kernel
theorem dX6_mixBlock_129 : decode cX6_mixBlock 129 = .ok (.istore 11, 2) := by decide +kernel
theorem dX6_mixBlock_131 : decode cX6_mixBlock 131 = .ok (.iload 5, 2) := by decide +kernel
theorem dX6_mixBlock_133 : decode cX6_mixBlock 133 = .ok (.iload 6, 2) := by decide +kernel
theorem dX6_mixBlock_135 : decode cX6_mixBlock 135 = .ok (.iand, 1) := by decide +kernel
theorem dX6_mixBlock_136 : decode cX6_mixBlock 136 = .ok (.iload 5, 2) := by decide +kernel
theorem dX6_mixBlock_138 : decode cX6_mixBlock 138 = .ok (.iconst (-1), 1) := by decide +kernel
theorem dX6_mixBlock_139 : decode cX6_mixBlock 139 = .ok (.ixor, 1) := by decide +kernel
theorem dX6_mixBlock_140 : decode cX6_mixBlock 140 = .ok (.iload 7, 2) := by decide +kernel
theorem dX6_mixBlock_142 : decode cX6_mixBlock 142 = .ok (.iand, 1) := by decide +kernel
theorem dX6_mixBlock_143 : decode cX6_mixBlock 143 = .ok (.ixor, 1) := by decide +kernel
theorem dX6_mixBlock_144 : decode cX6_mixBlock 144 = .ok (.istore 12, 2) := by decide +kernel
theorem dX6_mixBlock_146 : decode cX6_mixBlock 146 = .ok (.iload_n 1, 1) := by decide +kernel
theorem dX6_mixBlock_147 : decode cX6_mixBlock 147 = .ok (.iload_n 2, 1) := by decide +kernel
theorem dX6_mixBlock_148 : decode cX6_mixBlock 148 = .ok (.iand, 1) := by decide +kernel
theorem dX6_mixBlock_149 : decode cX6_mixBlock 149 = .ok (.iload_n 1, 1) := by decide +kernel
theorem dX6_mixBlock_150 : decode cX6_mixBlock 150 = .ok (.iload_n 3, 1) := by decide +kernel
theorem dX6_mixBlock_151 : decode cX6_mixBlock 151 = .ok (.iand, 1) := by decide +kernel
theorem dX6_mixBlock_152 : decode cX6_mixBlock 152 = .ok (.ixor, 1) := by decide +kernel
theorem dX6_mixBlock_153 : decode cX6_mixBlock 153 = .ok (.iload_n 2, 1) := by decide +kernel
theorem dX6_mixBlock_154 : decode cX6_mixBlock 154 = .ok (.iload_n 3, 1) := by decide +kernel
theorem dX6_mixBlock_155 : decode cX6_mixBlock 155 = .ok (.iand, 1) := by decide +kernel
theorem dX6_mixBlock_156 : decode cX6_mixBlock 156 = .ok (.ixor, 1) := by decide +kernel
theorem dX6_mixBlock_157 : decode cX6_mixBlock 157 = .ok (.istore 13, 2) := by decide +kernel
theorem dX6_mixBlock_159 : decode cX6_mixBlock 159 = .ok (.iload 8, 2) := by decide +kernel
theorem dX6_mixBlock_161 : decode cX6_mixBlock 161 = .ok (.iload 10, 2) := by decide +kernel
theorem dX6_mixBlock_163 : decode cX6_mixBlock 163 = .ok (.iadd, 1) := by decide +kernel
theorem dX6_mixBlock_164 : decode cX6_mixBlock 164 = .ok (.iload 12, 2) := by decide +kernel
theorem dX6_mixBlock_166 : decode cX6_mixBlock 166 = .ok (.iadd, 1) := by decide +kernel
theorem dX6_mixBlock_167 : decode cX6_mixBlock 167 = .ok (.getstatic 35, 3) := by decide +kernel
theorem dX6_mixBlock_170 : decode cX6_mixBlock 170 = .ok (.iload 9, 2) := by decide +kernel
theorem dX6_mixBlock_172 : decode cX6_mixBlock 172 = .ok (.iaload, 1) := by decide +kernel
theorem dX6_mixBlock_173 : decode cX6_mixBlock 173 = .ok (.iadd, 1) := by decide +kernel
theorem dX6_mixBlock_174 : decode cX6_mixBlock 174 = .ok (.aload_n 0, 1) := by decide +kernel
theorem dX6_mixBlock_175 : decode cX6_mixBlock 175 = .ok (.getfield 13, 3) := by decide +kernel
theorem dX6_mixBlock_178 : decode cX6_mixBlock 178 = .ok (.iload 9, 2) := by decide +kernel
theorem dX6_mixBlock_180 : decode cX6_mixBlock 180 = .ok (.iaload, 1) := by decide +kernel
theorem dX6_mixBlock_181 : decode cX6_mixBlock 181 = .ok (.iadd, 1) := by decide +kernel
theorem dX6_mixBlock_182 : decode cX6_mixBlock 182 = .ok (.istore 14, 2) := by decide +kernel
theorem dX6_mixBlock_184 : decode cX6_mixBlock 184 = .ok (.iload 7, 2) := by decide +kernel
theorem dX6_mixBlock_186 : decode cX6_mixBlock 186 = .ok (.istore 8, 2) := by decide +kernel
theorem dX6_mixBlock_188 : decode cX6_mixBlock 188 = .ok (.iload 6, 2) := by decide +kernel
theorem dX6_mixBlock_190 : decode cX6_mixBlock 190 = .ok (.istore 7, 2) := by decide +kernel
theorem dX6_mixBlock_192 : decode cX6_mixBlock 192 = .ok (.iload 5, 2) := by decide +kernel
theorem dX6_mixBlock_194 : decode cX6_mixBlock 194 = .ok (.istore 6, 2) := by decide +kernel
theorem dX6_mixBlock_196 : decode cX6_mixBlock 196 = .ok (.iload 4, 2) := by decide +kernel
theorem dX6_mixBlock_198 : decode cX6_mixBlock 198 = .ok (.iload 14, 2) := by decide +kernel
theorem dX6_mixBlock_200 : decode cX6_mixBlock 200 = .ok (.iadd, 1) := by decide +kernel
theorem dX6_mixBlock_201 : decode cX6_mixBlock 201 = .ok (.istore 5, 2) := by decide +kernel
theorem dX6_mixBlock_203 : decode cX6_mixBlock 203 = .ok (.iload_n 3, 1) := by decide +kernel
theorem dX6_mixBlock_204 : decode cX6_mixBlock 204 = .ok (.istore 4, 2) := by decide +kernel
theorem dX6_mixBlock_206 : decode cX6_mixBlock 206 = .ok (.iload_n 2, 1) := by decide +kernel
theorem dX6_mixBlock_207 : decode cX6_mixBlock 207 = .ok (.istore_n 3, 1) := by decide +kernel
theorem dX6_mixBlock_208 : decode cX6_mixBlock 208 = .ok (.iload_n 1, 1) := by decide +kernel
theorem dX6_mixBlock_209 : decode cX6_mixBlock 209 = .ok (.istore_n 2, 1) := by decide +kernel
theorem dX6_mixBlock_210 : decode cX6_mixBlock 210 = .ok (.iload 14, 2) := by decide +kernel
theorem dX6_mixBlock_212 : decode cX6_mixBlock 212 = .ok (.iload 11, 2) := by decide +kernel
theorem dX6_mixBlock_214 : decode cX6_mixBlock 214 = .ok (.iadd, 1) := by decide +kernel
theorem dX6_mixBlock_215 : decode cX6_mixBlock 215 = .ok (.iload 13, 2) := by decide +kernel
theorem dX6_mixBlock_217 : decode cX6_mixBlock 217 = .ok (.iadd, 1) := by decide +kernel
theorem dX6_mixBlock_218 : decode cX6_mixBlock 218 = .ok (.istore_n 1, 1) := by decide +kernel
theorem dX6_mixBlock_219 : decode cX6_mixBlock 219 = .ok (.iinc 9 1, 3) := by decide +kernel
theorem dX6_mixBlock_222 : decode cX6_mixBlock 222 = .ok (.goto (-156), 3) := by decide +kernel
theorem dX6_mixBlock_225 : decode cX6_mixBlock 225 = .ok (.aload_n 0, 1) := by decide +kernel
theorem dX6_mixBlock_226 : decode cX6_mixBlock 226 = .ok (.getfield 7, 3) := by decide +kernel
theorem dX6_mixBlock_229 : decode cX6_mixBlock 229 = .ok (.iconst 0, 1) := by decide +kernel
theorem dX6_mixBlock_230 : decode cX6_mixBlock 230 = .ok (.dup2, 1) := by decide +kernel
theorem dX6_mixBlock_231 : decode cX6_mixBlock 231 = .ok (.iaload, 1) := by decide +kernel
theorem dX6_mixBlock_232 : decode cX6_mixBlock 232 = .ok (.iload_n 1, 1) := by decide +kernel
theorem dX6_mixBlock_233 : decode cX6_mixBlock 233 = .ok (.iadd, 1) := by decide +kernel
theorem dX6_mixBlock_234 : decode cX6_mixBlock 234 = .ok (.iastore, 1) := by decide +kernel
theorem dX6_mixBlock_235 : decode cX6_mixBlock 235 = .ok (.aload_n 0, 1) := by decide +kernel
theorem dX6_mixBlock_236 : decode cX6_mixBlock 236 = .ok (.getfield 7, 3) := by decide +kernel
theorem dX6_mixBlock_239 : decode cX6_mixBlock 239 = .ok (.iconst 1, 1) := by decide +kernel
theorem dX6_mixBlock_240 : decode cX6_mixBlock 240 = .ok (.dup2, 1) := by decide +kernel
theorem dX6_mixBlock_241 : decode cX6_mixBlock 241 = .ok (.iaload, 1) := by decide +kernel
theorem dX6_mixBlock_242 : decode cX6_mixBlock 242 = .ok (.iload_n 2, 1) := by decide +kernel
theorem dX6_mixBlock_243 : decode cX6_mixBlock 243 = .ok (.iadd, 1) := by decide +kernel
theorem dX6_mixBlock_244 : decode cX6_mixBlock 244 = .ok (.iastore, 1) := by decide +kernel
theorem dX6_mixBlock_245 : decode cX6_mixBlock 245 = .ok (.aload_n 0, 1) := by decide +kernel
theorem dX6_mixBlock_246 : decode cX6_mixBlock 246 = .ok (.getfield 7, 3) := by decide +kernel
theorem dX6_mixBlock_249 : decode cX6_mixBlock 249 = .ok (.iconst 2, 1) := by decide +kernel
theorem dX6_mixBlock_250 : decode cX6_mixBlock 250 = .ok (.dup2, 1) := by decide +kernel
theorem dX6_mixBlock_251 : decode cX6_mixBlock 251 = .ok (.iaload, 1) := by decide +kernel
theorem dX6_mixBlock_252 : decode cX6_mixBlock 252 = .ok (.iload_n 3, 1) := by decide +kernel
theorem dX6_mixBlock_253 : decode cX6_mixBlock 253 = .ok (.iadd, 1) := by decide +kernel
theorem dX6_mixBlock_254 : decode cX6_mixBlock 254 = .ok (.iastore, 1) := by decide +kernel
theorem dX6_mixBlock_255 : decode cX6_mixBlock 255 = .ok (.aload_n 0, 1) := by decide +kernel
theorem dX6_mixBlock_256 : decode cX6_mixBlock 256 = .ok (.getfield 7, 3) := by decide +kernel
theorem dX6_mixBlock_259 : decode cX6_mixBlock 259 = .ok (.iconst 3, 1) := by decide +kernel
theorem dX6_mixBlock_260 : decode cX6_mixBlock 260 = .ok (.dup2, 1) := by decide +kernel
theorem dX6_mixBlock_261 : decode cX6_mixBlock 261 = .ok (.iaload, 1) := by decide +kernel
theorem dX6_mixBlock_262 : decode cX6_mixBlock 262 = .ok (.iload 4, 2) := by decide +kernel
theorem dX6_mixBlock_264 : decode cX6_mixBlock 264 = .ok (.iadd, 1) := by decide +kernel
theorem dX6_mixBlock_265 : decode cX6_mixBlock 265 = .ok (.iastore, 1) := by decide +kernel
theorem dX6_mixBlock_266 : decode cX6_mixBlock 266 = .ok (.aload_n 0, 1) := by decide +kernel
theorem dX6_mixBlock_267 : decode cX6_mixBlock 267 = .ok (.getfield 7, 3) := by decide +kernel
theorem dX6_mixBlock_270 : decode cX6_mixBlock 270 = .ok (.iconst 4, 1) := by decide +kernel
theorem dX6_mixBlock_271 : decode cX6_mixBlock 271 = .ok (.dup2, 1) := by decide +kernel
theorem dX6_mixBlock_272 : decode cX6_mixBlock 272 = .ok (.iaload, 1) := by decide +kernel
theorem dX6_mixBlock_273 : decode cX6_mixBlock 273 = .ok (.iload 5, 2) := by decide +kernel
theorem dX6_mixBlock_275 : decode cX6_mixBlock 275 = .ok (.iadd, 1) := by decide +kernel
theorem dX6_mixBlock_276 : decode cX6_mixBlock 276 = .ok (.iastore, 1) := by decide +kernel
theorem dX6_mixBlock_277 : decode cX6_mixBlock 277 = .ok (.aload_n 0, 1) := by decide +kernel
theorem dX6_mixBlock_278 : decode cX6_mixBlock 278 = .ok (.getfield 7, 3) := by decide +kernel
theorem dX6_mixBlock_281 : decode cX6_mixBlock 281 = .ok (.iconst 5, 1) := by decide +kernel
theorem dX6_mixBlock_282 : decode cX6_mixBlock 282 = .ok (.dup2, 1) := by decide +kernel
theorem dX6_mixBlock_283 : decode cX6_mixBlock 283 = .ok (.iaload, 1) := by decide +kernel
theorem dX6_mixBlock_284 : decode cX6_mixBlock 284 = .ok (.iload 6, 2) := by decide +kernel
theorem dX6_mixBlock_286 : decode cX6_mixBlock 286 = .ok (.iadd, 1) := by decide +kernel
theorem dX6_mixBlock_287 : decode cX6_mixBlock 287 = .ok (.iastore, 1) := by decide +kernel
theorem dX6_mixBlock_288 : decode cX6_mixBlock 288 = .ok (.aload_n 0, 1) := by decide +kernel
theorem dX6_mixBlock_289 : decode cX6_mixBlock 289 = .ok (.getfield 7, 3) := by decide +kernel
theorem dX6_mixBlock_292 : decode cX6_mixBlock 292 = .ok (.bipush 6, 2) := by decide +kernel
theorem dX6_mixBlock_294 : decode cX6_mixBlock 294 = .ok (.dup2, 1) := by decide +kernel
theorem dX6_mixBlock_295 : decode cX6_mixBlock 295 = .ok (.iaload, 1) := by decide +kernel
theorem dX6_mixBlock_296 : decode cX6_mixBlock 296 = .ok (.iload 7, 2) := by decide +kernel
theorem dX6_mixBlock_298 : decode cX6_mixBlock 298 = .ok (.iadd, 1) := by decide +kernel
theorem dX6_mixBlock_299 : decode cX6_mixBlock 299 = .ok (.iastore, 1) := by decide +kernel
theorem dX6_mixBlock_300 : decode cX6_mixBlock 300 = .ok (.aload_n 0, 1) := by decide +kernel
theorem dX6_mixBlock_301 : decode cX6_mixBlock 301 = .ok (.getfield 7, 3) := by decide +kernel
theorem dX6_mixBlock_304 : decode cX6_mixBlock 304 = .ok (.bipush 7, 2) := by decide +kernel
theorem dX6_mixBlock_306 : decode cX6_mixBlock 306 = .ok (.dup2, 1) := by decide +kernel
theorem dX6_mixBlock_307 : decode cX6_mixBlock 307 = .ok (.iaload, 1) := by decide +kernel
theorem dX6_mixBlock_308 : decode cX6_mixBlock 308 = .ok (.iload 8, 2) := by decide +kernel
theorem dX6_mixBlock_310 : decode cX6_mixBlock 310 = .ok (.iadd, 1) := by decide +kernel
theorem dX6_mixBlock_311 : decode cX6_mixBlock 311 = .ok (.iastore, 1) := by decide +kernel
theorem dX6_mixBlock_312 : decode cX6_mixBlock 312 = .ok (.return_, 1) := by decide +kernel
theorem dX7_init_0 : decode cX7_init 0 = .ok (.aload_n 0, 1) := by decide +kernel
theorem dX7_init_1 : decode cX7_init 1 = .ok (.invokespecial 1, 3) := by decide +kernel
theorem dX7_init_4 : decode cX7_init 4 = .ok (.aload_n 0, 1) := by decide +kernel
theorem dX7_init_5 : decode cX7_init 5 = .ok (.bipush 31, 2) := by decide +kernel
theorem dX7_init_7 : decode cX7_init 7 = .ok (.bipush 40, 2) := by decide +kernel
theorem dX7_init_9 : decode cX7_init 9 = .ok (.iload_n 1, 1) := by decide +kernel
theorem dX7_init_10 : decode cX7_init 10 = .ok (.invokestatic 9, 3) := by decide +kernel
theorem dX7_init_13 : decode cX7_init 13 = .ok (.invokestatic 15, 3) := by decide +kernel
theorem dX7_init_16 : decode cX7_init 16 = .ok (.putfield 18, 3) := by decide +kernel
theorem dX7_init_19 : decode cX7_init 19 = .ok (.aload_n 0, 1) := by decide +kernel
theorem dX7_init_20 : decode cX7_init 20 = .ok (.iconst 2, 1) := by decide +kernel
theorem dX7_init_21 : decode cX7_init 21 = .ok (.aload_n 0, 1) := by decide +kernel
theorem dX7_init_22 : decode cX7_init 22 = .ok (.getfield 18, 3) := by decide +kernel
theorem dX7_init_25 : decode cX7_init 25 = .ok (.imul, 1) := by decide +kernel
theorem dX7_init_26 : decode cX7_init 26 = .ok (.putfield 22, 3) := by decide +kernel
theorem dX7_init_29 : decode cX7_init 29 = .ok (.aload_n 0, 1) := by decide +kernel
theorem dX7_init_30 : decode cX7_init 30 = .ok (.iconst 1, 1) := by decide +kernel
theorem dX7_init_31 : decode cX7_init 31 = .ok (.bipush 8, 2) := by decide +kernel
theorem dX7_init_33 : decode cX7_init 33 = .ok (.iload_n 2, 1) := by decide +kernel
theorem dX7_init_34 : decode cX7_init 34 = .ok (.invokestatic 9, 3) := by decide +kernel
theorem dX7_init_37 : decode cX7_init 37 = .ok (.invokestatic 15, 3) := by decide +kernel
theorem dX7_init_40 : decode cX7_init 40 = .ok (.putfield 25, 3) := by decide +kernel
theorem dX7_init_43 : decode cX7_init 43 = .ok (.aload_n 0, 1) := by decide +kernel
theorem dX7_init_44 : decode cX7_init 44 = .ok (.getfield 18, 3) := by decide +kernel
theorem dX7_init_47 : decode cX7_init 47 = .ok (.iconst 3, 1) := by decide +kernel
theorem dX7_init_48 : decode cX7_init 48 = .ok (.iadd, 1) := by decide +kernel
theorem dX7_init_49 : decode cX7_init 49 = .ok (.iconst 4, 1) := by decide +kernel
theorem dX7_init_50 : decode cX7_init 50 = .ok (.idiv, 1) := by decide +kernel
theorem dX7_init_51 : decode cX7_init 51 = .ok (.istore_n 3, 1) := by decide +kernel
theorem dX7_init_52 : decode cX7_init 52 = .ok (.aload_n 0, 1) := by decide +kernel
theorem dX7_init_53 : decode cX7_init 53 = .ok (.new 28, 3) := by decide +kernel
theorem dX7_init_56 : decode cX7_init 56 = .ok (.dup, 1) := by decide +kernel
theorem dX7_init_57 : decode cX7_init 57 = .ok (.invokespecial 30, 3) := by decide +kernel
theorem dX7_init_60 : decode cX7_init 60 = .ok (.putfield 31, 3) := by decide +kernel
theorem dX7_init_63 : decode cX7_init 63 = .ok (.aload_n 0, 1) := by decide +kernel
theorem dX7_init_64 : decode cX7_init 64 = .ok (.new 35, 3) := by decide +kernel
theorem dX7_init_67 : decode cX7_init 67 = .ok (.dup, 1) := by decide +kernel
theorem dX7_init_68 : decode cX7_init 68 = .ok (.aload_n 0, 1) := by decide +kernel
theorem dX7_init_69 : decode cX7_init 69 = .ok (.getfield 31, 3) := by decide +kernel
theorem dX7_init_72 : decode cX7_init 72 = .ok (.aload_n 0, 1) := by decide +kernel
theorem dX7_init_73 : decode cX7_init 73 = .ok (.getfield 18, 3) := by decide +kernel
theorem dX7_init_76 : decode cX7_init 76 = .ok (.iload_n 3, 1) := by decide +kernel
theorem dX7_init_77 : decode cX7_init 77 = .ok (.aload_n 0, 1) := by decide +kernel
theorem dX7_init_78 : decode cX7_init 78 = .ok (.getfield 25, 3) := by decide +kernel
theorem dX7_init_81 : decode cX7_init 81 = .ok (.invokespecial 37, 3) := by decide +kernel
theorem dX7_init_84 : decode cX7_init 84 = .ok (.putfield 40, 3) := by decide +kernel
theorem dX7_init_87 : decode cX7_init 87 = .ok (.aload_n 0, 1) := by decide +kernel
theorem dX7_init_88 : decode cX7_init 88 = .ok (.new 44, 3) := by decide +kernel
theorem dX7_init_91 : decode cX7_init 91 = .ok (.dup, 1) := by decide +kernel
theorem dX7_init_92 : decode cX7_init 92 = .ok (.iload_n 3, 1) := by decide +kernel
theorem dX7_init_93 : decode cX7_init 93 = .ok (.invokespecial 46, 3) := by decide +kernel
theorem dX7_init_96 : decode cX7_init 96 = .ok (.putfield 49, 3) := by decide +kernel
theorem dX7_init_99 : decode cX7_init 99 = .ok (.aload_n 0, 1) := by decide +kernel
theorem dX7_init_100 : decode cX7_init 100 = .ok (.new 53, 3) := by decide +kernel
theorem dX7_init_103 : decode cX7_init 103 = .ok (.dup, 1) := by decide +kernel
theorem dX7_init_104 : decode cX7_init 104 = .ok (.invokespecial 55, 3) := by decide +kernel
theorem dX7_init_107 : decode cX7_init 107 = .ok (.putfield 56, 3) := by decide +kernel
theorem dX7_init_110 : decode cX7_init 110 = .ok (.aload_n 0, 1) := by decide +kernel
theorem dX7_init_111 : decode cX7_init 111 = .ok (.iconst 2, 1) := by decide +kernel
theorem dX7_init_112 : decode cX7_init 112 = .ok (.iload_n 3, 1) := by decide +kernel
theorem dX7_init_113 : decode cX7_init 113 = .ok (.imul, 1) := by decide +kernel
theorem dX7_init_114 : decode cX7_init 114 = .ok (.newarray .long, 2) := by decide +kernel
theorem dX7_init_116 : decode cX7_init 116 = .ok (.putfield 60, 3) := by decide +kernel
theorem dX7_init_119 : decode cX7_init 119 = .ok (.aload_n 0, 1) := by decide +kernel
theorem dX7_init_120 : decode cX7_init 120 = .ok (.iconst 2, 1) := by decide +kernel
theorem dX7_init_121 : decode cX7_init 121 = .ok (.iload_n 3, 1) := by decide +kernel
theorem dX7_init_122 : decode cX7_init 122 = .ok (.imul, 1) := by decide +kernel
theorem dX7_init_123 : decode cX7_init 123 = .ok (.newarray .long, 2) := by decide +kernel
theorem dX7_init_125 : decode cX7_init 125 = .ok (.putfield 64, 3) := by decide +kernel
theorem dX7_init_128 : decode cX7_init 128 = .ok (.aload_n 0, 1) := by decide +kernel
theorem dX7_init_129 : decode cX7_init 129 = .ok (.iconst 2, 1) := by decide +kernel
theorem dX7_init_130 : decode cX7_init 130 = .ok (.iload_n 3, 1) := by decide +kernel
theorem dX7_init_131 : decode cX7_init 131 = .ok (.imul, 1) := by decide +kernel
theorem dX7_init_132 : decode cX7_init 132 = .ok (.newarray .long, 2) := by decide +kernel
theorem dX7_init_134 : decode cX7_init 134 = .ok (.putfield 67, 3) := by decide +kernel
theorem dX7_init_137 : decode cX7_init 137 = .ok (.return_, 1) := by decide +kernel
theorem dX7_seed_0 : decode cX7_seed 0 = .ok (.aload_n 0, 1) := by decide +kernel
theorem dX7_seed_1 : decode cX7_seed 1 = .ok (.getfield 40, 3) := by decide +kernel
theorem dX7_seed_4 : decode cX7_seed 4 = .ok (.invokevirtual 70, 3) := by decide +kernel
theorem dX7_seed_7 : decode cX7_seed 7 = .ok (.ifCond .eq 6, 3) := by decide +kernel
theorem dX7_seed_10 : decode cX7_seed 10 = .ok (.bipush (-3), 2) := by decide +kernel
theorem dX7_seed_12 : decode cX7_seed 12 = .ok (.ireturn, 1) := by decide +kernel
theorem dX7_seed_13 : decode cX7_seed 13 = .ok (.aload_n 0, 1) := by decide +kernel
theorem dX7_seed_14 : decode cX7_seed 14 = .ok (.getfield 31, 3) := by decide +kernel
theorem dX7_seed_17 : decode cX7_seed 17 = .ok (.invokevirtual 74, 3) := by decide +kernel
theorem dX7_seed_20 : decode cX7_seed 20 = .ok (.bipush 16, 2) := by decide +kernel
theorem dX7_seed_22 : decode cX7_seed 22 = .ok (.if_icmp .lt 6, 3) := by decide +kernel
theorem dX7_seed_25 : decode cX7_seed 25 = .ok (.bipush (-4), 2) := by decide +kernel
theorem dX7_seed_27 : decode cX7_seed 27 = .ok (.ireturn, 1) := by decide +kernel
theorem dX7_seed_28 : decode cX7_seed 28 = .ok (.aload_n 0, 1) := by decide +kernel
theorem dX7_seed_29 : decode cX7_seed 29 = .ok (.getfield 31, 3) := by decide +kernel
theorem dX7_seed_32 : decode cX7_seed 32 = .ok (.iload_n 1, 1) := by decide +kernel
theorem dX7_seed_33 : decode cX7_seed 33 = .ok (.invokevirtual 78, 3) := by decide +kernel
theorem dX7_seed_36 : decode cX7_seed 36 = .ok (.aload_n 0, 1) := by decide +kernel
theorem dX7_seed_37 : decode cX7_seed 37 = .ok (.getfield 31, 3) := by decide +kernel
theorem dX7_seed_40 : decode cX7_seed 40 = .ok (.invokevirtual 74, 3) := by decide +kernel
theorem dX7_seed_43 : decode cX7_seed 43 = .ok (.ireturn, 1) := by decide +kernel
theorem dX7_search_0 : decode cX7_search 0 = .ok (.iload_n 1, 1) := by decide +kernel
theorem dX7_search_1 : decode cX7_search 1 = .ok (.iconst 1, 1) := by decide +kernel
theorem dX7_search_2 : decode cX7_search 2 = .ok (.if_icmp .lt 9, 3) := by decide +kernel
theorem dX7_search_5 : decode cX7_search 5 = .ok (.iload_n 1, 1) := by decide +kernel
theorem dX7_search_6 : decode cX7_search 6 = .ok (.bipush 60, 2) := by decide +kernel
theorem dX7_search_8 : decode cX7_search 8 = .ok (.if_icmp .le 6, 3) := by decide +kernel
theorem dX7_search_11 : decode cX7_search 11 = .ok (.bipush (-2), 2) := by decide +kernel
theorem dX7_search_13 : decode cX7_search 13 = .ok (.ireturn, 1) := by decide +kernel
theorem dX7_search_14 : decode cX7_search 14 = .ok (.aload_n 0, 1) := by decide +kernel
theorem dX7_search_15 : decode cX7_search 15 = .ok (.getfield 31, 3) := by decide +kernel
theorem dX7_search_18 : decode cX7_search 18 = .ok (.invokevirtual 74, 3) := by decide +kernel
theorem dX7_search_21 : decode cX7_search 21 = .ok (.ifCond .ne 6, 3) := by decide +kernel
theorem dX7_search_24 : decode cX7_search 24 = .ok (.bipush (-3), 2) := by decide +kernel
theorem dX7_search_26 : decode cX7_search 26 = .ok (.ireturn, 1) := by decide +kernel
theorem dX7_search_27 : decode cX7_search 27 = .ok (.aload_n 0, 1) := by decide +kernel
theorem dX7_search_28 : decode cX7_search 28 = .ok (.getfield 40, 3) := by decide +kernel
theorem dX7_search_31 : decode cX7_search 31 = .ok (.invokevirtual 81, 3) := by decide +kernel
theorem dX7_search_34 : decode cX7_search 34 = .ok (.iconst 0, 1) := by decide +kernel
theorem dX7_search_35 : decode cX7_search 35 = .ok (.istore_n 2, 1) := by decide +kernel
theorem dX7_search_36 : decode cX7_search 36 = .ok (.iload_n 2, 1) := by decide +kernel
theorem dX7_search_37 : decode cX7_search 37 = .ok (.iload_n 1, 1) := by decide +kernel
theorem dX7_search_38 : decode cX7_search 38 = .ok (.if_icmp .ge 57, 3) := by decide +kernel
theorem dX7_search_41 : decode cX7_search 41 = .ok (.aload_n 0, 1) := by decide +kernel
theorem dX7_search_42 : decode cX7_search 42 = .ok (.getfield 49, 3) := by decide +kernel
theorem dX7_search_45 : decode cX7_search 45 = .ok (.invokevirtual 84, 3) := by decide +kernel
theorem dX7_search_48 : decode cX7_search 48 = .ok (.ifCond .ne 47, 3) := by decide +kernel
theorem dX7_search_51 : decode cX7_search 51 = .ok (.aload_n 0, 1) := by decide +kernel
theorem dX7_search_52 : decode cX7_search 52 = .ok (.getfield 40, 3) := by decide +kernel
theorem dX7_search_55 : decode cX7_search 55 = .ok (.invokevirtual 87, 3) := by decide +kernel
theorem dX7_search_58 : decode cX7_search 58 = .ok (.aload_n 0, 1) := by decide +kernel
theorem dX7_search_59 : decode cX7_search 59 = .ok (.getfield 40, 3) := by decide +kernel
theorem dX7_search_62 : decode cX7_search 62 = .ok (.invokevirtual 90, 3) := by decide +kernel
theorem dX7_search_65 : decode cX7_search 65 = .ok (.ifCond .eq 24, 3) := by decide +kernel
theorem dX7_search_68 : decode cX7_search 68 = .ok (.aload_n 0, 1) := by decide +kernel
theorem dX7_search_69 : decode cX7_search 69 = .ok (.getfield 49, 3) := by decide +kernel
theorem dX7_search_72 : decode cX7_search 72 = .ok (.aload_n 0, 1) := by decide +kernel
theorem dX7_search_73 : decode cX7_search 73 = .ok (.getfield 40, 3) := by decide +kernel
theorem dX7_search_76 : decode cX7_search 76 = .ok (.invokevirtual 93, 3) := by decide +kernel
theorem dX7_search_79 : decode cX7_search 79 = .ok (.aload_n 0, 1) := by decide +kernel
theorem dX7_search_80 : decode cX7_search 80 = .ok (.getfield 40, 3) := by decide +kernel
theorem dX7_search_83 : decode cX7_search 83 = .ok (.invokevirtual 97, 3) := by decide +kernel
theorem dX7_search_86 : decode cX7_search 86 = .ok (.invokevirtual 100, 3) := by decide +kernel
theorem dX7_search_89 : decode cX7_search 89 = .ok (.iinc 2 1, 3) := by decide +kernel
theorem dX7_search_92 : decode cX7_search 92 = .ok (.goto (-56), 3) := by decide +kernel
theorem dX7_search_95 : decode cX7_search 95 = .ok (.aload_n 0, 1) := by decide +kernel
theorem dX7_search_96 : decode cX7_search 96 = .ok (.getfield 49, 3) := by decide +kernel
theorem dX7_search_99 : decode cX7_search 99 = .ok (.invokevirtual 84, 3) := by decide +kernel
theorem dX7_search_102 : decode cX7_search 102 = .ok (.ifCond .eq 7, 3) := by decide +kernel
theorem dX7_search_105 : decode cX7_search 105 = .ok (.iconst 1, 1) := by decide +kernel
theorem dX7_search_106 : decode cX7_search 106 = .ok (.goto 4, 3) := by decide +kernel
theorem dX7_search_109 : decode cX7_search 109 = .ok (.iconst 0, 1) := by decide +kernel
theorem dX7_search_110 : decode cX7_search 110 = .ok (.ireturn, 1) := by decide +kernel
theorem dX7_forget_0 : decode cX7_forget 0 = .ok (.aload_n 0, 1) := by decide +kernel
theorem dX7_forget_1 : decode cX7_forget 1 = .ok (.getfield 40, 3) := by decide +kernel
theorem dX7_forget_4 : decode cX7_forget 4 = .ok (.invokevirtual 104, 3) := by decide +kernel
theorem dX7_forget_7 : decode cX7_forget 7 = .ok (.istore_n 1, 1) := by decide +kernel
theorem dX7_forget_8 : decode cX7_forget 8 = .ok (.aload_n 0, 1) := by decide +kernel
theorem dX7_forget_9 : decode cX7_forget 9 = .ok (.getfield 31, 3) := by decide +kernel
theorem dX7_forget_12 : decode cX7_forget 12 = .ok (.invokevirtual 107, 3) := by decide +kernel
theorem dX7_forget_15 : decode cX7_forget 15 = .ok (.aload_n 0, 1) := by decide +kernel
theorem dX7_forget_16 : decode cX7_forget 16 = .ok (.getfield 40, 3) := by decide +kernel
theorem dX7_forget_19 : decode cX7_forget 19 = .ok (.invokevirtual 110, 3) := by decide +kernel
theorem dX7_forget_22 : decode cX7_forget 22 = .ok (.aload_n 0, 1) := by decide +kernel
theorem dX7_forget_23 : decode cX7_forget 23 = .ok (.getfield 49, 3) := by decide +kernel
theorem dX7_forget_26 : decode cX7_forget 26 = .ok (.invokevirtual 111, 3) := by decide +kernel
theorem dX7_forget_29 : decode cX7_forget 29 = .ok (.iload_n 1, 1) := by decide +kernel
theorem dX7_forget_30 : decode cX7_forget 30 = .ok (.ireturn, 1) := by decide +kernel
theorem dX7_key_0 : decode cX7_key 0 = .ok (.iload_n 1, 1) := by decide +kernel
theorem dX7_key_1 : decode cX7_key 1 = .ok (.ifCond .lt 22, 3) := by decide +kernel
theorem dX7_key_4 : decode cX7_key 4 = .ok (.iload_n 1, 1) := by decide +kernel
theorem dX7_key_5 : decode cX7_key 5 = .ok (.bipush 7, 2) := by decide +kernel
theorem dX7_key_7 : decode cX7_key 7 = .ok (.if_icmp .ge 16, 3) := by decide +kernel
theorem dX7_key_10 : decode cX7_key 10 = .ok (.iload_n 2, 1) := by decide +kernel
theorem dX7_key_11 : decode cX7_key 11 = .ok (.ifCond .lt 12, 3) := by decide +kernel
theorem dX7_key_14 : decode cX7_key 14 = .ok (.iload_n 2, 1) := by decide +kernel
theorem dX7_key_15 : decode cX7_key 15 = .ok (.aload_n 0, 1) := by decide +kernel
theorem dX7_key_16 : decode cX7_key 16 = .ok (.iload_n 1, 1) := by decide +kernel
theorem dX7_key_17 : decode cX7_key 17 = .ok (.invokevirtual 112, 3) := by decide +kernel
theorem dX7_key_20 : decode cX7_key 20 = .ok (.if_icmp .lt 6, 3) := by decide +kernel
theorem dX7_key_23 : decode cX7_key 23 = .ok (.bipush (-2), 2) := by decide +kernel
theorem dX7_key_25 : decode cX7_key 25 = .ok (.ireturn, 1) := by decide +kernel
theorem dX7_key_26 : decode cX7_key 26 = .ok (.aload_n 0, 1) := by decide +kernel
theorem dX7_key_27 : decode cX7_key 27 = .ok (.getfield 49, 3) := by decide +kernel
theorem dX7_key_30 : decode cX7_key 30 = .ok (.invokevirtual 84, 3) := by decide +kernel
theorem dX7_key_33 : decode cX7_key 33 = .ok (.ifCond .eq 12, 3) := by decide +kernel
theorem dX7_key_36 : decode cX7_key 36 = .ok (.aload_n 0, 1) := by decide +kernel
theorem dX7_key_37 : decode cX7_key 37 = .ok (.iload_n 1, 1) := by decide +kernel
theorem dX7_key_38 : decode cX7_key 38 = .ok (.iload_n 2, 1) := by decide +kernel
theorem dX7_key_39 : decode cX7_key 39 = .ok (.invokevirtual 116, 3) := by decide +kernel
theorem dX7_key_42 : decode cX7_key 42 = .ok (.goto 5, 3) := by decide +kernel
theorem dX7_key_45 : decode cX7_key 45 = .ok (.bipush (-3), 2) := by decide +kernel
theorem dX7_key_47 : decode cX7_key 47 = .ok (.ireturn, 1) := by decide +kernel
theorem dX7_count_0 : decode cX7_count 0 = .ok (.iload_n 1, 1) := by decide +kernel
theorem dX7_count_1 : decode cX7_count 1 = .ok (.tableswitch 99 0 7 #[47, 52, 57, 65, 73, 81, 89, 94], 47) := by decide +kernel
theorem dX7_count_48 : decode cX7_count 48 = .ok (.aload_n 0, 1) := by decide +kernel
theorem dX7_count_49 : decode cX7_count 49 = .ok (.getfield 18, 3) := by decide +kernel
theorem dX7_count_52 : decode cX7_count 52 = .ok (.ireturn, 1) := by decide +kernel
theorem dX7_count_53 : decode cX7_count 53 = .ok (.aload_n 0, 1) := by decide +kernel
theorem dX7_count_54 : decode cX7_count 54 = .ok (.getfield 25, 3) := by decide +kernel
theorem dX7_count_57 : decode cX7_count 57 = .ok (.ireturn, 1) := by decide +kernel
theorem dX7_count_58 : decode cX7_count 58 = .ok (.aload_n 0, 1) := by decide +kernel
theorem dX7_count_59 : decode cX7_count 59 = .ok (.getfield 31, 3) := by decide +kernel
theorem dX7_count_62 : decode cX7_count 62 = .ok (.invokevirtual 74, 3) := by decide +kernel
theorem dX7_count_65 : decode cX7_count 65 = .ok (.ireturn, 1) := by decide +kernel
theorem dX7_count_66 : decode cX7_count 66 = .ok (.aload_n 0, 1) := by decide +kernel
theorem dX7_count_67 : decode cX7_count 67 = .ok (.getfield 40, 3) := by decide +kernel
theorem dX7_count_70 : decode cX7_count 70 = .ok (.invokevirtual 104, 3) := by decide +kernel
theorem dX7_count_73 : decode cX7_count 73 = .ok (.ireturn, 1) := by decide +kernel
theorem dX7_count_74 : decode cX7_count 74 = .ok (.aload_n 0, 1) := by decide +kernel
theorem dX7_count_75 : decode cX7_count 75 = .ok (.getfield 40, 3) := by decide +kernel
theorem dX7_count_78 : decode cX7_count 78 = .ok (.invokevirtual 119, 3) := by decide +kernel
theorem dX7_count_81 : decode cX7_count 81 = .ok (.ireturn, 1) := by decide +kernel
theorem dX7_count_82 : decode cX7_count 82 = .ok (.aload_n 0, 1) := by decide +kernel
theorem dX7_count_83 : decode cX7_count 83 = .ok (.getfield 56, 3) := by decide +kernel
theorem dX7_count_86 : decode cX7_count 86 = .ok (.invokevirtual 122, 3) := by decide +kernel
theorem dX7_count_89 : decode cX7_count 89 = .ok (.ireturn, 1) := by decide +kernel
theorem dX7_count_90 : decode cX7_count 90 = .ok (.aload_n 0, 1) := by decide +kernel
theorem dX7_count_91 : decode cX7_count 91 = .ok (.getfield 125, 3) := by decide +kernel
theorem dX7_count_94 : decode cX7_count 94 = .ok (.ireturn, 1) := by decide +kernel
theorem dX7_count_95 : decode cX7_count 95 = .ok (.aload_n 0, 1) := by decide +kernel
theorem dX7_count_96 : decode cX7_count 96 = .ok (.getfield 128, 3) := by decide +kernel
theorem dX7_count_99 : decode cX7_count 99 = .ok (.ireturn, 1) := by decide +kernel
theorem dX7_count_100 : decode cX7_count 100 = .ok (.bipush (-2), 2) := by decide +kernel
theorem dX7_count_102 : decode cX7_count 102 = .ok (.ireturn, 1) := by decide +kernel
theorem dX7_feed_0 : decode cX7_feed 0 = .ok (.iload_n 3, 1) := by decide +kernel
theorem dX7_feed_1 : decode cX7_feed 1 = .ok (.iconst 1, 1) := by decide +kernel
theorem dX7_feed_2 : decode cX7_feed 2 = .ok (.if_icmp .lt 9, 3) := by decide +kernel
theorem dX7_feed_5 : decode cX7_feed 5 = .ok (.iload_n 3, 1) := by decide +kernel
theorem dX7_feed_6 : decode cX7_feed 6 = .ok (.bipush 8, 2) := by decide +kernel
theorem dX7_feed_8 : decode cX7_feed 8 = .ok (.if_icmp .le 6, 3) := by decide +kernel
theorem dX7_feed_11 : decode cX7_feed 11 = .ok (.bipush (-2), 2) := by decide +kernel
theorem dX7_feed_13 : decode cX7_feed 13 = .ok (.ireturn, 1) := by decide +kernel
theorem dX7_feed_14 : decode cX7_feed 14 = .ok (.aload_n 0, 1) := by decide +kernel
theorem dX7_feed_15 : decode cX7_feed 15 = .ok (.getfield 56, 3) := by decide +kernel
theorem dX7_feed_18 : decode cX7_feed 18 = .ok (.invokevirtual 122, 3) := by decide +kernel
theorem dX7_feed_21 : decode cX7_feed 21 = .ok (.iload_n 3, 1) := by decide +kernel
theorem dX7_feed_22 : decode cX7_feed 22 = .ok (.iadd, 1) := by decide +kernel
theorem dX7_feed_23 : decode cX7_feed 23 = .ok (.sipush 300, 3) := by decide +kernel
theorem dX7_feed_26 : decode cX7_feed 26 = .ok (.if_icmp .le 6, 3) := by decide +kernel
theorem dX7_feed_29 : decode cX7_feed 29 = .ok (.bipush (-4), 2) := by decide +kernel
theorem dX7_feed_31 : decode cX7_feed 31 = .ok (.ireturn, 1) := by decide +kernel
theorem dX7_feed_32 : decode cX7_feed 32 = .ok (.aload_n 0, 1) := by decide +kernel
theorem dX7_feed_33 : decode cX7_feed 33 = .ok (.getfield 56, 3) := by decide +kernel
theorem dX7_feed_36 : decode cX7_feed 36 = .ok (.lload_n 1, 1) := by decide +kernel
theorem dX7_feed_37 : decode cX7_feed 37 = .ok (.iload_n 3, 1) := by decide +kernel
theorem dX7_feed_38 : decode cX7_feed 38 = .ok (.invokevirtual 131, 3) := by decide +kernel
theorem dX7_feed_41 : decode cX7_feed 41 = .ok (.aload_n 0, 1) := by decide +kernel
theorem dX7_feed_42 : decode cX7_feed 42 = .ok (.getfield 56, 3) := by decide +kernel
theorem dX7_feed_45 : decode cX7_feed 45 = .ok (.invokevirtual 122, 3) := by decide +kernel
theorem dX7_feed_48 : decode cX7_feed 48 = .ok (.ireturn, 1) := by decide +kernel
theorem dX7_cut_0 : decode cX7_cut 0 = .ok (.aload_n 0, 1) := by decide +kernel
theorem dX7_cut_1 : decode cX7_cut 1 = .ok (.getfield 56, 3) := by decide +kernel
theorem dX7_cut_4 : decode cX7_cut 4 = .ok (.invokevirtual 122, 3) := by decide +kernel
theorem dX7_cut_7 : decode cX7_cut 7 = .ok (.istore_n 2, 1) := by decide +kernel
theorem dX7_cut_8 : decode cX7_cut 8 = .ok (.iload_n 1, 1) := by decide +kernel
theorem dX7_cut_9 : decode cX7_cut 9 = .ok (.ifCond .lt 8, 3) := by decide +kernel
theorem dX7_cut_12 : decode cX7_cut 12 = .ok (.iload_n 1, 1) := by decide +kernel
theorem dX7_cut_13 : decode cX7_cut 13 = .ok (.iload_n 2, 1) := by decide +kernel
theorem dX7_cut_14 : decode cX7_cut 14 = .ok (.if_icmp .le 6, 3) := by decide +kernel
theorem dX7_cut_17 : decode cX7_cut 17 = .ok (.bipush (-2), 2) := by decide +kernel
theorem dX7_cut_19 : decode cX7_cut 19 = .ok (.ireturn, 1) := by decide +kernel
theorem dX7_cut_20 : decode cX7_cut 20 = .ok (.aload_n 0, 1) := by decide +kernel
theorem dX7_cut_21 : decode cX7_cut 21 = .ok (.getfield 56, 3) := by decide +kernel
theorem dX7_cut_24 : decode cX7_cut 24 = .ok (.iload_n 1, 1) := by decide +kernel
theorem dX7_cut_25 : decode cX7_cut 25 = .ok (.invokevirtual 135, 3) := by decide +kernel
theorem dX7_cut_28 : decode cX7_cut 28 = .ok (.iload_n 2, 1) := by decide +kernel
theorem dX7_cut_29 : decode cX7_cut 29 = .ok (.iload_n 1, 1) := by decide +kernel
theorem dX7_cut_30 : decode cX7_cut 30 = .ok (.isub, 1) := by decide +kernel
theorem dX7_cut_31 : decode cX7_cut 31 = .ok (.ireturn, 1) := by decide +kernel
theorem dX7_hash_0 : decode cX7_hash 0 = .ok (.iload_n 1, 1) := by decide +kernel
theorem dX7_hash_1 : decode cX7_hash 1 = .ok (.ifCond .lt 9, 3) := by decide +kernel
theorem dX7_hash_4 : decode cX7_hash 4 = .ok (.iload_n 1, 1) := by decide +kernel
theorem dX7_hash_5 : decode cX7_hash 5 = .ok (.bipush 32, 2) := by decide +kernel
theorem dX7_hash_7 : decode cX7_hash 7 = .ok (.if_icmp .lt 8, 3) := by decide +kernel
theorem dX7_hash_10 : decode cX7_hash 10 = .ok (.bipush (-2), 2) := by decide +kernel
theorem dX7_hash_12 : decode cX7_hash 12 = .ok (.goto 11, 3) := by decide +kernel
theorem dX7_hash_15 : decode cX7_hash 15 = .ok (.aload_n 0, 1) := by decide +kernel
theorem dX7_hash_16 : decode cX7_hash 16 = .ok (.getfield 56, 3) := by decide +kernel
theorem dX7_hash_19 : decode cX7_hash 19 = .ok (.iload_n 1, 1) := by decide +kernel
theorem dX7_hash_20 : decode cX7_hash 20 = .ok (.invokevirtual 138, 3) := by decide +kernel
theorem dX7_hash_23 : decode cX7_hash 23 = .ok (.ireturn, 1) := by decide +kernel
theorem dX7_encoded_0 : decode cX7_encoded 0 = .ok (.iload_n 1, 1) := by decide +kernel
theorem dX7_encoded_1 : decode cX7_encoded 1 = .ok (.ifCond .lt 11, 3) := by decide +kernel
theorem dX7_encoded_4 : decode cX7_encoded 4 = .ok (.iload_n 1, 1) := by decide +kernel
theorem dX7_encoded_5 : decode cX7_encoded 5 = .ok (.aload_n 0, 1) := by decide +kernel
theorem dX7_encoded_6 : decode cX7_encoded 6 = .ok (.getfield 22, 3) := by decide +kernel
theorem dX7_encoded_9 : decode cX7_encoded 9 = .ok (.if_icmp .lt 8, 3) := by decide +kernel
theorem dX7_encoded_12 : decode cX7_encoded 12 = .ok (.bipush (-2), 2) := by decide +kernel
theorem dX7_encoded_14 : decode cX7_encoded 14 = .ok (.goto 8, 3) := by decide +kernel
theorem dX7_encoded_17 : decode cX7_encoded 17 = .ok (.aload_n 0, 1) := by decide +kernel
theorem dX7_encoded_18 : decode cX7_encoded 18 = .ok (.iload_n 1, 1) := by decide +kernel
theorem dX7_encoded_19 : decode cX7_encoded 19 = .ok (.invokevirtual 141, 3) := by decide +kernel
theorem dX7_encoded_22 : decode cX7_encoded 22 = .ok (.ireturn, 1) := by decide +kernel
theorem dX7_sign_0 : decode cX7_sign 0 = .ok (.aload_n 0, 1) := by decide +kernel
theorem dX7_sign_1 : decode cX7_sign 1 = .ok (.getfield 49, 3) := by decide +kernel
theorem dX7_sign_4 : decode cX7_sign 4 = .ok (.invokevirtual 84, 3) := by decide +kernel
theorem dX7_sign_7 : decode cX7_sign 7 = .ok (.ifCond .ne 6, 3) := by decide +kernel
theorem dX7_sign_10 : decode cX7_sign 10 = .ok (.bipush (-3), 2) := by decide +kernel
theorem dX7_sign_12 : decode cX7_sign 12 = .ok (.ireturn, 1) := by decide +kernel
theorem dX7_sign_13 : decode cX7_sign 13 = .ok (.aload_n 0, 1) := by decide +kernel
theorem dX7_sign_14 : decode cX7_sign 14 = .ok (.aload_n 0, 1) := by decide +kernel
theorem dX7_sign_15 : decode cX7_sign 15 = .ok (.getfield 64, 3) := by decide +kernel
theorem dX7_sign_18 : decode cX7_sign 18 = .ok (.invokevirtual 144, 3) := by decide +kernel
theorem dX7_sign_21 : decode cX7_sign 21 = .ok (.aload_n 0, 1) := by decide +kernel
theorem dX7_sign_22 : decode cX7_sign 22 = .ok (.getfield 49, 3) := by decide +kernel
theorem dX7_sign_25 : decode cX7_sign 25 = .ok (.aload_n 0, 1) := by decide +kernel
theorem dX7_sign_26 : decode cX7_sign 26 = .ok (.getfield 60, 3) := by decide +kernel
theorem dX7_sign_29 : decode cX7_sign 29 = .ok (.aload_n 0, 1) := by decide +kernel
theorem dX7_sign_30 : decode cX7_sign 30 = .ok (.getfield 64, 3) := by decide +kernel
theorem dX7_sign_33 : decode cX7_sign 33 = .ok (.invokevirtual 148, 3) := by decide +kernel
theorem dX7_sign_36 : decode cX7_sign 36 = .ok (.aload_n 0, 1) := by decide +kernel
theorem dX7_sign_37 : decode cX7_sign 37 = .ok (.dup, 1) := by decide +kernel
theorem dX7_sign_38 : decode cX7_sign 38 = .ok (.getfield 125, 3) := by decide +kernel
theorem dX7_sign_41 : decode cX7_sign 41 = .ok (.iconst 1, 1) := by decide +kernel
theorem dX7_sign_42 : decode cX7_sign 42 = .ok (.iadd, 1) := by decide +kernel
theorem dX7_sign_43 : decode cX7_sign 43 = .ok (.putfield 125, 3) := by decide +kernel
theorem dX7_sign_46 : decode cX7_sign 46 = .ok (.iconst 1, 1) := by decide +kernel
theorem dX7_sign_47 : decode cX7_sign 47 = .ok (.ireturn, 1) := by decide +kernel
theorem dX7_verify_0 : decode cX7_verify 0 = .ok (.aload_n 0, 1) := by decide +kernel
theorem dX7_verify_1 : decode cX7_verify 1 = .ok (.getfield 49, 3) := by decide +kernel
theorem dX7_verify_4 : decode cX7_verify 4 = .ok (.invokevirtual 84, 3) := by decide +kernel
theorem dX7_verify_7 : decode cX7_verify 7 = .ok (.ifCond .ne 6, 3) := by decide +kernel
theorem dX7_verify_10 : decode cX7_verify 10 = .ok (.bipush (-3), 2) := by decide +kernel
theorem dX7_verify_12 : decode cX7_verify 12 = .ok (.ireturn, 1) := by decide +kernel
theorem dX7_verify_13 : decode cX7_verify 13 = .ok (.aload_n 0, 1) := by decide +kernel
theorem dX7_verify_14 : decode cX7_verify 14 = .ok (.dup, 1) := by decide +kernel
theorem dX7_verify_15 : decode cX7_verify 15 = .ok (.getfield 128, 3) := by decide +kernel
theorem dX7_verify_18 : decode cX7_verify 18 = .ok (.iconst 1, 1) := by decide +kernel
theorem dX7_verify_19 : decode cX7_verify 19 = .ok (.iadd, 1) := by decide +kernel
theorem dX7_verify_20 : decode cX7_verify 20 = .ok (.putfield 128, 3) := by decide +kernel
theorem dX7_verify_23 : decode cX7_verify 23 = .ok (.aload_n 0, 1) := by decide +kernel
theorem dX7_verify_24 : decode cX7_verify 24 = .ok (.getfield 49, 3) := by decide +kernel
theorem dX7_verify_27 : decode cX7_verify 27 = .ok (.aload_n 0, 1) := by decide +kernel
theorem dX7_verify_28 : decode cX7_verify 28 = .ok (.getfield 60, 3) := by decide +kernel
theorem dX7_verify_31 : decode cX7_verify 31 = .ok (.invokevirtual 151, 3) := by decide +kernel
theorem dX7_verify_34 : decode cX7_verify 34 = .ok (.ifCond .ne 5, 3) := by decide +kernel
theorem dX7_verify_37 : decode cX7_verify 37 = .ok (.iconst 0, 1) := by decide +kernel
theorem dX7_verify_38 : decode cX7_verify 38 = .ok (.ireturn, 1) := by decide +kernel
theorem dX7_verify_39 : decode cX7_verify 39 = .ok (.aload_n 0, 1) := by decide +kernel
theorem dX7_verify_40 : decode cX7_verify 40 = .ok (.getfield 49, 3) := by decide +kernel
theorem dX7_verify_43 : decode cX7_verify 43 = .ok (.aload_n 0, 1) := by decide +kernel
theorem dX7_verify_44 : decode cX7_verify 44 = .ok (.getfield 67, 3) := by decide +kernel
theorem dX7_verify_47 : decode cX7_verify 47 = .ok (.aload_n 0, 1) := by decide +kernel
theorem dX7_verify_48 : decode cX7_verify 48 = .ok (.getfield 60, 3) := by decide +kernel
theorem dX7_verify_51 : decode cX7_verify 51 = .ok (.invokevirtual 155, 3) := by decide +kernel
theorem dX7_verify_54 : decode cX7_verify 54 = .ok (.aload_n 0, 1) := by decide +kernel
theorem dX7_verify_55 : decode cX7_verify 55 = .ok (.aload_n 0, 1) := by decide +kernel
theorem dX7_verify_56 : decode cX7_verify 56 = .ok (.getfield 64, 3) := by decide +kernel
theorem dX7_verify_59 : decode cX7_verify 59 = .ok (.invokevirtual 144, 3) := by decide +kernel
theorem dX7_verify_62 : decode cX7_verify 62 = .ok (.aload_n 0, 1) := by decide +kernel
theorem dX7_verify_63 : decode cX7_verify 63 = .ok (.getfield 67, 3) := by decide +kernel
theorem dX7_verify_66 : decode cX7_verify 66 = .ok (.aload_n 0, 1) := by decide +kernel
theorem dX7_verify_67 : decode cX7_verify 67 = .ok (.getfield 64, 3) := by decide +kernel
theorem dX7_verify_70 : decode cX7_verify 70 = .ok (.invokestatic 158, 3) := by decide +kernel
theorem dX7_verify_73 : decode cX7_verify 73 = .ok (.ifCond .ne 7, 3) := by decide +kernel
theorem dX7_verify_76 : decode cX7_verify 76 = .ok (.iconst 1, 1) := by decide +kernel
theorem dX7_verify_77 : decode cX7_verify 77 = .ok (.goto 4, 3) := by decide +kernel
theorem dX7_verify_80 : decode cX7_verify 80 = .ok (.iconst 0, 1) := by decide +kernel
theorem dX7_verify_81 : decode cX7_verify 81 = .ok (.ireturn, 1) := by decide +kernel
theorem dX7_power_0 : decode cX7_power 0 = .ok (.aload_n 0, 1) := by decide +kernel
theorem dX7_power_1 : decode cX7_power 1 = .ok (.getfield 49, 3) := by decide +kernel
theorem dX7_power_4 : decode cX7_power 4 = .ok (.invokevirtual 84, 3) := by decide +kernel
theorem dX7_power_7 : decode cX7_power 7 = .ok (.ifCond .eq 17, 3) := by decide +kernel
theorem dX7_power_10 : decode cX7_power 10 = .ok (.aload_n 0, 1) := by decide +kernel
theorem dX7_power_11 : decode cX7_power 11 = .ok (.getfield 49, 3) := by decide +kernel
theorem dX7_power_14 : decode cX7_power 14 = .ok (.aload_n 0, 1) := by decide +kernel
theorem dX7_power_15 : decode cX7_power 15 = .ok (.getfield 60, 3) := by decide +kernel
theorem dX7_power_18 : decode cX7_power 18 = .ok (.invokevirtual 151, 3) := by decide +kernel
theorem dX7_power_21 : decode cX7_power 21 = .ok (.ifCond .ne 6, 3) := by decide +kernel
theorem dX7_power_24 : decode cX7_power 24 = .ok (.bipush (-3), 2) := by decide +kernel
theorem dX7_power_26 : decode cX7_power 26 = .ok (.ireturn, 1) := by decide +kernel
theorem dX7_power_27 : decode cX7_power 27 = .ok (.iload_n 1, 1) := by decide +kernel
theorem dX7_power_28 : decode cX7_power 28 = .ok (.ifCond .eq 21, 3) := by decide +kernel
theorem dX7_power_31 : decode cX7_power 31 = .ok (.aload_n 0, 1) := by decide +kernel
theorem dX7_power_32 : decode cX7_power 32 = .ok (.getfield 49, 3) := by decide +kernel
theorem dX7_power_35 : decode cX7_power 35 = .ok (.aload_n 0, 1) := by decide +kernel
theorem dX7_power_36 : decode cX7_power 36 = .ok (.getfield 60, 3) := by decide +kernel
theorem dX7_power_39 : decode cX7_power 39 = .ok (.aload_n 0, 1) := by decide +kernel
theorem dX7_power_40 : decode cX7_power 40 = .ok (.getfield 60, 3) := by decide +kernel
theorem dX7_power_43 : decode cX7_power 43 = .ok (.invokevirtual 155, 3) := by decide +kernel
theorem dX7_power_46 : decode cX7_power 46 = .ok (.goto 18, 3) := by decide +kernel
theorem dX7_power_49 : decode cX7_power 49 = .ok (.aload_n 0, 1) := by decide +kernel
theorem dX7_power_50 : decode cX7_power 50 = .ok (.getfield 49, 3) := by decide +kernel
theorem dX7_power_53 : decode cX7_power 53 = .ok (.aload_n 0, 1) := by decide +kernel
theorem dX7_power_54 : decode cX7_power 54 = .ok (.getfield 60, 3) := by decide +kernel
theorem dX7_power_57 : decode cX7_power 57 = .ok (.aload_n 0, 1) := by decide +kernel
theorem dX7_power_58 : decode cX7_power 58 = .ok (.getfield 60, 3) := by decide +kernel
theorem dX7_power_61 : decode cX7_power 61 = .ok (.invokevirtual 164, 3) := by decide +kernel
theorem dX7_power_64 : decode cX7_power 64 = .ok (.iconst 1, 1) := by decide +kernel
theorem dX7_power_65 : decode cX7_power 65 = .ok (.ireturn, 1) := by decide +kernel
theorem dX7_encode_0 : decode cX7_encode 0 = .ok (.aload_n 0, 1) := by decide +kernel
theorem dX7_encode_1 : decode cX7_encode 1 = .ok (.aload_n 0, 1) := by decide +kernel
theorem dX7_encode_2 : decode cX7_encode 2 = .ok (.getfield 60, 3) := by decide +kernel
theorem dX7_encode_5 : decode cX7_encode 5 = .ok (.invokevirtual 144, 3) := by decide +kernel
theorem dX7_encode_8 : decode cX7_encode 8 = .ok (.iconst 1, 1) := by decide +kernel
theorem dX7_encode_9 : decode cX7_encode 9 = .ok (.ireturn, 1) := by decide +kernel
theorem dX7_set_0 : decode cX7_set 0 = .ok (.iload_n 1, 1) := by decide +kernel
theorem dX7_set_1 : decode cX7_set 1 = .ok (.ifCond .lt 22, 3) := by decide +kernel
theorem dX7_set_4 : decode cX7_set 4 = .ok (.iload_n 1, 1) := by decide +kernel
theorem dX7_set_5 : decode cX7_set 5 = .ok (.aload_n 0, 1) := by decide +kernel
theorem dX7_set_6 : decode cX7_set 6 = .ok (.getfield 22, 3) := by decide +kernel
theorem dX7_set_9 : decode cX7_set 9 = .ok (.if_icmp .ge 14, 3) := by decide +kernel
theorem dX7_set_12 : decode cX7_set 12 = .ok (.iload_n 2, 1) := by decide +kernel
theorem dX7_set_13 : decode cX7_set 13 = .ok (.ifCond .lt 10, 3) := by decide +kernel
theorem dX7_set_16 : decode cX7_set 16 = .ok (.iload_n 2, 1) := by decide +kernel
theorem dX7_set_17 : decode cX7_set 17 = .ok (.sipush 255, 3) := by decide +kernel
theorem dX7_set_20 : decode cX7_set 20 = .ok (.if_icmp .le 6, 3) := by decide +kernel
theorem dX7_set_23 : decode cX7_set 23 = .ok (.bipush (-2), 2) := by decide +kernel
theorem dX7_set_25 : decode cX7_set 25 = .ok (.ireturn, 1) := by decide +kernel
theorem dX7_set_26 : decode cX7_set 26 = .ok (.aload_n 0, 1) := by decide +kernel
theorem dX7_set_27 : decode cX7_set 27 = .ok (.getfield 60, 3) := by decide +kernel
theorem dX7_set_30 : decode cX7_set 30 = .ok (.aload_n 0, 1) := by decide +kernel
theorem dX7_set_31 : decode cX7_set 31 = .ok (.getfield 22, 3) := by decide +kernel
theorem dX7_set_34 : decode cX7_set 34 = .ok (.iconst 1, 1) := by decide +kernel
theorem dX7_set_35 : decode cX7_set 35 = .ok (.isub, 1) := by decide +kernel
theorem dX7_set_36 : decode cX7_set 36 = .ok (.iload_n 1, 1) := by decide +kernel
theorem dX7_set_37 : decode cX7_set 37 = .ok (.isub, 1) := by decide +kernel
theorem dX7_set_38 : decode cX7_set 38 = .ok (.invokestatic 167, 3) := by decide +kernel
theorem dX7_set_41 : decode cX7_set 41 = .ok (.istore_n 3, 1) := by decide +kernel
theorem dX7_set_42 : decode cX7_set 42 = .ok (.aload_n 0, 1) := by decide +kernel
theorem dX7_set_43 : decode cX7_set 43 = .ok (.getfield 60, 3) := by decide +kernel
theorem dX7_set_46 : decode cX7_set 46 = .ok (.aload_n 0, 1) := by decide +kernel
theorem dX7_set_47 : decode cX7_set 47 = .ok (.getfield 22, 3) := by decide +kernel
theorem dX7_set_50 : decode cX7_set 50 = .ok (.iconst 1, 1) := by decide +kernel
theorem dX7_set_51 : decode cX7_set 51 = .ok (.isub, 1) := by decide +kernel
theorem dX7_set_52 : decode cX7_set 52 = .ok (.iload_n 1, 1) := by decide +kernel
theorem dX7_set_53 : decode cX7_set 53 = .ok (.isub, 1) := by decide +kernel
theorem dX7_set_54 : decode cX7_set 54 = .ok (.iload_n 2, 1) := by decide +kernel
theorem dX7_set_55 : decode cX7_set 55 = .ok (.invokestatic 171, 3) := by decide +kernel
theorem dX7_set_58 : decode cX7_set 58 = .ok (.iload_n 3, 1) := by decide +kernel
theorem dX7_set_59 : decode cX7_set 59 = .ok (.ireturn, 1) := by decide +kernel
theorem dX7_get_0 : decode cX7_get 0 = .ok (.iload_n 1, 1) := by decide +kernel
theorem dX7_get_1 : decode cX7_get 1 = .ok (.ifCond .lt 11, 3) := by decide +kernel
theorem dX7_get_4 : decode cX7_get 4 = .ok (.iload_n 1, 1) := by decide +kernel
theorem dX7_get_5 : decode cX7_get 5 = .ok (.aload_n 0, 1) := by decide +kernel
theorem dX7_get_6 : decode cX7_get 6 = .ok (.getfield 22, 3) := by decide +kernel
theorem dX7_get_9 : decode cX7_get 9 = .ok (.if_icmp .lt 8, 3) := by decide +kernel
theorem dX7_get_12 : decode cX7_get 12 = .ok (.bipush (-2), 2) := by decide +kernel
theorem dX7_get_14 : decode cX7_get 14 = .ok (.goto 18, 3) := by decide +kernel
theorem dX7_get_17 : decode cX7_get 17 = .ok (.aload_n 0, 1) := by decide +kernel
theorem dX7_get_18 : decode cX7_get 18 = .ok (.getfield 60, 3) := by decide +kernel
theorem dX7_get_21 : decode cX7_get 21 = .ok (.aload_n 0, 1) := by decide +kernel
theorem dX7_get_22 : decode cX7_get 22 = .ok (.getfield 22, 3) := by decide +kernel
theorem dX7_get_25 : decode cX7_get 25 = .ok (.iconst 1, 1) := by decide +kernel
theorem dX7_get_26 : decode cX7_get 26 = .ok (.isub, 1) := by decide +kernel
theorem dX7_get_27 : decode cX7_get 27 = .ok (.iload_n 1, 1) := by decide +kernel
theorem dX7_get_28 : decode cX7_get 28 = .ok (.isub, 1) := by decide +kernel
theorem dX7_get_29 : decode cX7_get 29 = .ok (.invokestatic 167, 3) := by decide +kernel
theorem dX7_get_32 : decode cX7_get 32 = .ok (.ireturn, 1) := by decide +kernel
theorem dX7_digest_0 : decode cX7_digest 0 = .ok (.ldc2_w 175, 3) := by decide +kernel
theorem dX7_digest_3 : decode cX7_digest 3 = .ok (.lstore_n 1, 1) := by decide +kernel
theorem dX7_digest_4 : decode cX7_digest 4 = .ok (.iconst 0, 1) := by decide +kernel
theorem dX7_digest_5 : decode cX7_digest 5 = .ok (.istore_n 3, 1) := by decide +kernel
theorem dX7_digest_6 : decode cX7_digest 6 = .ok (.iload_n 3, 1) := by decide +kernel
theorem dX7_digest_7 : decode cX7_digest 7 = .ok (.aload_n 0, 1) := by decide +kernel
theorem dX7_digest_8 : decode cX7_digest 8 = .ok (.getfield 22, 3) := by decide +kernel
theorem dX7_digest_11 : decode cX7_digest 11 = .ok (.if_icmp .ge 32, 3) := by decide +kernel
theorem dX7_digest_14 : decode cX7_digest 14 = .ok (.ldc2_w 177, 3) := by decide +kernel
theorem dX7_digest_17 : decode cX7_digest 17 = .ok (.lload_n 1, 1) := by decide +kernel
theorem dX7_digest_18 : decode cX7_digest 18 = .ok (.lmul, 1) := by decide +kernel
theorem dX7_digest_19 : decode cX7_digest 19 = .ok (.aload_n 0, 1) := by decide +kernel
theorem dX7_digest_20 : decode cX7_digest 20 = .ok (.getfield 60, 3) := by decide +kernel
theorem dX7_digest_23 : decode cX7_digest 23 = .ok (.aload_n 0, 1) := by decide +kernel
theorem dX7_digest_24 : decode cX7_digest 24 = .ok (.getfield 22, 3) := by decide +kernel
theorem dX7_digest_27 : decode cX7_digest 27 = .ok (.iconst 1, 1) := by decide +kernel
theorem dX7_digest_28 : decode cX7_digest 28 = .ok (.isub, 1) := by decide +kernel
theorem dX7_digest_29 : decode cX7_digest 29 = .ok (.iload_n 3, 1) := by decide +kernel
theorem dX7_digest_30 : decode cX7_digest 30 = .ok (.isub, 1) := by decide +kernel
theorem dX7_digest_31 : decode cX7_digest 31 = .ok (.invokestatic 167, 3) := by decide +kernel
theorem dX7_digest_34 : decode cX7_digest 34 = .ok (.i2l, 1) := by decide +kernel
theorem dX7_digest_35 : decode cX7_digest 35 = .ok (.ladd, 1) := by decide +kernel
theorem dX7_digest_36 : decode cX7_digest 36 = .ok (.lstore_n 1, 1) := by decide +kernel
theorem dX7_digest_37 : decode cX7_digest 37 = .ok (.iinc 3 1, 3) := by decide +kernel
theorem dX7_digest_40 : decode cX7_digest 40 = .ok (.goto (-34), 3) := by decide +kernel
theorem dX7_digest_43 : decode cX7_digest 43 = .ok (.aload_n 0, 1) := by decide +kernel
theorem dX7_digest_44 : decode cX7_digest 44 = .ok (.getfield 49, 3) := by decide +kernel
theorem dX7_digest_47 : decode cX7_digest 47 = .ok (.invokevirtual 84, 3) := by decide +kernel
theorem dX7_digest_50 : decode cX7_digest 50 = .ok (.ifCond .eq 9, 3) := by decide +kernel
theorem dX7_digest_53 : decode cX7_digest 53 = .ok (.aload_n 0, 1) := by decide +kernel
theorem dX7_digest_54 : decode cX7_digest 54 = .ok (.lload_n 1, 1) := by decide +kernel
theorem dX7_digest_55 : decode cX7_digest 55 = .ok (.invokevirtual 179, 3) := by decide +kernel
theorem dX7_digest_58 : decode cX7_digest 58 = .ok (.lstore_n 1, 1) := by decide +kernel
theorem dX7_digest_59 : decode cX7_digest 59 = .ok (.iconst 2, 1) := by decide +kernel
theorem dX7_digest_60 : decode cX7_digest 60 = .ok (.istore_n 3, 1) := by decide +kernel
theorem dX7_digest_61 : decode cX7_digest 61 = .ok (.iload_n 3, 1) := by decide +kernel
theorem dX7_digest_62 : decode cX7_digest 62 = .ok (.bipush 8, 2) := by decide +kernel
theorem dX7_digest_64 : decode cX7_digest 64 = .ok (.if_icmp .ge 22, 3) := by decide +kernel
theorem dX7_digest_67 : decode cX7_digest 67 = .ok (.ldc2_w 177, 3) := by decide +kernel
theorem dX7_digest_70 : decode cX7_digest 70 = .ok (.lload_n 1, 1) := by decide +kernel
theorem dX7_digest_71 : decode cX7_digest 71 = .ok (.lmul, 1) := by decide +kernel
theorem dX7_digest_72 : decode cX7_digest 72 = .ok (.aload_n 0, 1) := by decide +kernel
theorem dX7_digest_73 : decode cX7_digest 73 = .ok (.iload_n 3, 1) := by decide +kernel
theorem dX7_digest_74 : decode cX7_digest 74 = .ok (.invokevirtual 183, 3) := by decide +kernel
theorem dX7_digest_77 : decode cX7_digest 77 = .ok (.i2l, 1) := by decide +kernel
theorem dX7_digest_78 : decode cX7_digest 78 = .ok (.ladd, 1) := by decide +kernel
theorem dX7_digest_79 : decode cX7_digest 79 = .ok (.lstore_n 1, 1) := by decide +kernel
theorem dX7_digest_80 : decode cX7_digest 80 = .ok (.iinc 3 1, 3) := by decide +kernel
theorem dX7_digest_83 : decode cX7_digest 83 = .ok (.goto (-22), 3) := by decide +kernel
theorem dX7_digest_86 : decode cX7_digest 86 = .ok (.lload_n 1, 1) := by decide +kernel
theorem dX7_digest_87 : decode cX7_digest 87 = .ok (.lreturn, 1) := by decide +kernel
theorem dX7_digestKey_0 : decode cX7_digestKey 0 = .ok (.lload_n 1, 1) := by decide +kernel
theorem dX7_digestKey_1 : decode cX7_digestKey 1 = .ok (.lstore_n 3, 1) := by decide +kernel
theorem dX7_digestKey_2 : decode cX7_digestKey 2 = .ok (.iconst 0, 1) := by decide +kernel
theorem dX7_digestKey_3 : decode cX7_digestKey 3 = .ok (.istore 5, 2) := by decide +kernel
theorem dX7_digestKey_5 : decode cX7_digestKey 5 = .ok (.iload 5, 2) := by decide +kernel
theorem dX7_digestKey_7 : decode cX7_digestKey 7 = .ok (.bipush 7, 2) := by decide +kernel
theorem dX7_digestKey_9 : decode cX7_digestKey 9 = .ok (.if_icmp .ge 45, 3) := by decide +kernel
theorem dX7_digestKey_12 : decode cX7_digestKey 12 = .ok (.iconst 0, 1) := by decide +kernel
theorem dX7_digestKey_13 : decode cX7_digestKey 13 = .ok (.istore 6, 2) := by decide +kernel
theorem dX7_digestKey_15 : decode cX7_digestKey 15 = .ok (.iload 6, 2) := by decide +kernel
theorem dX7_digestKey_17 : decode cX7_digestKey 17 = .ok (.aload_n 0, 1) := by decide +kernel
theorem dX7_digestKey_18 : decode cX7_digestKey 18 = .ok (.iload 5, 2) := by decide +kernel
theorem dX7_digestKey_20 : decode cX7_digestKey 20 = .ok (.invokevirtual 112, 3) := by decide +kernel
theorem dX7_digestKey_23 : decode cX7_digestKey 23 = .ok (.if_icmp .ge 25, 3) := by decide +kernel
theorem dX7_digestKey_26 : decode cX7_digestKey 26 = .ok (.ldc2_w 177, 3) := by decide +kernel
theorem dX7_digestKey_29 : decode cX7_digestKey 29 = .ok (.lload_n 3, 1) := by decide +kernel
theorem dX7_digestKey_30 : decode cX7_digestKey 30 = .ok (.lmul, 1) := by decide +kernel
theorem dX7_digestKey_31 : decode cX7_digestKey 31 = .ok (.aload_n 0, 1) := by decide +kernel
theorem dX7_digestKey_32 : decode cX7_digestKey 32 = .ok (.iload 5, 2) := by decide +kernel
theorem dX7_digestKey_34 : decode cX7_digestKey 34 = .ok (.iload 6, 2) := by decide +kernel
theorem dX7_digestKey_36 : decode cX7_digestKey 36 = .ok (.invokevirtual 116, 3) := by decide +kernel
theorem dX7_digestKey_39 : decode cX7_digestKey 39 = .ok (.i2l, 1) := by decide +kernel
theorem dX7_digestKey_40 : decode cX7_digestKey 40 = .ok (.ladd, 1) := by decide +kernel
theorem dX7_digestKey_41 : decode cX7_digestKey 41 = .ok (.lstore_n 3, 1) := by decide +kernel
theorem dX7_digestKey_42 : decode cX7_digestKey 42 = .ok (.iinc 6 1, 3) := by decide +kernel
theorem dX7_digestKey_45 : decode cX7_digestKey 45 = .ok (.goto (-30), 3) := by decide +kernel
theorem dX7_digestKey_48 : decode cX7_digestKey 48 = .ok (.iinc 5 1, 3) := by decide +kernel
theorem dX7_digestKey_51 : decode cX7_digestKey 51 = .ok (.goto (-46), 3) := by decide +kernel
theorem dX7_digestKey_54 : decode cX7_digestKey 54 = .ok (.lload_n 3, 1) := by decide +kernel
theorem dX7_digestKey_55 : decode cX7_digestKey 55 = .ok (.lreturn, 1) := by decide +kernel
theorem dX7_bytesOfKeyPart_0 : decode cX7_bytesOfKeyPart 0 = .ok (.iload_n 1, 1) := by decide +kernel
theorem dX7_bytesOfKeyPart_1 : decode cX7_bytesOfKeyPart 1 = .ok (.iconst 2, 1) := by decide +kernel
theorem dX7_bytesOfKeyPart_2 : decode cX7_bytesOfKeyPart 2 = .ok (.if_icmp .ge 10, 3) := by decide +kernel
theorem dX7_bytesOfKeyPart_5 : decode cX7_bytesOfKeyPart 5 = .ok (.aload_n 0, 1) := by decide +kernel
theorem dX7_bytesOfKeyPart_6 : decode cX7_bytesOfKeyPart 6 = .ok (.getfield 22, 3) := by decide +kernel
theorem dX7_bytesOfKeyPart_9 : decode cX7_bytesOfKeyPart 9 = .ok (.goto 7, 3) := by decide +kernel
theorem dX7_bytesOfKeyPart_12 : decode cX7_bytesOfKeyPart 12 = .ok (.aload_n 0, 1) := by decide +kernel
theorem dX7_bytesOfKeyPart_13 : decode cX7_bytesOfKeyPart 13 = .ok (.getfield 18, 3) := by decide +kernel
theorem dX7_bytesOfKeyPart_16 : decode cX7_bytesOfKeyPart 16 = .ok (.ireturn, 1) := by decide +kernel
theorem dX7_byteOfKeyPart_0 : decode cX7_byteOfKeyPart 0 = .ok (.aload_n 0, 1) := by decide +kernel
theorem dX7_byteOfKeyPart_1 : decode cX7_byteOfKeyPart 1 = .ok (.getfield 49, 3) := by decide +kernel
theorem dX7_byteOfKeyPart_4 : decode cX7_byteOfKeyPart 4 = .ok (.iload_n 1, 1) := by decide +kernel
theorem dX7_byteOfKeyPart_5 : decode cX7_byteOfKeyPart 5 = .ok (.invokevirtual 186, 3) := by decide +kernel
theorem dX7_byteOfKeyPart_8 : decode cX7_byteOfKeyPart 8 = .ok (.aload_n 0, 1) := by decide +kernel
theorem dX7_byteOfKeyPart_9 : decode cX7_byteOfKeyPart 9 = .ok (.iload_n 1, 1) := by decide +kernel
theorem dX7_byteOfKeyPart_10 : decode cX7_byteOfKeyPart 10 = .ok (.invokevirtual 112, 3) := by decide +kernel
theorem dX7_byteOfKeyPart_13 : decode cX7_byteOfKeyPart 13 = .ok (.iconst 1, 1) := by decide +kernel
theorem dX7_byteOfKeyPart_14 : decode cX7_byteOfKeyPart 14 = .ok (.isub, 1) := by decide +kernel
theorem dX7_byteOfKeyPart_15 : decode cX7_byteOfKeyPart 15 = .ok (.iload_n 2, 1) := by decide +kernel
theorem dX7_byteOfKeyPart_16 : decode cX7_byteOfKeyPart 16 = .ok (.isub, 1) := by decide +kernel
theorem dX7_byteOfKeyPart_17 : decode cX7_byteOfKeyPart 17 = .ok (.invokestatic 167, 3) := by decide +kernel
theorem dX7_byteOfKeyPart_20 : decode cX7_byteOfKeyPart 20 = .ok (.ireturn, 1) := by decide +kernel
theorem dX7_encodedByte_0 : decode cX7_encodedByte 0 = .ok (.aload_n 0, 1) := by decide +kernel
theorem dX7_encodedByte_1 : decode cX7_encodedByte 1 = .ok (.getfield 22, 3) := by decide +kernel
theorem dX7_encodedByte_4 : decode cX7_encodedByte 4 = .ok (.bipush 32, 2) := by decide +kernel
theorem dX7_encodedByte_6 : decode cX7_encodedByte 6 = .ok (.isub, 1) := by decide +kernel
theorem dX7_encodedByte_7 : decode cX7_encodedByte 7 = .ok (.istore_n 2, 1) := by decide +kernel
theorem dX7_encodedByte_8 : decode cX7_encodedByte 8 = .ok (.iload_n 2, 1) := by decide +kernel
theorem dX7_encodedByte_9 : decode cX7_encodedByte 9 = .ok (.getstatic 190, 3) := by decide +kernel
theorem dX7_encodedByte_12 : decode cX7_encodedByte 12 = .ok (.arraylength, 1) := by decide +kernel
theorem dX7_encodedByte_13 : decode cX7_encodedByte 13 = .ok (.isub, 1) := by decide +kernel
theorem dX7_encodedByte_14 : decode cX7_encodedByte 14 = .ok (.istore_n 3, 1) := by decide +kernel
theorem dX7_encodedByte_15 : decode cX7_encodedByte 15 = .ok (.iload_n 1, 1) := by decide +kernel
theorem dX7_encodedByte_16 : decode cX7_encodedByte 16 = .ok (.iload_n 2, 1) := by decide +kernel
theorem dX7_encodedByte_17 : decode cX7_encodedByte 17 = .ok (.if_icmp .lt 14, 3) := by decide +kernel
theorem dX7_encodedByte_20 : decode cX7_encodedByte 20 = .ok (.aload_n 0, 1) := by decide +kernel
theorem dX7_encodedByte_21 : decode cX7_encodedByte 21 = .ok (.getfield 56, 3) := by decide +kernel
theorem dX7_encodedByte_24 : decode cX7_encodedByte 24 = .ok (.iload_n 1, 1) := by decide +kernel
theorem dX7_encodedByte_25 : decode cX7_encodedByte 25 = .ok (.iload_n 2, 1) := by decide +kernel
theorem dX7_encodedByte_26 : decode cX7_encodedByte 26 = .ok (.isub, 1) := by decide +kernel
theorem dX7_encodedByte_27 : decode cX7_encodedByte 27 = .ok (.invokevirtual 138, 3) := by decide +kernel
theorem dX7_encodedByte_30 : decode cX7_encodedByte 30 = .ok (.ireturn, 1) := by decide +kernel
theorem dX7_encodedByte_31 : decode cX7_encodedByte 31 = .ok (.iload_n 1, 1) := by decide +kernel
theorem dX7_encodedByte_32 : decode cX7_encodedByte 32 = .ok (.iload_n 3, 1) := by decide +kernel
theorem dX7_encodedByte_33 : decode cX7_encodedByte 33 = .ok (.if_icmp .lt 28, 3) := by decide +kernel
theorem dX7_encodedByte_36 : decode cX7_encodedByte 36 = .ok (.iload_n 1, 1) := by decide +kernel
theorem dX7_encodedByte_37 : decode cX7_encodedByte 37 = .ok (.iload_n 3, 1) := by decide +kernel
theorem dX7_encodedByte_38 : decode cX7_encodedByte 38 = .ok (.isub, 1) := by decide +kernel
theorem dX7_encodedByte_39 : decode cX7_encodedByte 39 = .ok (.istore 4, 2) := by decide +kernel
theorem dX7_encodedByte_41 : decode cX7_encodedByte 41 = .ok (.iload 4, 2) := by decide +kernel
theorem dX7_encodedByte_43 : decode cX7_encodedByte 43 = .ok (.getstatic 190, 3) := by decide +kernel
theorem dX7_encodedByte_46 : decode cX7_encodedByte 46 = .ok (.arraylength, 1) := by decide +kernel
theorem dX7_encodedByte_47 : decode cX7_encodedByte 47 = .ok (.if_icmp .ge 12, 3) := by decide +kernel
theorem dX7_encodedByte_50 : decode cX7_encodedByte 50 = .ok (.getstatic 190, 3) := by decide +kernel
theorem dX7_encodedByte_53 : decode cX7_encodedByte 53 = .ok (.iload 4, 2) := by decide +kernel
theorem dX7_encodedByte_55 : decode cX7_encodedByte 55 = .ok (.iaload, 1) := by decide +kernel
theorem dX7_encodedByte_56 : decode cX7_encodedByte 56 = .ok (.goto 4, 3) := by decide +kernel
theorem dX7_encodedByte_59 : decode cX7_encodedByte 59 = .ok (.iconst 0, 1) := by decide +kernel
theorem dX7_encodedByte_60 : decode cX7_encodedByte 60 = .ok (.ireturn, 1) := by decide +kernel
theorem dX7_encodedByte_61 : decode cX7_encodedByte 61 = .ok (.iload_n 1, 1) := by decide +kernel
theorem dX7_encodedByte_62 : decode cX7_encodedByte 62 = .ok (.ifCond .eq 10, 3) := by decide +kernel
theorem dX7_encodedByte_65 : decode cX7_encodedByte 65 = .ok (.iload_n 1, 1) := by decide +kernel
theorem dX7_encodedByte_66 : decode cX7_encodedByte 66 = .ok (.iload_n 3, 1) := by decide +kernel
theorem dX7_encodedByte_67 : decode cX7_encodedByte 67 = .ok (.iconst 1, 1) := by decide +kernel
theorem dX7_encodedByte_68 : decode cX7_encodedByte 68 = .ok (.isub, 1) := by decide +kernel
theorem dX7_encodedByte_69 : decode cX7_encodedByte 69 = .ok (.if_icmp .ne 5, 3) := by decide +kernel
theorem dX7_encodedByte_72 : decode cX7_encodedByte 72 = .ok (.iconst 0, 1) := by decide +kernel
theorem dX7_encodedByte_73 : decode cX7_encodedByte 73 = .ok (.ireturn, 1) := by decide +kernel
theorem dX7_encodedByte_74 : decode cX7_encodedByte 74 = .ok (.iload_n 1, 1) := by decide +kernel
theorem dX7_encodedByte_75 : decode cX7_encodedByte 75 = .ok (.iconst 1, 1) := by decide +kernel
theorem dX7_encodedByte_76 : decode cX7_encodedByte 76 = .ok (.if_icmp .ne 7, 3) := by decide +kernel
theorem dX7_encodedByte_79 : decode cX7_encodedByte 79 = .ok (.iconst 1, 1) := by decide +kernel
theorem dX7_encodedByte_80 : decode cX7_encodedByte 80 = .ok (.goto 6, 3) := by decide +kernel
theorem dX7_encodedByte_83 : decode cX7_encodedByte 83 = .ok (.sipush 255, 3) := by decide +kernel
theorem dX7_encodedByte_86 : decode cX7_encodedByte 86 = .ok (.ireturn, 1) := by decide +kernel
theorem dX7_writeEncoded_0 : decode cX7_writeEncoded 0 = .ok (.iconst 0, 1) := by decide +kernel
theorem dX7_writeEncoded_1 : decode cX7_writeEncoded 1 = .ok (.istore_n 2, 1) := by decide +kernel
theorem dX7_writeEncoded_2 : decode cX7_writeEncoded 2 = .ok (.iload_n 2, 1) := by decide +kernel
theorem dX7_writeEncoded_3 : decode cX7_writeEncoded 3 = .ok (.aload_n 0, 1) := by decide +kernel
theorem dX7_writeEncoded_4 : decode cX7_writeEncoded 4 = .ok (.getfield 22, 3) := by decide +kernel
theorem dX7_writeEncoded_7 : decode cX7_writeEncoded 7 = .ok (.if_icmp .ge 26, 3) := by decide +kernel
theorem dX7_writeEncoded_10 : decode cX7_writeEncoded 10 = .ok (.aload_n 1, 1) := by decide +kernel
theorem dX7_writeEncoded_11 : decode cX7_writeEncoded 11 = .ok (.aload_n 0, 1) := by decide +kernel
theorem dX7_writeEncoded_12 : decode cX7_writeEncoded 12 = .ok (.getfield 22, 3) := by decide +kernel
theorem dX7_writeEncoded_15 : decode cX7_writeEncoded 15 = .ok (.iconst 1, 1) := by decide +kernel
theorem dX7_writeEncoded_16 : decode cX7_writeEncoded 16 = .ok (.isub, 1) := by decide +kernel
theorem dX7_writeEncoded_17 : decode cX7_writeEncoded 17 = .ok (.iload_n 2, 1) := by decide +kernel
theorem dX7_writeEncoded_18 : decode cX7_writeEncoded 18 = .ok (.isub, 1) := by decide +kernel
theorem dX7_writeEncoded_19 : decode cX7_writeEncoded 19 = .ok (.aload_n 0, 1) := by decide +kernel
theorem dX7_writeEncoded_20 : decode cX7_writeEncoded 20 = .ok (.iload_n 2, 1) := by decide +kernel
theorem dX7_writeEncoded_21 : decode cX7_writeEncoded 21 = .ok (.invokevirtual 141, 3) := by decide +kernel
theorem dX7_writeEncoded_24 : decode cX7_writeEncoded 24 = .ok (.invokestatic 171, 3) := by decide +kernel
theorem dX7_writeEncoded_27 : decode cX7_writeEncoded 27 = .ok (.iinc 2 1, 3) := by decide +kernel
theorem dX7_writeEncoded_30 : decode cX7_writeEncoded 30 = .ok (.goto (-28), 3) := by decide +kernel
theorem dX7_writeEncoded_33 : decode cX7_writeEncoded 33 = .ok (.return_, 1) := by decide +kernel
theorem dX8_in_0 : decode cX8_in 0 = .ok (.iload_n 0, 1) := by decide +kernel
theorem dX8_in_1 : decode cX8_in 1 = .ok (.iload_n 1, 1) := by decide +kernel
theorem dX8_in_2 : decode cX8_in 2 = .ok (.if_icmp .lt 12, 3) := by decide +kernel
theorem dX8_in_5 : decode cX8_in 5 = .ok (.iload_n 0, 1) := by decide +kernel
theorem dX8_in_6 : decode cX8_in 6 = .ok (.iload_n 2, 1) := by decide +kernel
theorem dX8_in_7 : decode cX8_in 7 = .ok (.if_icmp .gt 7, 3) := by decide +kernel
theorem dX8_in_10 : decode cX8_in 10 = .ok (.iconst 1, 1) := by decide +kernel
theorem dX8_in_11 : decode cX8_in 11 = .ok (.goto 4, 3) := by decide +kernel
theorem dX8_in_14 : decode cX8_in 14 = .ok (.iconst 0, 1) := by decide +kernel
theorem dX8_in_15 : decode cX8_in 15 = .ok (.ireturn, 1) := by decide +kernel
theorem dX8_init_0 : decode cX8_init 0 = .ok (.aload_n 0, 1) := by decide +kernel
theorem dX8_init_1 : decode cX8_init 1 = .ok (.invokespecial 1, 3) := by decide +kernel
theorem dX8_init_4 : decode cX8_init 4 = .ok (.aload_n 0, 1) := by decide +kernel
theorem dX8_init_5 : decode cX8_init 5 = .ok (.sipush 1596, 3) := by decide +kernel
theorem dX8_init_8 : decode cX8_init 8 = .ok (.newarray .int, 2) := by decide +kernel
theorem dX8_init_10 : decode cX8_init 10 = .ok (.putfield 7, 3) := by decide +kernel
theorem dX8_init_13 : decode cX8_init 13 = .ok (.aload_n 0, 1) := by decide +kernel
theorem dX8_init_14 : decode cX8_init 14 = .ok (.sipush 300, 3) := by decide +kernel
theorem dX8_init_17 : decode cX8_init 17 = .ok (.newarray .int, 2) := by decide +kernel
theorem dX8_init_19 : decode cX8_init 19 = .ok (.putfield 13, 3) := by decide +kernel
theorem dX8_init_22 : decode cX8_init 22 = .ok (.aload_n 0, 1) := by decide +kernel
theorem dX8_init_23 : decode cX8_init 23 = .ok (.bipush 8, 2) := by decide +kernel
theorem dX8_init_25 : decode cX8_init 25 = .ok (.newarray .int, 2) := by decide +kernel
theorem dX8_init_27 : decode cX8_init 27 = .ok (.putfield 16, 3) := by decide +kernel
theorem dX8_init_30 : decode cX8_init 30 = .ok (.aload_n 0, 1) := by decide +kernel
theorem dX8_init_31 : decode cX8_init 31 = .ok (.bipush 64, 2) := by decide +kernel
theorem dX8_init_33 : decode cX8_init 33 = .ok (.newarray .int, 2) := by decide +kernel
theorem dX8_init_35 : decode cX8_init 35 = .ok (.putfield 19, 3) := by decide +kernel
theorem dX8_init_38 : decode cX8_init 38 = .ok (.aload_n 0, 1) := by decide +kernel
theorem dX8_init_39 : decode cX8_init 39 = .ok (.bipush 8, 2) := by decide +kernel
theorem dX8_init_41 : decode cX8_init 41 = .ok (.newarray .int, 2) := by decide +kernel
theorem dX8_init_43 : decode cX8_init 43 = .ok (.dup, 1) := by decide +kernel
theorem dX8_init_44 : decode cX8_init 44 = .ok (.iconst 0, 1) := by decide +kernel
theorem dX8_init_45 : decode cX8_init 45 = .ok (.ldc 22, 2) := by decide +kernel
theorem dX8_init_47 : decode cX8_init 47 = .ok (.iastore, 1) := by decide +kernel
theorem dX8_init_48 : decode cX8_init 48 = .ok (.dup, 1) := by decide +kernel
theorem dX8_init_49 : decode cX8_init 49 = .ok (.iconst 1, 1) := by decide +kernel
theorem dX8_init_50 : decode cX8_init 50 = .ok (.ldc 23, 2) := by decide +kernel
theorem dX8_init_52 : decode cX8_init 52 = .ok (.iastore, 1) := by decide +kernel
theorem dX8_init_53 : decode cX8_init 53 = .ok (.dup, 1) := by decide +kernel
theorem dX8_init_54 : decode cX8_init 54 = .ok (.iconst 2, 1) := by decide +kernel
theorem dX8_init_55 : decode cX8_init 55 = .ok (.ldc 24, 2) := by decide +kernel
theorem dX8_init_57 : decode cX8_init 57 = .ok (.iastore, 1) := by decide +kernel
theorem dX8_init_58 : decode cX8_init 58 = .ok (.dup, 1) := by decide +kernel
theorem dX8_init_59 : decode cX8_init 59 = .ok (.iconst 3, 1) := by decide +kernel
theorem dX8_init_60 : decode cX8_init 60 = .ok (.ldc 25, 2) := by decide +kernel
theorem dX8_init_62 : decode cX8_init 62 = .ok (.iastore, 1) := by decide +kernel
theorem dX8_init_63 : decode cX8_init 63 = .ok (.dup, 1) := by decide +kernel
theorem dX8_init_64 : decode cX8_init 64 = .ok (.iconst 4, 1) := by decide +kernel
theorem dX8_init_65 : decode cX8_init 65 = .ok (.ldc 26, 2) := by decide +kernel
theorem dX8_init_67 : decode cX8_init 67 = .ok (.iastore, 1) := by decide +kernel
theorem dX8_init_68 : decode cX8_init 68 = .ok (.dup, 1) := by decide +kernel
theorem dX8_init_69 : decode cX8_init 69 = .ok (.iconst 5, 1) := by decide +kernel
theorem dX8_init_70 : decode cX8_init 70 = .ok (.ldc 27, 2) := by decide +kernel
theorem dX8_init_72 : decode cX8_init 72 = .ok (.iastore, 1) := by decide +kernel
theorem dX8_init_73 : decode cX8_init 73 = .ok (.dup, 1) := by decide +kernel
theorem dX8_init_74 : decode cX8_init 74 = .ok (.bipush 6, 2) := by decide +kernel
theorem dX8_init_76 : decode cX8_init 76 = .ok (.ldc 28, 2) := by decide +kernel
theorem dX8_init_78 : decode cX8_init 78 = .ok (.iastore, 1) := by decide +kernel
theorem dX8_init_79 : decode cX8_init 79 = .ok (.dup, 1) := by decide +kernel
theorem dX8_init_80 : decode cX8_init 80 = .ok (.bipush 7, 2) := by decide +kernel
theorem dX8_init_82 : decode cX8_init 82 = .ok (.ldc 29, 2) := by decide +kernel
theorem dX8_init_84 : decode cX8_init 84 = .ok (.iastore, 1) := by decide +kernel
theorem dX8_init_85 : decode cX8_init 85 = .ok (.putfield 30, 3) := by decide +kernel
theorem dX8_init_88 : decode cX8_init 88 = .ok (.aload_n 0, 1) := by decide +kernel
theorem dX8_init_89 : decode cX8_init 89 = .ok (.bipush 64, 2) := by decide +kernel
theorem dX8_init_91 : decode cX8_init 91 = .ok (.newarray .int, 2) := by decide +kernel
theorem dX8_init_93 : decode cX8_init 93 = .ok (.dup, 1) := by decide +kernel
theorem dX8_init_94 : decode cX8_init 94 = .ok (.iconst 0, 1) := by decide +kernel
theorem dX8_init_95 : decode cX8_init 95 = .ok (.ldc 33, 2) := by decide +kernel
theorem dX8_init_97 : decode cX8_init 97 = .ok (.iastore, 1) := by decide +kernel
theorem dX8_init_98 : decode cX8_init 98 = .ok (.dup, 1) := by decide +kernel
theorem dX8_init_99 : decode cX8_init 99 = .ok (.iconst 1, 1) := by decide +kernel
theorem dX8_init_100 : decode cX8_init 100 = .ok (.ldc 34, 2) := by decide +kernel
theorem dX8_init_102 : decode cX8_init 102 = .ok (.iastore, 1) := by decide +kernel
theorem dX8_init_103 : decode cX8_init 103 = .ok (.dup, 1) := by decide +kernel
theorem dX8_init_104 : decode cX8_init 104 = .ok (.iconst 2, 1) := by decide +kernel
theorem dX8_init_105 : decode cX8_init 105 = .ok (.ldc 35, 2) := by decide +kernel
theorem dX8_init_107 : decode cX8_init 107 = .ok (.iastore, 1) := by decide +kernel
theorem dX8_init_108 : decode cX8_init 108 = .ok (.dup, 1) := by decide +kernel
theorem dX8_init_109 : decode cX8_init 109 = .ok (.iconst 3, 1) := by decide +kernel
theorem dX8_init_110 : decode cX8_init 110 = .ok (.ldc 36, 2) := by decide +kernel
theorem dX8_init_112 : decode cX8_init 112 = .ok (.iastore, 1) := by decide +kernel
theorem dX8_init_113 : decode cX8_init 113 = .ok (.dup, 1) := by decide +kernel
theorem dX8_init_114 : decode cX8_init 114 = .ok (.iconst 4, 1) := by decide +kernel
theorem dX8_init_115 : decode cX8_init 115 = .ok (.ldc 37, 2) := by decide +kernel
theorem dX8_init_117 : decode cX8_init 117 = .ok (.iastore, 1) := by decide +kernel
theorem dX8_init_118 : decode cX8_init 118 = .ok (.dup, 1) := by decide +kernel
theorem dX8_init_119 : decode cX8_init 119 = .ok (.iconst 5, 1) := by decide +kernel
theorem dX8_init_120 : decode cX8_init 120 = .ok (.ldc 38, 2) := by decide +kernel
theorem dX8_init_122 : decode cX8_init 122 = .ok (.iastore, 1) := by decide +kernel
theorem dX8_init_123 : decode cX8_init 123 = .ok (.dup, 1) := by decide +kernel
theorem dX8_init_124 : decode cX8_init 124 = .ok (.bipush 6, 2) := by decide +kernel
theorem dX8_init_126 : decode cX8_init 126 = .ok (.ldc 39, 2) := by decide +kernel
theorem dX8_init_128 : decode cX8_init 128 = .ok (.iastore, 1) := by decide +kernel
theorem dX8_init_129 : decode cX8_init 129 = .ok (.dup, 1) := by decide +kernel
theorem dX8_init_130 : decode cX8_init 130 = .ok (.bipush 7, 2) := by decide +kernel
theorem dX8_init_132 : decode cX8_init 132 = .ok (.ldc 40, 2) := by decide +kernel
theorem dX8_init_134 : decode cX8_init 134 = .ok (.iastore, 1) := by decide +kernel
theorem dX8_init_135 : decode cX8_init 135 = .ok (.dup, 1) := by decide +kernel
theorem dX8_init_136 : decode cX8_init 136 = .ok (.bipush 8, 2) := by decide +kernel
theorem dX8_init_138 : decode cX8_init 138 = .ok (.ldc 41, 2) := by decide +kernel
theorem dX8_init_140 : decode cX8_init 140 = .ok (.iastore, 1) := by decide +kernel
theorem dX8_init_141 : decode cX8_init 141 = .ok (.dup, 1) := by decide +kernel
theorem dX8_init_142 : decode cX8_init 142 = .ok (.bipush 9, 2) := by decide +kernel
theorem dX8_init_144 : decode cX8_init 144 = .ok (.ldc 42, 2) := by decide +kernel
theorem dX8_init_146 : decode cX8_init 146 = .ok (.iastore, 1) := by decide +kernel
theorem dX8_init_147 : decode cX8_init 147 = .ok (.dup, 1) := by decide +kernel
theorem dX8_init_148 : decode cX8_init 148 = .ok (.bipush 10, 2) := by decide +kernel
theorem dX8_init_150 : decode cX8_init 150 = .ok (.ldc 43, 2) := by decide +kernel
theorem dX8_init_152 : decode cX8_init 152 = .ok (.iastore, 1) := by decide +kernel
theorem dX8_init_153 : decode cX8_init 153 = .ok (.dup, 1) := by decide +kernel
theorem dX8_init_154 : decode cX8_init 154 = .ok (.bipush 11, 2) := by decide +kernel
theorem dX8_init_156 : decode cX8_init 156 = .ok (.ldc 44, 2) := by decide +kernel
theorem dX8_init_158 : decode cX8_init 158 = .ok (.iastore, 1) := by decide +kernel
theorem dX8_init_159 : decode cX8_init 159 = .ok (.dup, 1) := by decide +kernel
theorem dX8_init_160 : decode cX8_init 160 = .ok (.bipush 12, 2) := by decide +kernel
theorem dX8_init_162 : decode cX8_init 162 = .ok (.ldc 45, 2) := by decide +kernel
theorem dX8_init_164 : decode cX8_init 164 = .ok (.iastore, 1) := by decide +kernel
theorem dX8_init_165 : decode cX8_init 165 = .ok (.dup, 1) := by decide +kernel
theorem dX8_init_166 : decode cX8_init 166 = .ok (.bipush 13, 2) := by decide +kernel
theorem dX8_init_168 : decode cX8_init 168 = .ok (.ldc 46, 2) := by decide +kernel
theorem dX8_init_170 : decode cX8_init 170 = .ok (.iastore, 1) := by decide +kernel
theorem dX8_init_171 : decode cX8_init 171 = .ok (.dup, 1) := by decide +kernel
theorem dX8_init_172 : decode cX8_init 172 = .ok (.bipush 14, 2) := by decide +kernel
theorem dX8_init_174 : decode cX8_init 174 = .ok (.ldc 47, 2) := by decide +kernel
theorem dX8_init_176 : decode cX8_init 176 = .ok (.iastore, 1) := by decide +kernel
theorem dX8_init_177 : decode cX8_init 177 = .ok (.dup, 1) := by decide +kernel
theorem dX8_init_178 : decode cX8_init 178 = .ok (.bipush 15, 2) := by decide +kernel
theorem dX8_init_180 : decode cX8_init 180 = .ok (.ldc 48, 2) := by decide +kernel
theorem dX8_init_182 : decode cX8_init 182 = .ok (.iastore, 1) := by decide +kernel
theorem dX8_init_183 : decode cX8_init 183 = .ok (.dup, 1) := by decide +kernel
theorem dX8_init_184 : decode cX8_init 184 = .ok (.bipush 16, 2) := by decide +kernel
theorem dX8_init_186 : decode cX8_init 186 = .ok (.ldc 49, 2) := by decide +kernel
theorem dX8_init_188 : decode cX8_init 188 = .ok (.iastore, 1) := by decide +kernel
theorem dX8_init_189 : decode cX8_init 189 = .ok (.dup, 1) := by decide +kernel
theorem dX8_init_190 : decode cX8_init 190 = .ok (.bipush 17, 2) := by decide +kernel
theorem dX8_init_192 : decode cX8_init 192 = .ok (.ldc 50, 2) := by decide +kernel
theorem dX8_init_194 : decode cX8_init 194 = .ok (.iastore, 1) := by decide +kernel
theorem dX8_init_195 : decode cX8_init 195 = .ok (.dup, 1) := by decide +kernel
theorem dX8_init_196 : decode cX8_init 196 = .ok (.bipush 18, 2) := by decide +kernel
theorem dX8_init_198 : decode cX8_init 198 = .ok (.ldc 51, 2) := by decide +kernel
theorem dX8_init_200 : decode cX8_init 200 = .ok (.iastore, 1) := by decide +kernel
theorem dX8_init_201 : decode cX8_init 201 = .ok (.dup, 1) := by decide +kernel
theorem dX8_init_202 : decode cX8_init 202 = .ok (.bipush 19, 2) := by decide +kernel
theorem dX8_init_204 : decode cX8_init 204 = .ok (.ldc 52, 2) := by decide +kernel
theorem dX8_init_206 : decode cX8_init 206 = .ok (.iastore, 1) := by decide +kernel
theorem dX8_init_207 : decode cX8_init 207 = .ok (.dup, 1) := by decide +kernel
theorem dX8_init_208 : decode cX8_init 208 = .ok (.bipush 20, 2) := by decide +kernel
theorem dX8_init_210 : decode cX8_init 210 = .ok (.ldc 53, 2) := by decide +kernel
theorem dX8_init_212 : decode cX8_init 212 = .ok (.iastore, 1) := by decide +kernel
theorem dX8_init_213 : decode cX8_init 213 = .ok (.dup, 1) := by decide +kernel
theorem dX8_init_214 : decode cX8_init 214 = .ok (.bipush 21, 2) := by decide +kernel
theorem dX8_init_216 : decode cX8_init 216 = .ok (.ldc 54, 2) := by decide +kernel
theorem dX8_init_218 : decode cX8_init 218 = .ok (.iastore, 1) := by decide +kernel
theorem dX8_init_219 : decode cX8_init 219 = .ok (.dup, 1) := by decide +kernel
theorem dX8_init_220 : decode cX8_init 220 = .ok (.bipush 22, 2) := by decide +kernel
theorem dX8_init_222 : decode cX8_init 222 = .ok (.ldc 55, 2) := by decide +kernel
theorem dX8_init_224 : decode cX8_init 224 = .ok (.iastore, 1) := by decide +kernel
theorem dX8_init_225 : decode cX8_init 225 = .ok (.dup, 1) := by decide +kernel
theorem dX8_init_226 : decode cX8_init 226 = .ok (.bipush 23, 2) := by decide +kernel
theorem dX8_init_228 : decode cX8_init 228 = .ok (.ldc 56, 2) := by decide +kernel
theorem dX8_init_230 : decode cX8_init 230 = .ok (.iastore, 1) := by decide +kernel
theorem dX8_init_231 : decode cX8_init 231 = .ok (.dup, 1) := by decide +kernel
theorem dX8_init_232 : decode cX8_init 232 = .ok (.bipush 24, 2) := by decide +kernel
theorem dX8_init_234 : decode cX8_init 234 = .ok (.ldc 57, 2) := by decide +kernel
theorem dX8_init_236 : decode cX8_init 236 = .ok (.iastore, 1) := by decide +kernel
theorem dX8_init_237 : decode cX8_init 237 = .ok (.dup, 1) := by decide +kernel
theorem dX8_init_238 : decode cX8_init 238 = .ok (.bipush 25, 2) := by decide +kernel
theorem dX8_init_240 : decode cX8_init 240 = .ok (.ldc 58, 2) := by decide +kernel
theorem dX8_init_242 : decode cX8_init 242 = .ok (.iastore, 1) := by decide +kernel
theorem dX8_init_243 : decode cX8_init 243 = .ok (.dup, 1) := by decide +kernel
theorem dX8_init_244 : decode cX8_init 244 = .ok (.bipush 26, 2) := by decide +kernel
theorem dX8_init_246 : decode cX8_init 246 = .ok (.ldc 59, 2) := by decide +kernel
theorem dX8_init_248 : decode cX8_init 248 = .ok (.iastore, 1) := by decide +kernel
theorem dX8_init_249 : decode cX8_init 249 = .ok (.dup, 1) := by decide +kernel
theorem dX8_init_250 : decode cX8_init 250 = .ok (.bipush 27, 2) := by decide +kernel
theorem dX8_init_252 : decode cX8_init 252 = .ok (.ldc 60, 2) := by decide +kernel
theorem dX8_init_254 : decode cX8_init 254 = .ok (.iastore, 1) := by decide +kernel
theorem dX8_init_255 : decode cX8_init 255 = .ok (.dup, 1) := by decide +kernel
theorem dX8_init_256 : decode cX8_init 256 = .ok (.bipush 28, 2) := by decide +kernel
theorem dX8_init_258 : decode cX8_init 258 = .ok (.ldc 61, 2) := by decide +kernel
theorem dX8_init_260 : decode cX8_init 260 = .ok (.iastore, 1) := by decide +kernel
theorem dX8_init_261 : decode cX8_init 261 = .ok (.dup, 1) := by decide +kernel
theorem dX8_init_262 : decode cX8_init 262 = .ok (.bipush 29, 2) := by decide +kernel
theorem dX8_init_264 : decode cX8_init 264 = .ok (.ldc 62, 2) := by decide +kernel
theorem dX8_init_266 : decode cX8_init 266 = .ok (.iastore, 1) := by decide +kernel
theorem dX8_init_267 : decode cX8_init 267 = .ok (.dup, 1) := by decide +kernel
theorem dX8_init_268 : decode cX8_init 268 = .ok (.bipush 30, 2) := by decide +kernel
theorem dX8_init_270 : decode cX8_init 270 = .ok (.ldc 63, 2) := by decide +kernel
theorem dX8_init_272 : decode cX8_init 272 = .ok (.iastore, 1) := by decide +kernel
theorem dX8_init_273 : decode cX8_init 273 = .ok (.dup, 1) := by decide +kernel
theorem dX8_init_274 : decode cX8_init 274 = .ok (.bipush 31, 2) := by decide +kernel
theorem dX8_init_276 : decode cX8_init 276 = .ok (.ldc 64, 2) := by decide +kernel
theorem dX8_init_278 : decode cX8_init 278 = .ok (.iastore, 1) := by decide +kernel
theorem dX8_init_279 : decode cX8_init 279 = .ok (.dup, 1) := by decide +kernel
theorem dX8_init_280 : decode cX8_init 280 = .ok (.bipush 32, 2) := by decide +kernel
theorem dX8_init_282 : decode cX8_init 282 = .ok (.ldc 65, 2) := by decide +kernel
theorem dX8_init_284 : decode cX8_init 284 = .ok (.iastore, 1) := by decide +kernel
theorem dX8_init_285 : decode cX8_init 285 = .ok (.dup, 1) := by decide +kernel
theorem dX8_init_286 : decode cX8_init 286 = .ok (.bipush 33, 2) := by decide +kernel
theorem dX8_init_288 : decode cX8_init 288 = .ok (.ldc 66, 2) := by decide +kernel
theorem dX8_init_290 : decode cX8_init 290 = .ok (.iastore, 1) := by decide +kernel
theorem dX8_init_291 : decode cX8_init 291 = .ok (.dup, 1) := by decide +kernel
theorem dX8_init_292 : decode cX8_init 292 = .ok (.bipush 34, 2) := by decide +kernel
theorem dX8_init_294 : decode cX8_init 294 = .ok (.ldc 67, 2) := by decide +kernel
theorem dX8_init_296 : decode cX8_init 296 = .ok (.iastore, 1) := by decide +kernel
theorem dX8_init_297 : decode cX8_init 297 = .ok (.dup, 1) := by decide +kernel
theorem dX8_init_298 : decode cX8_init 298 = .ok (.bipush 35, 2) := by decide +kernel
theorem dX8_init_300 : decode cX8_init 300 = .ok (.ldc 68, 2) := by decide +kernel
theorem dX8_init_302 : decode cX8_init 302 = .ok (.iastore, 1) := by decide +kernel
theorem dX8_init_303 : decode cX8_init 303 = .ok (.dup, 1) := by decide +kernel
theorem dX8_init_304 : decode cX8_init 304 = .ok (.bipush 36, 2) := by decide +kernel
theorem dX8_init_306 : decode cX8_init 306 = .ok (.ldc 69, 2) := by decide +kernel
theorem dX8_init_308 : decode cX8_init 308 = .ok (.iastore, 1) := by decide +kernel
theorem dX8_init_309 : decode cX8_init 309 = .ok (.dup, 1) := by decide +kernel
theorem dX8_init_310 : decode cX8_init 310 = .ok (.bipush 37, 2) := by decide +kernel
theorem dX8_init_312 : decode cX8_init 312 = .ok (.ldc 70, 2) := by decide +kernel
theorem dX8_init_314 : decode cX8_init 314 = .ok (.iastore, 1) := by decide +kernel
theorem dX8_init_315 : decode cX8_init 315 = .ok (.dup, 1) := by decide +kernel
theorem dX8_init_316 : decode cX8_init 316 = .ok (.bipush 38, 2) := by decide +kernel
theorem dX8_init_318 : decode cX8_init 318 = .ok (.ldc 71, 2) := by decide +kernel
theorem dX8_init_320 : decode cX8_init 320 = .ok (.iastore, 1) := by decide +kernel
theorem dX8_init_321 : decode cX8_init 321 = .ok (.dup, 1) := by decide +kernel
theorem dX8_init_322 : decode cX8_init 322 = .ok (.bipush 39, 2) := by decide +kernel
theorem dX8_init_324 : decode cX8_init 324 = .ok (.ldc 72, 2) := by decide +kernel
theorem dX8_init_326 : decode cX8_init 326 = .ok (.iastore, 1) := by decide +kernel
theorem dX8_init_327 : decode cX8_init 327 = .ok (.dup, 1) := by decide +kernel
theorem dX8_init_328 : decode cX8_init 328 = .ok (.bipush 40, 2) := by decide +kernel
theorem dX8_init_330 : decode cX8_init 330 = .ok (.ldc 73, 2) := by decide +kernel
theorem dX8_init_332 : decode cX8_init 332 = .ok (.iastore, 1) := by decide +kernel
theorem dX8_init_333 : decode cX8_init 333 = .ok (.dup, 1) := by decide +kernel
theorem dX8_init_334 : decode cX8_init 334 = .ok (.bipush 41, 2) := by decide +kernel
theorem dX8_init_336 : decode cX8_init 336 = .ok (.ldc 74, 2) := by decide +kernel
theorem dX8_init_338 : decode cX8_init 338 = .ok (.iastore, 1) := by decide +kernel
theorem dX8_init_339 : decode cX8_init 339 = .ok (.dup, 1) := by decide +kernel
theorem dX8_init_340 : decode cX8_init 340 = .ok (.bipush 42, 2) := by decide +kernel
theorem dX8_init_342 : decode cX8_init 342 = .ok (.ldc 75, 2) := by decide +kernel
theorem dX8_init_344 : decode cX8_init 344 = .ok (.iastore, 1) := by decide +kernel
theorem dX8_init_345 : decode cX8_init 345 = .ok (.dup, 1) := by decide +kernel
theorem dX8_init_346 : decode cX8_init 346 = .ok (.bipush 43, 2) := by decide +kernel
theorem dX8_init_348 : decode cX8_init 348 = .ok (.ldc 76, 2) := by decide +kernel
theorem dX8_init_350 : decode cX8_init 350 = .ok (.iastore, 1) := by decide +kernel
theorem dX8_init_351 : decode cX8_init 351 = .ok (.dup, 1) := by decide +kernel
theorem dX8_init_352 : decode cX8_init 352 = .ok (.bipush 44, 2) := by decide +kernel
theorem dX8_init_354 : decode cX8_init 354 = .ok (.ldc 77, 2) := by decide +kernel
theorem dX8_init_356 : decode cX8_init 356 = .ok (.iastore, 1) := by decide +kernel
theorem dX8_init_357 : decode cX8_init 357 = .ok (.dup, 1) := by decide +kernel
theorem dX8_init_358 : decode cX8_init 358 = .ok (.bipush 45, 2) := by decide +kernel
theorem dX8_init_360 : decode cX8_init 360 = .ok (.ldc 78, 2) := by decide +kernel
theorem dX8_init_362 : decode cX8_init 362 = .ok (.iastore, 1) := by decide +kernel
theorem dX8_init_363 : decode cX8_init 363 = .ok (.dup, 1) := by decide +kernel
theorem dX8_init_364 : decode cX8_init 364 = .ok (.bipush 46, 2) := by decide +kernel
theorem dX8_init_366 : decode cX8_init 366 = .ok (.ldc 79, 2) := by decide +kernel
theorem dX8_init_368 : decode cX8_init 368 = .ok (.iastore, 1) := by decide +kernel
theorem dX8_init_369 : decode cX8_init 369 = .ok (.dup, 1) := by decide +kernel
theorem dX8_init_370 : decode cX8_init 370 = .ok (.bipush 47, 2) := by decide +kernel
theorem dX8_init_372 : decode cX8_init 372 = .ok (.ldc 80, 2) := by decide +kernel
theorem dX8_init_374 : decode cX8_init 374 = .ok (.iastore, 1) := by decide +kernel
theorem dX8_init_375 : decode cX8_init 375 = .ok (.dup, 1) := by decide +kernel
theorem dX8_init_376 : decode cX8_init 376 = .ok (.bipush 48, 2) := by decide +kernel
theorem dX8_init_378 : decode cX8_init 378 = .ok (.ldc 81, 2) := by decide +kernel
theorem dX8_init_380 : decode cX8_init 380 = .ok (.iastore, 1) := by decide +kernel
theorem dX8_init_381 : decode cX8_init 381 = .ok (.dup, 1) := by decide +kernel
theorem dX8_init_382 : decode cX8_init 382 = .ok (.bipush 49, 2) := by decide +kernel
theorem dX8_init_384 : decode cX8_init 384 = .ok (.ldc 82, 2) := by decide +kernel
theorem dX8_init_386 : decode cX8_init 386 = .ok (.iastore, 1) := by decide +kernel
theorem dX8_init_387 : decode cX8_init 387 = .ok (.dup, 1) := by decide +kernel
theorem dX8_init_388 : decode cX8_init 388 = .ok (.bipush 50, 2) := by decide +kernel
theorem dX8_init_390 : decode cX8_init 390 = .ok (.ldc 83, 2) := by decide +kernel
theorem dX8_init_392 : decode cX8_init 392 = .ok (.iastore, 1) := by decide +kernel
theorem dX8_init_393 : decode cX8_init 393 = .ok (.dup, 1) := by decide +kernel
theorem dX8_init_394 : decode cX8_init 394 = .ok (.bipush 51, 2) := by decide +kernel
theorem dX8_init_396 : decode cX8_init 396 = .ok (.ldc 84, 2) := by decide +kernel
theorem dX8_init_398 : decode cX8_init 398 = .ok (.iastore, 1) := by decide +kernel
theorem dX8_init_399 : decode cX8_init 399 = .ok (.dup, 1) := by decide +kernel
theorem dX8_init_400 : decode cX8_init 400 = .ok (.bipush 52, 2) := by decide +kernel
theorem dX8_init_402 : decode cX8_init 402 = .ok (.ldc 85, 2) := by decide +kernel
theorem dX8_init_404 : decode cX8_init 404 = .ok (.iastore, 1) := by decide +kernel
theorem dX8_init_405 : decode cX8_init 405 = .ok (.dup, 1) := by decide +kernel
theorem dX8_init_406 : decode cX8_init 406 = .ok (.bipush 53, 2) := by decide +kernel
theorem dX8_init_408 : decode cX8_init 408 = .ok (.ldc 86, 2) := by decide +kernel
theorem dX8_init_410 : decode cX8_init 410 = .ok (.iastore, 1) := by decide +kernel
theorem dX8_init_411 : decode cX8_init 411 = .ok (.dup, 1) := by decide +kernel
theorem dX8_init_412 : decode cX8_init 412 = .ok (.bipush 54, 2) := by decide +kernel
theorem dX8_init_414 : decode cX8_init 414 = .ok (.ldc 87, 2) := by decide +kernel
theorem dX8_init_416 : decode cX8_init 416 = .ok (.iastore, 1) := by decide +kernel
theorem dX8_init_417 : decode cX8_init 417 = .ok (.dup, 1) := by decide +kernel
theorem dX8_init_418 : decode cX8_init 418 = .ok (.bipush 55, 2) := by decide +kernel
theorem dX8_init_420 : decode cX8_init 420 = .ok (.ldc 88, 2) := by decide +kernel
theorem dX8_init_422 : decode cX8_init 422 = .ok (.iastore, 1) := by decide +kernel
theorem dX8_init_423 : decode cX8_init 423 = .ok (.dup, 1) := by decide +kernel
theorem dX8_init_424 : decode cX8_init 424 = .ok (.bipush 56, 2) := by decide +kernel
theorem dX8_init_426 : decode cX8_init 426 = .ok (.ldc 89, 2) := by decide +kernel
theorem dX8_init_428 : decode cX8_init 428 = .ok (.iastore, 1) := by decide +kernel
theorem dX8_init_429 : decode cX8_init 429 = .ok (.dup, 1) := by decide +kernel
theorem dX8_init_430 : decode cX8_init 430 = .ok (.bipush 57, 2) := by decide +kernel
theorem dX8_init_432 : decode cX8_init 432 = .ok (.ldc 90, 2) := by decide +kernel
theorem dX8_init_434 : decode cX8_init 434 = .ok (.iastore, 1) := by decide +kernel
theorem dX8_init_435 : decode cX8_init 435 = .ok (.dup, 1) := by decide +kernel
theorem dX8_init_436 : decode cX8_init 436 = .ok (.bipush 58, 2) := by decide +kernel
theorem dX8_init_438 : decode cX8_init 438 = .ok (.ldc 91, 2) := by decide +kernel
theorem dX8_init_440 : decode cX8_init 440 = .ok (.iastore, 1) := by decide +kernel
theorem dX8_init_441 : decode cX8_init 441 = .ok (.dup, 1) := by decide +kernel
theorem dX8_init_442 : decode cX8_init 442 = .ok (.bipush 59, 2) := by decide +kernel
theorem dX8_init_444 : decode cX8_init 444 = .ok (.ldc 92, 2) := by decide +kernel
theorem dX8_init_446 : decode cX8_init 446 = .ok (.iastore, 1) := by decide +kernel
theorem dX8_init_447 : decode cX8_init 447 = .ok (.dup, 1) := by decide +kernel
theorem dX8_init_448 : decode cX8_init 448 = .ok (.bipush 60, 2) := by decide +kernel
theorem dX8_init_450 : decode cX8_init 450 = .ok (.ldc 93, 2) := by decide +kernel
theorem dX8_init_452 : decode cX8_init 452 = .ok (.iastore, 1) := by decide +kernel
theorem dX8_init_453 : decode cX8_init 453 = .ok (.dup, 1) := by decide +kernel
theorem dX8_init_454 : decode cX8_init 454 = .ok (.bipush 61, 2) := by decide +kernel
theorem dX8_init_456 : decode cX8_init 456 = .ok (.ldc 94, 2) := by decide +kernel
theorem dX8_init_458 : decode cX8_init 458 = .ok (.iastore, 1) := by decide +kernel
theorem dX8_init_459 : decode cX8_init 459 = .ok (.dup, 1) := by decide +kernel
theorem dX8_init_460 : decode cX8_init 460 = .ok (.bipush 62, 2) := by decide +kernel
theorem dX8_init_462 : decode cX8_init 462 = .ok (.ldc 95, 2) := by decide +kernel
theorem dX8_init_464 : decode cX8_init 464 = .ok (.iastore, 1) := by decide +kernel
theorem dX8_init_465 : decode cX8_init 465 = .ok (.dup, 1) := by decide +kernel
theorem dX8_init_466 : decode cX8_init 466 = .ok (.bipush 63, 2) := by decide +kernel
theorem dX8_init_468 : decode cX8_init 468 = .ok (.ldc 96, 2) := by decide +kernel
theorem dX8_init_470 : decode cX8_init 470 = .ok (.iastore, 1) := by decide +kernel
theorem dX8_init_471 : decode cX8_init 471 = .ok (.putfield 97, 3) := by decide +kernel
theorem dX8_init_474 : decode cX8_init 474 = .ok (.aload_n 0, 1) := by decide +kernel
theorem dX8_init_475 : decode cX8_init 475 = .ok (.bipush 16, 2) := by decide +kernel
theorem dX8_init_477 : decode cX8_init 477 = .ok (.newarray .int, 2) := by decide +kernel
theorem dX8_init_479 : decode cX8_init 479 = .ok (.putfield 100, 3) := by decide +kernel
theorem dX8_init_482 : decode cX8_init 482 = .ok (.aload_n 0, 1) := by decide +kernel
theorem dX8_init_483 : decode cX8_init 483 = .ok (.sipush 300, 3) := by decide +kernel
theorem dX8_init_486 : decode cX8_init 486 = .ok (.newarray .int, 2) := by decide +kernel
theorem dX8_init_488 : decode cX8_init 488 = .ok (.putfield 103, 3) := by decide +kernel
theorem dX8_init_491 : decode cX8_init 491 = .ok (.aload_n 0, 1) := by decide +kernel
theorem dX8_init_492 : decode cX8_init 492 = .ok (.bipush 20, 2) := by decide +kernel
theorem dX8_init_494 : decode cX8_init 494 = .ok (.newarray .int, 2) := by decide +kernel
theorem dX8_init_496 : decode cX8_init 496 = .ok (.dup, 1) := by decide +kernel
theorem dX8_init_497 : decode cX8_init 497 = .ok (.iconst 0, 1) := by decide +kernel
theorem dX8_init_498 : decode cX8_init 498 = .ok (.iconst 0, 1) := by decide +kernel
theorem dX8_init_499 : decode cX8_init 499 = .ok (.iastore, 1) := by decide +kernel
theorem dX8_init_500 : decode cX8_init 500 = .ok (.dup, 1) := by decide +kernel
theorem dX8_init_501 : decode cX8_init 501 = .ok (.iconst 1, 1) := by decide +kernel
theorem dX8_init_502 : decode cX8_init 502 = .ok (.bipush 48, 2) := by decide +kernel
theorem dX8_init_504 : decode cX8_init 504 = .ok (.iastore, 1) := by decide +kernel
theorem dX8_init_505 : decode cX8_init 505 = .ok (.dup, 1) := by decide +kernel
theorem dX8_init_506 : decode cX8_init 506 = .ok (.iconst 2, 1) := by decide +kernel
theorem dX8_init_507 : decode cX8_init 507 = .ok (.bipush 49, 2) := by decide +kernel
theorem dX8_init_509 : decode cX8_init 509 = .ok (.iastore, 1) := by decide +kernel
theorem dX8_init_510 : decode cX8_init 510 = .ok (.dup, 1) := by decide +kernel
theorem dX8_init_511 : decode cX8_init 511 = .ok (.iconst 3, 1) := by decide +kernel
theorem dX8_init_512 : decode cX8_init 512 = .ok (.bipush 48, 2) := by decide +kernel
theorem dX8_init_514 : decode cX8_init 514 = .ok (.iastore, 1) := by decide +kernel
theorem dX8_init_515 : decode cX8_init 515 = .ok (.dup, 1) := by decide +kernel
theorem dX8_init_516 : decode cX8_init 516 = .ok (.iconst 4, 1) := by decide +kernel
theorem dX8_init_517 : decode cX8_init 517 = .ok (.bipush 13, 2) := by decide +kernel
theorem dX8_init_519 : decode cX8_init 519 = .ok (.iastore, 1) := by decide +kernel
theorem dX8_init_520 : decode cX8_init 520 = .ok (.dup, 1) := by decide +kernel
theorem dX8_init_521 : decode cX8_init 521 = .ok (.iconst 5, 1) := by decide +kernel
theorem dX8_init_522 : decode cX8_init 522 = .ok (.bipush 6, 2) := by decide +kernel
theorem dX8_init_524 : decode cX8_init 524 = .ok (.iastore, 1) := by decide +kernel
theorem dX8_init_525 : decode cX8_init 525 = .ok (.dup, 1) := by decide +kernel
theorem dX8_init_526 : decode cX8_init 526 = .ok (.bipush 6, 2) := by decide +kernel
theorem dX8_init_528 : decode cX8_init 528 = .ok (.bipush 9, 2) := by decide +kernel
theorem dX8_init_530 : decode cX8_init 530 = .ok (.iastore, 1) := by decide +kernel
theorem dX8_init_531 : decode cX8_init 531 = .ok (.dup, 1) := by decide +kernel
theorem dX8_init_532 : decode cX8_init 532 = .ok (.bipush 7, 2) := by decide +kernel
theorem dX8_init_534 : decode cX8_init 534 = .ok (.bipush 96, 2) := by decide +kernel
theorem dX8_init_536 : decode cX8_init 536 = .ok (.iastore, 1) := by decide +kernel
theorem dX8_init_537 : decode cX8_init 537 = .ok (.dup, 1) := by decide +kernel
theorem dX8_init_538 : decode cX8_init 538 = .ok (.bipush 8, 2) := by decide +kernel
theorem dX8_init_540 : decode cX8_init 540 = .ok (.sipush 134, 3) := by decide +kernel
theorem dX8_init_543 : decode cX8_init 543 = .ok (.iastore, 1) := by decide +kernel
theorem dX8_init_544 : decode cX8_init 544 = .ok (.dup, 1) := by decide +kernel
theorem dX8_init_545 : decode cX8_init 545 = .ok (.bipush 9, 2) := by decide +kernel
theorem dX8_init_547 : decode cX8_init 547 = .ok (.bipush 72, 2) := by decide +kernel
theorem dX8_init_549 : decode cX8_init 549 = .ok (.iastore, 1) := by decide +kernel
theorem dX8_init_550 : decode cX8_init 550 = .ok (.dup, 1) := by decide +kernel
theorem dX8_init_551 : decode cX8_init 551 = .ok (.bipush 10, 2) := by decide +kernel
theorem dX8_init_553 : decode cX8_init 553 = .ok (.iconst 1, 1) := by decide +kernel
theorem dX8_init_554 : decode cX8_init 554 = .ok (.iastore, 1) := by decide +kernel
theorem dX8_init_555 : decode cX8_init 555 = .ok (.dup, 1) := by decide +kernel
theorem dX8_init_556 : decode cX8_init 556 = .ok (.bipush 11, 2) := by decide +kernel
theorem dX8_init_558 : decode cX8_init 558 = .ok (.bipush 101, 2) := by decide +kernel
theorem dX8_init_560 : decode cX8_init 560 = .ok (.iastore, 1) := by decide +kernel
theorem dX8_init_561 : decode cX8_init 561 = .ok (.dup, 1) := by decide +kernel
theorem dX8_init_562 : decode cX8_init 562 = .ok (.bipush 12, 2) := by decide +kernel
theorem dX8_init_564 : decode cX8_init 564 = .ok (.iconst 3, 1) := by decide +kernel
theorem dX8_init_565 : decode cX8_init 565 = .ok (.iastore, 1) := by decide +kernel
theorem dX8_init_566 : decode cX8_init 566 = .ok (.dup, 1) := by decide +kernel
theorem dX8_init_567 : decode cX8_init 567 = .ok (.bipush 13, 2) := by decide +kernel
theorem dX8_init_569 : decode cX8_init 569 = .ok (.iconst 4, 1) := by decide +kernel
theorem dX8_init_570 : decode cX8_init 570 = .ok (.iastore, 1) := by decide +kernel
theorem dX8_init_571 : decode cX8_init 571 = .ok (.dup, 1) := by decide +kernel
theorem dX8_init_572 : decode cX8_init 572 = .ok (.bipush 14, 2) := by decide +kernel
theorem dX8_init_574 : decode cX8_init 574 = .ok (.iconst 2, 1) := by decide +kernel
theorem dX8_init_575 : decode cX8_init 575 = .ok (.iastore, 1) := by decide +kernel
theorem dX8_init_576 : decode cX8_init 576 = .ok (.dup, 1) := by decide +kernel
theorem dX8_init_577 : decode cX8_init 577 = .ok (.bipush 15, 2) := by decide +kernel
theorem dX8_init_579 : decode cX8_init 579 = .ok (.iconst 1, 1) := by decide +kernel
theorem dX8_init_580 : decode cX8_init 580 = .ok (.iastore, 1) := by decide +kernel
theorem dX8_init_581 : decode cX8_init 581 = .ok (.dup, 1) := by decide +kernel
theorem dX8_init_582 : decode cX8_init 582 = .ok (.bipush 16, 2) := by decide +kernel
theorem dX8_init_584 : decode cX8_init 584 = .ok (.iconst 5, 1) := by decide +kernel
theorem dX8_init_585 : decode cX8_init 585 = .ok (.iastore, 1) := by decide +kernel
theorem dX8_init_586 : decode cX8_init 586 = .ok (.dup, 1) := by decide +kernel
theorem dX8_init_587 : decode cX8_init 587 = .ok (.bipush 17, 2) := by decide +kernel
theorem dX8_init_589 : decode cX8_init 589 = .ok (.iconst 0, 1) := by decide +kernel
theorem dX8_init_590 : decode cX8_init 590 = .ok (.iastore, 1) := by decide +kernel
theorem dX8_init_591 : decode cX8_init 591 = .ok (.dup, 1) := by decide +kernel
theorem dX8_init_592 : decode cX8_init 592 = .ok (.bipush 18, 2) := by decide +kernel
theorem dX8_init_594 : decode cX8_init 594 = .ok (.iconst 4, 1) := by decide +kernel
theorem dX8_init_595 : decode cX8_init 595 = .ok (.iastore, 1) := by decide +kernel
theorem dX8_init_596 : decode cX8_init 596 = .ok (.dup, 1) := by decide +kernel
theorem dX8_init_597 : decode cX8_init 597 = .ok (.bipush 19, 2) := by decide +kernel
theorem dX8_init_599 : decode cX8_init 599 = .ok (.bipush 32, 2) := by decide +kernel
theorem dX8_init_601 : decode cX8_init 601 = .ok (.iastore, 1) := by decide +kernel
theorem dX8_init_602 : decode cX8_init 602 = .ok (.putfield 106, 3) := by decide +kernel
theorem dX8_init_605 : decode cX8_init 605 = .ok (.aload_n 0, 1) := by decide +kernel
theorem dX8_init_606 : decode cX8_init 606 = .ok (.iload_n 1, 1) := by decide +kernel
theorem dX8_init_607 : decode cX8_init 607 = .ok (.bipush 31, 2) := by decide +kernel
theorem dX8_init_609 : decode cX8_init 609 = .ok (.if_icmp .ge 8, 3) := by decide +kernel
theorem dX8_init_612 : decode cX8_init 612 = .ok (.bipush 31, 2) := by decide +kernel
theorem dX8_init_614 : decode cX8_init 614 = .ok (.goto 15, 3) := by decide +kernel
theorem dX8_init_617 : decode cX8_init 617 = .ok (.iload_n 1, 1) := by decide +kernel
theorem dX8_init_618 : decode cX8_init 618 = .ok (.bipush 40, 2) := by decide +kernel
theorem dX8_init_620 : decode cX8_init 620 = .ok (.if_icmp .le 8, 3) := by decide +kernel
theorem dX8_init_623 : decode cX8_init 623 = .ok (.bipush 40, 2) := by decide +kernel
theorem dX8_init_625 : decode cX8_init 625 = .ok (.goto 4, 3) := by decide +kernel
theorem dX8_init_628 : decode cX8_init 628 = .ok (.iload_n 1, 1) := by decide +kernel
theorem dX8_init_629 : decode cX8_init 629 = .ok (.putfield 109, 3) := by decide +kernel
theorem dX8_init_632 : decode cX8_init 632 = .ok (.aload_n 0, 1) := by decide +kernel
theorem dX8_init_633 : decode cX8_init 633 = .ok (.iload_n 2, 1) := by decide +kernel
theorem dX8_init_634 : decode cX8_init 634 = .ok (.iconst 1, 1) := by decide +kernel
theorem dX8_init_635 : decode cX8_init 635 = .ok (.if_icmp .ge 7, 3) := by decide +kernel
theorem dX8_init_638 : decode cX8_init 638 = .ok (.iconst 1, 1) := by decide +kernel
theorem dX8_init_639 : decode cX8_init 639 = .ok (.goto 15, 3) := by decide +kernel
theorem dX8_init_642 : decode cX8_init 642 = .ok (.iload_n 2, 1) := by decide +kernel
theorem dX8_init_643 : decode cX8_init 643 = .ok (.bipush 8, 2) := by decide +kernel
theorem dX8_init_645 : decode cX8_init 645 = .ok (.if_icmp .le 8, 3) := by decide +kernel
theorem dX8_init_648 : decode cX8_init 648 = .ok (.bipush 8, 2) := by decide +kernel
theorem dX8_init_650 : decode cX8_init 650 = .ok (.goto 4, 3) := by decide +kernel
theorem dX8_init_653 : decode cX8_init 653 = .ok (.iload_n 2, 1) := by decide +kernel
theorem dX8_init_654 : decode cX8_init 654 = .ok (.putfield 113, 3) := by decide +kernel
theorem dX8_init_657 : decode cX8_init 657 = .ok (.return_, 1) := by decide +kernel
theorem dX8_clear_0 : decode cX8_clear 0 = .ok (.iconst 0, 1) := by decide +kernel
theorem dX8_clear_1 : decode cX8_clear 1 = .ok (.istore_n 2, 1) := by decide +kernel
theorem dX8_clear_2 : decode cX8_clear 2 = .ok (.iload_n 2, 1) := by decide +kernel
theorem dX8_clear_3 : decode cX8_clear 3 = .ok (.bipush 84, 2) := by decide +kernel
theorem dX8_clear_5 : decode cX8_clear 5 = .ok (.if_icmp .ge 21, 3) := by decide +kernel
theorem dX8_clear_8 : decode cX8_clear 8 = .ok (.aload_n 0, 1) := by decide +kernel
theorem dX8_clear_9 : decode cX8_clear 9 = .ok (.getfield 7, 3) := by decide +kernel
theorem dX8_clear_12 : decode cX8_clear 12 = .ok (.bipush 84, 2) := by decide +kernel
theorem dX8_clear_14 : decode cX8_clear 14 = .ok (.iload_n 1, 1) := by decide +kernel
theorem dX8_clear_15 : decode cX8_clear 15 = .ok (.imul, 1) := by decide +kernel
theorem dX8_clear_16 : decode cX8_clear 16 = .ok (.iload_n 2, 1) := by decide +kernel
theorem dX8_clear_17 : decode cX8_clear 17 = .ok (.iadd, 1) := by decide +kernel
theorem dX8_clear_18 : decode cX8_clear 18 = .ok (.iconst 0, 1) := by decide +kernel
theorem dX8_clear_19 : decode cX8_clear 19 = .ok (.iastore, 1) := by decide +kernel
theorem dX8_clear_20 : decode cX8_clear 20 = .ok (.iinc 2 1, 3) := by decide +kernel
theorem dX8_clear_23 : decode cX8_clear 23 = .ok (.goto (-21), 3) := by decide +kernel
theorem dX8_clear_26 : decode cX8_clear 26 = .ok (.return_, 1) := by decide +kernel
theorem dX8_copy_0 : decode cX8_copy 0 = .ok (.iconst 0, 1) := by decide +kernel
theorem dX8_copy_1 : decode cX8_copy 1 = .ok (.istore_n 3, 1) := by decide +kernel
theorem dX8_copy_2 : decode cX8_copy 2 = .ok (.iload_n 3, 1) := by decide +kernel
theorem dX8_copy_3 : decode cX8_copy 3 = .ok (.bipush 84, 2) := by decide +kernel
theorem dX8_copy_5 : decode cX8_copy 5 = .ok (.if_icmp .ge 31, 3) := by decide +kernel
theorem dX8_copy_8 : decode cX8_copy 8 = .ok (.aload_n 0, 1) := by decide +kernel
theorem dX8_copy_9 : decode cX8_copy 9 = .ok (.getfield 7, 3) := by decide +kernel
theorem dX8_copy_12 : decode cX8_copy 12 = .ok (.bipush 84, 2) := by decide +kernel
theorem dX8_copy_14 : decode cX8_copy 14 = .ok (.iload_n 1, 1) := by decide +kernel
theorem dX8_copy_15 : decode cX8_copy 15 = .ok (.imul, 1) := by decide +kernel
theorem dX8_copy_16 : decode cX8_copy 16 = .ok (.iload_n 3, 1) := by decide +kernel
theorem dX8_copy_17 : decode cX8_copy 17 = .ok (.iadd, 1) := by decide +kernel
theorem dX8_copy_18 : decode cX8_copy 18 = .ok (.aload_n 0, 1) := by decide +kernel
theorem dX8_copy_19 : decode cX8_copy 19 = .ok (.getfield 7, 3) := by decide +kernel
theorem dX8_copy_22 : decode cX8_copy 22 = .ok (.bipush 84, 2) := by decide +kernel
theorem dX8_copy_24 : decode cX8_copy 24 = .ok (.iload_n 2, 1) := by decide +kernel
theorem dX8_copy_25 : decode cX8_copy 25 = .ok (.imul, 1) := by decide +kernel
theorem dX8_copy_26 : decode cX8_copy 26 = .ok (.iload_n 3, 1) := by decide +kernel
theorem dX8_copy_27 : decode cX8_copy 27 = .ok (.iadd, 1) := by decide +kernel
theorem dX8_copy_28 : decode cX8_copy 28 = .ok (.iaload, 1) := by decide +kernel
theorem dX8_copy_29 : decode cX8_copy 29 = .ok (.iastore, 1) := by decide +kernel
theorem dX8_copy_30 : decode cX8_copy 30 = .ok (.iinc 3 1, 3) := by decide +kernel
theorem dX8_copy_33 : decode cX8_copy 33 = .ok (.goto (-31), 3) := by decide +kernel
theorem dX8_copy_36 : decode cX8_copy 36 = .ok (.return_, 1) := by decide +kernel
theorem dX8_small_0 : decode cX8_small 0 = .ok (.aload_n 0, 1) := by decide +kernel
theorem dX8_small_1 : decode cX8_small 1 = .ok (.iload_n 1, 1) := by decide +kernel
theorem dX8_small_2 : decode cX8_small 2 = .ok (.invokevirtual 116, 3) := by decide +kernel
theorem dX8_small_5 : decode cX8_small 5 = .ok (.aload_n 0, 1) := by decide +kernel
theorem dX8_small_6 : decode cX8_small 6 = .ok (.getfield 7, 3) := by decide +kernel
theorem dX8_small_9 : decode cX8_small 9 = .ok (.bipush 84, 2) := by decide +kernel
theorem dX8_small_11 : decode cX8_small 11 = .ok (.iload_n 1, 1) := by decide +kernel
theorem dX8_small_12 : decode cX8_small 12 = .ok (.imul, 1) := by decide +kernel
theorem dX8_small_13 : decode cX8_small 13 = .ok (.iload_n 2, 1) := by decide +kernel
theorem dX8_small_14 : decode cX8_small 14 = .ok (.iastore, 1) := by decide +kernel
theorem dX8_small_15 : decode cX8_small 15 = .ok (.return_, 1) := by decide +kernel
theorem dX8_longOf_0 : decode cX8_longOf 0 = .ok (.bipush 84, 2) := by decide +kernel
theorem dX8_longOf_2 : decode cX8_longOf 2 = .ok (.istore_n 2, 1) := by decide +kernel
theorem dX8_longOf_3 : decode cX8_longOf 3 = .ok (.iload_n 2, 1) := by decide +kernel
theorem dX8_longOf_4 : decode cX8_longOf 4 = .ok (.ifCond .le 25, 3) := by decide +kernel
theorem dX8_longOf_7 : decode cX8_longOf 7 = .ok (.aload_n 0, 1) := by decide +kernel
theorem dX8_longOf_8 : decode cX8_longOf 8 = .ok (.getfield 7, 3) := by decide +kernel
theorem dX8_longOf_11 : decode cX8_longOf 11 = .ok (.bipush 84, 2) := by decide +kernel
theorem dX8_longOf_13 : decode cX8_longOf 13 = .ok (.iload_n 1, 1) := by decide +kernel
theorem dX8_longOf_14 : decode cX8_longOf 14 = .ok (.imul, 1) := by decide +kernel
theorem dX8_longOf_15 : decode cX8_longOf 15 = .ok (.iload_n 2, 1) := by decide +kernel
theorem dX8_longOf_16 : decode cX8_longOf 16 = .ok (.iadd, 1) := by decide +kernel
theorem dX8_longOf_17 : decode cX8_longOf 17 = .ok (.iconst 1, 1) := by decide +kernel
theorem dX8_longOf_18 : decode cX8_longOf 18 = .ok (.isub, 1) := by decide +kernel
theorem dX8_longOf_19 : decode cX8_longOf 19 = .ok (.iaload, 1) := by decide +kernel
theorem dX8_longOf_20 : decode cX8_longOf 20 = .ok (.ifCond .ne 9, 3) := by decide +kernel
theorem dX8_longOf_23 : decode cX8_longOf 23 = .ok (.iinc 2 (-1), 3) := by decide +kernel
theorem dX8_longOf_26 : decode cX8_longOf 26 = .ok (.goto (-23), 3) := by decide +kernel
theorem dX8_longOf_29 : decode cX8_longOf 29 = .ok (.iload_n 2, 1) := by decide +kernel
theorem dX8_longOf_30 : decode cX8_longOf 30 = .ok (.ireturn, 1) := by decide +kernel
theorem dX8_compare_0 : decode cX8_compare 0 = .ok (.bipush 83, 2) := by decide +kernel
theorem dX8_compare_2 : decode cX8_compare 2 = .ok (.istore_n 3, 1) := by decide +kernel
theorem dX8_compare_3 : decode cX8_compare 3 = .ok (.iload_n 3, 1) := by decide +kernel
theorem dX8_compare_4 : decode cX8_compare 4 = .ok (.ifCond .le 34, 3) := by decide +kernel
theorem dX8_compare_7 : decode cX8_compare 7 = .ok (.aload_n 0, 1) := by decide +kernel
theorem dX8_compare_8 : decode cX8_compare 8 = .ok (.getfield 7, 3) := by decide +kernel
theorem dX8_compare_11 : decode cX8_compare 11 = .ok (.bipush 84, 2) := by decide +kernel
theorem dX8_compare_13 : decode cX8_compare 13 = .ok (.iload_n 1, 1) := by decide +kernel
theorem dX8_compare_14 : decode cX8_compare 14 = .ok (.imul, 1) := by decide +kernel
theorem dX8_compare_15 : decode cX8_compare 15 = .ok (.iload_n 3, 1) := by decide +kernel
theorem dX8_compare_16 : decode cX8_compare 16 = .ok (.iadd, 1) := by decide +kernel
theorem dX8_compare_17 : decode cX8_compare 17 = .ok (.iaload, 1) := by decide +kernel
theorem dX8_compare_18 : decode cX8_compare 18 = .ok (.aload_n 0, 1) := by decide +kernel
theorem dX8_compare_19 : decode cX8_compare 19 = .ok (.getfield 7, 3) := by decide +kernel
theorem dX8_compare_22 : decode cX8_compare 22 = .ok (.bipush 84, 2) := by decide +kernel
theorem dX8_compare_24 : decode cX8_compare 24 = .ok (.iload_n 2, 1) := by decide +kernel
theorem dX8_compare_25 : decode cX8_compare 25 = .ok (.imul, 1) := by decide +kernel
theorem dX8_compare_26 : decode cX8_compare 26 = .ok (.iload_n 3, 1) := by decide +kernel
theorem dX8_compare_27 : decode cX8_compare 27 = .ok (.iadd, 1) := by decide +kernel
theorem dX8_compare_28 : decode cX8_compare 28 = .ok (.iaload, 1) := by decide +kernel
theorem dX8_compare_29 : decode cX8_compare 29 = .ok (.if_icmp .ne 9, 3) := by decide +kernel
theorem dX8_compare_32 : decode cX8_compare 32 = .ok (.iinc 3 (-1), 3) := by decide +kernel
theorem dX8_compare_35 : decode cX8_compare 35 = .ok (.goto (-32), 3) := by decide +kernel
theorem dX8_compare_38 : decode cX8_compare 38 = .ok (.aload_n 0, 1) := by decide +kernel
theorem dX8_compare_39 : decode cX8_compare 39 = .ok (.getfield 7, 3) := by decide +kernel
theorem dX8_compare_42 : decode cX8_compare 42 = .ok (.bipush 84, 2) := by decide +kernel
theorem dX8_compare_44 : decode cX8_compare 44 = .ok (.iload_n 1, 1) := by decide +kernel
theorem dX8_compare_45 : decode cX8_compare 45 = .ok (.imul, 1) := by decide +kernel
theorem dX8_compare_46 : decode cX8_compare 46 = .ok (.iload_n 3, 1) := by decide +kernel
theorem dX8_compare_47 : decode cX8_compare 47 = .ok (.iadd, 1) := by decide +kernel
theorem dX8_compare_48 : decode cX8_compare 48 = .ok (.iaload, 1) := by decide +kernel
theorem dX8_compare_49 : decode cX8_compare 49 = .ok (.istore 4, 2) := by decide +kernel
theorem dX8_compare_51 : decode cX8_compare 51 = .ok (.aload_n 0, 1) := by decide +kernel
theorem dX8_compare_52 : decode cX8_compare 52 = .ok (.getfield 7, 3) := by decide +kernel
theorem dX8_compare_55 : decode cX8_compare 55 = .ok (.bipush 84, 2) := by decide +kernel
theorem dX8_compare_57 : decode cX8_compare 57 = .ok (.iload_n 2, 1) := by decide +kernel
theorem dX8_compare_58 : decode cX8_compare 58 = .ok (.imul, 1) := by decide +kernel
theorem dX8_compare_59 : decode cX8_compare 59 = .ok (.iload_n 3, 1) := by decide +kernel
theorem dX8_compare_60 : decode cX8_compare 60 = .ok (.iadd, 1) := by decide +kernel
theorem dX8_compare_61 : decode cX8_compare 61 = .ok (.iaload, 1) := by decide +kernel
theorem dX8_compare_62 : decode cX8_compare 62 = .ok (.istore 5, 2) := by decide +kernel
theorem dX8_compare_64 : decode cX8_compare 64 = .ok (.iload 4, 2) := by decide +kernel
theorem dX8_compare_66 : decode cX8_compare 66 = .ok (.iload 5, 2) := by decide +kernel
theorem dX8_compare_68 : decode cX8_compare 68 = .ok (.if_icmp .ge 7, 3) := by decide +kernel
theorem dX8_compare_71 : decode cX8_compare 71 = .ok (.iconst (-1), 1) := by decide +kernel
theorem dX8_compare_72 : decode cX8_compare 72 = .ok (.goto 15, 3) := by decide +kernel
theorem dX8_compare_75 : decode cX8_compare 75 = .ok (.iload 4, 2) := by decide +kernel
theorem dX8_compare_77 : decode cX8_compare 77 = .ok (.iload 5, 2) := by decide +kernel
theorem dX8_compare_79 : decode cX8_compare 79 = .ok (.if_icmp .le 7, 3) := by decide +kernel
theorem dX8_compare_82 : decode cX8_compare 82 = .ok (.iconst 1, 1) := by decide +kernel
theorem dX8_compare_83 : decode cX8_compare 83 = .ok (.goto 4, 3) := by decide +kernel
theorem dX8_compare_86 : decode cX8_compare 86 = .ok (.iconst 0, 1) := by decide +kernel
theorem dX8_compare_87 : decode cX8_compare 87 = .ok (.ireturn, 1) := by decide +kernel
theorem dX8_isSmall_0 : decode cX8_isSmall 0 = .ok (.aload_n 0, 1) := by decide +kernel
theorem dX8_isSmall_1 : decode cX8_isSmall 1 = .ok (.iload_n 1, 1) := by decide +kernel
theorem dX8_isSmall_2 : decode cX8_isSmall 2 = .ok (.invokevirtual 120, 3) := by decide +kernel
theorem dX8_isSmall_5 : decode cX8_isSmall 5 = .ok (.iconst 1, 1) := by decide +kernel
theorem dX8_isSmall_6 : decode cX8_isSmall 6 = .ok (.if_icmp .gt 20, 3) := by decide +kernel
theorem dX8_isSmall_9 : decode cX8_isSmall 9 = .ok (.aload_n 0, 1) := by decide +kernel
theorem dX8_isSmall_10 : decode cX8_isSmall 10 = .ok (.getfield 7, 3) := by decide +kernel
theorem dX8_isSmall_13 : decode cX8_isSmall 13 = .ok (.bipush 84, 2) := by decide +kernel
theorem dX8_isSmall_15 : decode cX8_isSmall 15 = .ok (.iload_n 1, 1) := by decide +kernel
theorem dX8_isSmall_16 : decode cX8_isSmall 16 = .ok (.imul, 1) := by decide +kernel
theorem dX8_isSmall_17 : decode cX8_isSmall 17 = .ok (.iaload, 1) := by decide +kernel
theorem dX8_isSmall_18 : decode cX8_isSmall 18 = .ok (.iload_n 2, 1) := by decide +kernel
theorem dX8_isSmall_19 : decode cX8_isSmall 19 = .ok (.if_icmp .ne 7, 3) := by decide +kernel
theorem dX8_isSmall_22 : decode cX8_isSmall 22 = .ok (.iconst 1, 1) := by decide +kernel
theorem dX8_isSmall_23 : decode cX8_isSmall 23 = .ok (.goto 4, 3) := by decide +kernel
theorem dX8_isSmall_26 : decode cX8_isSmall 26 = .ok (.iconst 0, 1) := by decide +kernel
theorem dX8_isSmall_27 : decode cX8_isSmall 27 = .ok (.ireturn, 1) := by decide +kernel
theorem dX8_adds_0 : decode cX8_adds 0 = .ok (.iconst 0, 1) := by decide +kernel
theorem dX8_adds_1 : decode cX8_adds 1 = .ok (.istore_n 3, 1) := by decide +kernel
theorem dX8_adds_2 : decode cX8_adds 2 = .ok (.iconst 0, 1) := by decide +kernel
theorem dX8_adds_3 : decode cX8_adds 3 = .ok (.istore 4, 2) := by decide +kernel
theorem dX8_adds_5 : decode cX8_adds 5 = .ok (.iload 4, 2) := by decide +kernel
theorem dX8_adds_7 : decode cX8_adds 7 = .ok (.bipush 84, 2) := by decide +kernel
theorem dX8_adds_9 : decode cX8_adds 9 = .ok (.if_icmp .ge 61, 3) := by decide +kernel
theorem dX8_adds_12 : decode cX8_adds 12 = .ok (.aload_n 0, 1) := by decide +kernel
theorem dX8_adds_13 : decode cX8_adds 13 = .ok (.getfield 7, 3) := by decide +kernel
theorem dX8_adds_16 : decode cX8_adds 16 = .ok (.bipush 84, 2) := by decide +kernel
theorem dX8_adds_18 : decode cX8_adds 18 = .ok (.iload_n 1, 1) := by decide +kernel
theorem dX8_adds_19 : decode cX8_adds 19 = .ok (.imul, 1) := by decide +kernel
theorem dX8_adds_20 : decode cX8_adds 20 = .ok (.iload 4, 2) := by decide +kernel
theorem dX8_adds_22 : decode cX8_adds 22 = .ok (.iadd, 1) := by decide +kernel
theorem dX8_adds_23 : decode cX8_adds 23 = .ok (.iaload, 1) := by decide +kernel
theorem dX8_adds_24 : decode cX8_adds 24 = .ok (.aload_n 0, 1) := by decide +kernel
theorem dX8_adds_25 : decode cX8_adds 25 = .ok (.getfield 7, 3) := by decide +kernel
theorem dX8_adds_28 : decode cX8_adds 28 = .ok (.bipush 84, 2) := by decide +kernel
theorem dX8_adds_30 : decode cX8_adds 30 = .ok (.iload_n 2, 1) := by decide +kernel
theorem dX8_adds_31 : decode cX8_adds 31 = .ok (.imul, 1) := by decide +kernel
theorem dX8_adds_32 : decode cX8_adds 32 = .ok (.iload 4, 2) := by decide +kernel
theorem dX8_adds_34 : decode cX8_adds 34 = .ok (.iadd, 1) := by decide +kernel
theorem dX8_adds_35 : decode cX8_adds 35 = .ok (.iaload, 1) := by decide +kernel
theorem dX8_adds_36 : decode cX8_adds 36 = .ok (.iadd, 1) := by decide +kernel
theorem dX8_adds_37 : decode cX8_adds 37 = .ok (.iload_n 3, 1) := by decide +kernel
theorem dX8_adds_38 : decode cX8_adds 38 = .ok (.iadd, 1) := by decide +kernel
theorem dX8_adds_39 : decode cX8_adds 39 = .ok (.istore 5, 2) := by decide +kernel
theorem dX8_adds_41 : decode cX8_adds 41 = .ok (.aload_n 0, 1) := by decide +kernel
theorem dX8_adds_42 : decode cX8_adds 42 = .ok (.getfield 7, 3) := by decide +kernel
theorem dX8_adds_45 : decode cX8_adds 45 = .ok (.bipush 84, 2) := by decide +kernel
theorem dX8_adds_47 : decode cX8_adds 47 = .ok (.iload_n 1, 1) := by decide +kernel
theorem dX8_adds_48 : decode cX8_adds 48 = .ok (.imul, 1) := by decide +kernel
theorem dX8_adds_49 : decode cX8_adds 49 = .ok (.iload 4, 2) := by decide +kernel
theorem dX8_adds_51 : decode cX8_adds 51 = .ok (.iadd, 1) := by decide +kernel
theorem dX8_adds_52 : decode cX8_adds 52 = .ok (.iload 5, 2) := by decide +kernel
theorem dX8_adds_54 : decode cX8_adds 54 = .ok (.ldc 124, 2) := by decide +kernel
theorem dX8_adds_56 : decode cX8_adds 56 = .ok (.iand, 1) := by decide +kernel
theorem dX8_adds_57 : decode cX8_adds 57 = .ok (.iastore, 1) := by decide +kernel
theorem dX8_adds_58 : decode cX8_adds 58 = .ok (.iload 5, 2) := by decide +kernel
theorem dX8_adds_60 : decode cX8_adds 60 = .ok (.bipush 16, 2) := by decide +kernel
theorem dX8_adds_62 : decode cX8_adds 62 = .ok (.ishr, 1) := by decide +kernel
theorem dX8_adds_63 : decode cX8_adds 63 = .ok (.istore_n 3, 1) := by decide +kernel
theorem dX8_adds_64 : decode cX8_adds 64 = .ok (.iinc 4 1, 3) := by decide +kernel
theorem dX8_adds_67 : decode cX8_adds 67 = .ok (.goto (-62), 3) := by decide +kernel
theorem dX8_adds_70 : decode cX8_adds 70 = .ok (.return_, 1) := by decide +kernel
theorem dX8_takes_0 : decode cX8_takes 0 = .ok (.iconst 0, 1) := by decide +kernel
theorem dX8_takes_1 : decode cX8_takes 1 = .ok (.istore_n 3, 1) := by decide +kernel
theorem dX8_takes_2 : decode cX8_takes 2 = .ok (.iconst 0, 1) := by decide +kernel
theorem dX8_takes_3 : decode cX8_takes 3 = .ok (.istore 4, 2) := by decide +kernel
theorem dX8_takes_5 : decode cX8_takes 5 = .ok (.iload 4, 2) := by decide +kernel
theorem dX8_takes_7 : decode cX8_takes 7 = .ok (.bipush 84, 2) := by decide +kernel
theorem dX8_takes_9 : decode cX8_takes 9 = .ok (.if_icmp .ge 66, 3) := by decide +kernel
theorem dX8_takes_12 : decode cX8_takes 12 = .ok (.aload_n 0, 1) := by decide +kernel
theorem dX8_takes_13 : decode cX8_takes 13 = .ok (.getfield 7, 3) := by decide +kernel
theorem dX8_takes_16 : decode cX8_takes 16 = .ok (.bipush 84, 2) := by decide +kernel
theorem dX8_takes_18 : decode cX8_takes 18 = .ok (.iload_n 1, 1) := by decide +kernel
theorem dX8_takes_19 : decode cX8_takes 19 = .ok (.imul, 1) := by decide +kernel
theorem dX8_takes_20 : decode cX8_takes 20 = .ok (.iload 4, 2) := by decide +kernel
theorem dX8_takes_22 : decode cX8_takes 22 = .ok (.iadd, 1) := by decide +kernel
theorem dX8_takes_23 : decode cX8_takes 23 = .ok (.iaload, 1) := by decide +kernel
theorem dX8_takes_24 : decode cX8_takes 24 = .ok (.aload_n 0, 1) := by decide +kernel
theorem dX8_takes_25 : decode cX8_takes 25 = .ok (.getfield 7, 3) := by decide +kernel
theorem dX8_takes_28 : decode cX8_takes 28 = .ok (.bipush 84, 2) := by decide +kernel
theorem dX8_takes_30 : decode cX8_takes 30 = .ok (.iload_n 2, 1) := by decide +kernel
theorem dX8_takes_31 : decode cX8_takes 31 = .ok (.imul, 1) := by decide +kernel
theorem dX8_takes_32 : decode cX8_takes 32 = .ok (.iload 4, 2) := by decide +kernel
theorem dX8_takes_34 : decode cX8_takes 34 = .ok (.iadd, 1) := by decide +kernel
theorem dX8_takes_35 : decode cX8_takes 35 = .ok (.iaload, 1) := by decide +kernel
theorem dX8_takes_36 : decode cX8_takes 36 = .ok (.isub, 1) := by decide +kernel
theorem dX8_takes_37 : decode cX8_takes 37 = .ok (.iload_n 3, 1) := by decide +kernel
theorem dX8_takes_38 : decode cX8_takes 38 = .ok (.isub, 1) := by decide +kernel
theorem dX8_takes_39 : decode cX8_takes 39 = .ok (.istore 5, 2) := by decide +kernel
theorem dX8_takes_41 : decode cX8_takes 41 = .ok (.aload_n 0, 1) := by decide +kernel
theorem dX8_takes_42 : decode cX8_takes 42 = .ok (.getfield 7, 3) := by decide +kernel
theorem dX8_takes_45 : decode cX8_takes 45 = .ok (.bipush 84, 2) := by decide +kernel
theorem dX8_takes_47 : decode cX8_takes 47 = .ok (.iload_n 1, 1) := by decide +kernel
theorem dX8_takes_48 : decode cX8_takes 48 = .ok (.imul, 1) := by decide +kernel
theorem dX8_takes_49 : decode cX8_takes 49 = .ok (.iload 4, 2) := by decide +kernel
theorem dX8_takes_51 : decode cX8_takes 51 = .ok (.iadd, 1) := by decide +kernel
theorem dX8_takes_52 : decode cX8_takes 52 = .ok (.iload 5, 2) := by decide +kernel
theorem dX8_takes_54 : decode cX8_takes 54 = .ok (.ldc 124, 2) := by decide +kernel
theorem dX8_takes_56 : decode cX8_takes 56 = .ok (.iand, 1) := by decide +kernel
theorem dX8_takes_57 : decode cX8_takes 57 = .ok (.iastore, 1) := by decide +kernel
theorem dX8_takes_58 : decode cX8_takes 58 = .ok (.iload 5, 2) := by decide +kernel
theorem dX8_takes_60 : decode cX8_takes 60 = .ok (.ifCond .ge 7, 3) := by decide +kernel
theorem dX8_takes_63 : decode cX8_takes 63 = .ok (.iconst 1, 1) := by decide +kernel
theorem dX8_takes_64 : decode cX8_takes 64 = .ok (.goto 4, 3) := by decide +kernel
theorem dX8_takes_67 : decode cX8_takes 67 = .ok (.iconst 0, 1) := by decide +kernel
theorem dX8_takes_68 : decode cX8_takes 68 = .ok (.istore_n 3, 1) := by decide +kernel
theorem dX8_takes_69 : decode cX8_takes 69 = .ok (.iinc 4 1, 3) := by decide +kernel
theorem dX8_takes_72 : decode cX8_takes 72 = .ok (.goto (-67), 3) := by decide +kernel
theorem dX8_takes_75 : decode cX8_takes 75 = .ok (.return_, 1) := by decide +kernel
theorem dX8_takesSmall_0 : decode cX8_takesSmall 0 = .ok (.iload_n 2, 1) := by decide +kernel
theorem dX8_takesSmall_1 : decode cX8_takesSmall 1 = .ok (.istore_n 3, 1) := by decide +kernel
theorem dX8_takesSmall_2 : decode cX8_takesSmall 2 = .ok (.iconst 0, 1) := by decide +kernel
theorem dX8_takesSmall_3 : decode cX8_takesSmall 3 = .ok (.istore 4, 2) := by decide +kernel
theorem dX8_takesSmall_5 : decode cX8_takesSmall 5 = .ok (.iload 4, 2) := by decide +kernel
theorem dX8_takesSmall_7 : decode cX8_takesSmall 7 = .ok (.bipush 84, 2) := by decide +kernel
theorem dX8_takesSmall_9 : decode cX8_takesSmall 9 = .ok (.if_icmp .ge 57, 3) := by decide +kernel
theorem dX8_takesSmall_12 : decode cX8_takesSmall 12 = .ok (.iload_n 3, 1) := by decide +kernel
theorem dX8_takesSmall_13 : decode cX8_takesSmall 13 = .ok (.ifCond .le 53, 3) := by decide +kernel
theorem dX8_takesSmall_16 : decode cX8_takesSmall 16 = .ok (.aload_n 0, 1) := by decide +kernel
theorem dX8_takesSmall_17 : decode cX8_takesSmall 17 = .ok (.getfield 7, 3) := by decide +kernel
theorem dX8_takesSmall_20 : decode cX8_takesSmall 20 = .ok (.bipush 84, 2) := by decide +kernel
theorem dX8_takesSmall_22 : decode cX8_takesSmall 22 = .ok (.iload_n 1, 1) := by decide +kernel
theorem dX8_takesSmall_23 : decode cX8_takesSmall 23 = .ok (.imul, 1) := by decide +kernel
theorem dX8_takesSmall_24 : decode cX8_takesSmall 24 = .ok (.iload 4, 2) := by decide +kernel
theorem dX8_takesSmall_26 : decode cX8_takesSmall 26 = .ok (.iadd, 1) := by decide +kernel
theorem dX8_takesSmall_27 : decode cX8_takesSmall 27 = .ok (.iaload, 1) := by decide +kernel
theorem dX8_takesSmall_28 : decode cX8_takesSmall 28 = .ok (.iload_n 3, 1) := by decide +kernel
theorem dX8_takesSmall_29 : decode cX8_takesSmall 29 = .ok (.isub, 1) := by decide +kernel
theorem dX8_takesSmall_30 : decode cX8_takesSmall 30 = .ok (.istore 5, 2) := by decide +kernel
theorem dX8_takesSmall_32 : decode cX8_takesSmall 32 = .ok (.aload_n 0, 1) := by decide +kernel
theorem dX8_takesSmall_33 : decode cX8_takesSmall 33 = .ok (.getfield 7, 3) := by decide +kernel
theorem dX8_takesSmall_36 : decode cX8_takesSmall 36 = .ok (.bipush 84, 2) := by decide +kernel
theorem dX8_takesSmall_38 : decode cX8_takesSmall 38 = .ok (.iload_n 1, 1) := by decide +kernel
theorem dX8_takesSmall_39 : decode cX8_takesSmall 39 = .ok (.imul, 1) := by decide +kernel
theorem dX8_takesSmall_40 : decode cX8_takesSmall 40 = .ok (.iload 4, 2) := by decide +kernel
theorem dX8_takesSmall_42 : decode cX8_takesSmall 42 = .ok (.iadd, 1) := by decide +kernel
theorem dX8_takesSmall_43 : decode cX8_takesSmall 43 = .ok (.iload 5, 2) := by decide +kernel
theorem dX8_takesSmall_45 : decode cX8_takesSmall 45 = .ok (.ldc 124, 2) := by decide +kernel
theorem dX8_takesSmall_47 : decode cX8_takesSmall 47 = .ok (.iand, 1) := by decide +kernel
theorem dX8_takesSmall_48 : decode cX8_takesSmall 48 = .ok (.iastore, 1) := by decide +kernel
theorem dX8_takesSmall_49 : decode cX8_takesSmall 49 = .ok (.iload 5, 2) := by decide +kernel
theorem dX8_takesSmall_51 : decode cX8_takesSmall 51 = .ok (.ifCond .ge 7, 3) := by decide +kernel
theorem dX8_takesSmall_54 : decode cX8_takesSmall 54 = .ok (.iconst 1, 1) := by decide +kernel
theorem dX8_takesSmall_55 : decode cX8_takesSmall 55 = .ok (.goto 4, 3) := by decide +kernel
theorem dX8_takesSmall_58 : decode cX8_takesSmall 58 = .ok (.iconst 0, 1) := by decide +kernel
theorem dX8_takesSmall_59 : decode cX8_takesSmall 59 = .ok (.istore_n 3, 1) := by decide +kernel
theorem dX8_takesSmall_60 : decode cX8_takesSmall 60 = .ok (.iinc 4 1, 3) := by decide +kernel
theorem dX8_takesSmall_63 : decode cX8_takesSmall 63 = .ok (.goto (-58), 3) := by decide +kernel
theorem dX8_takesSmall_66 : decode cX8_takesSmall 66 = .ok (.return_, 1) := by decide +kernel
theorem dX8_growsSmall_0 : decode cX8_growsSmall 0 = .ok (.iload_n 3, 1) := by decide +kernel
theorem dX8_growsSmall_1 : decode cX8_growsSmall 1 = .ok (.i2l, 1) := by decide +kernel
theorem dX8_growsSmall_2 : decode cX8_growsSmall 2 = .ok (.lstore 4, 2) := by decide +kernel
theorem dX8_growsSmall_4 : decode cX8_growsSmall 4 = .ok (.iconst 0, 1) := by decide +kernel
theorem dX8_growsSmall_5 : decode cX8_growsSmall 5 = .ok (.istore 6, 2) := by decide +kernel
theorem dX8_growsSmall_7 : decode cX8_growsSmall 7 = .ok (.iload 6, 2) := by decide +kernel
theorem dX8_growsSmall_9 : decode cX8_growsSmall 9 = .ok (.bipush 84, 2) := by decide +kernel
theorem dX8_growsSmall_11 : decode cX8_growsSmall 11 = .ok (.if_icmp .ge 56, 3) := by decide +kernel
theorem dX8_growsSmall_14 : decode cX8_growsSmall 14 = .ok (.aload_n 0, 1) := by decide +kernel
theorem dX8_growsSmall_15 : decode cX8_growsSmall 15 = .ok (.getfield 7, 3) := by decide +kernel
theorem dX8_growsSmall_18 : decode cX8_growsSmall 18 = .ok (.bipush 84, 2) := by decide +kernel
theorem dX8_growsSmall_20 : decode cX8_growsSmall 20 = .ok (.iload_n 1, 1) := by decide +kernel
theorem dX8_growsSmall_21 : decode cX8_growsSmall 21 = .ok (.imul, 1) := by decide +kernel
theorem dX8_growsSmall_22 : decode cX8_growsSmall 22 = .ok (.iload 6, 2) := by decide +kernel
theorem dX8_growsSmall_24 : decode cX8_growsSmall 24 = .ok (.iadd, 1) := by decide +kernel
theorem dX8_growsSmall_25 : decode cX8_growsSmall 25 = .ok (.iaload, 1) := by decide +kernel
theorem dX8_growsSmall_26 : decode cX8_growsSmall 26 = .ok (.i2l, 1) := by decide +kernel
theorem dX8_growsSmall_27 : decode cX8_growsSmall 27 = .ok (.iload_n 2, 1) := by decide +kernel
theorem dX8_growsSmall_28 : decode cX8_growsSmall 28 = .ok (.i2l, 1) := by decide +kernel
theorem dX8_growsSmall_29 : decode cX8_growsSmall 29 = .ok (.lmul, 1) := by decide +kernel
theorem dX8_growsSmall_30 : decode cX8_growsSmall 30 = .ok (.lload 4, 2) := by decide +kernel
theorem dX8_growsSmall_32 : decode cX8_growsSmall 32 = .ok (.ladd, 1) := by decide +kernel
theorem dX8_growsSmall_33 : decode cX8_growsSmall 33 = .ok (.lstore 7, 2) := by decide +kernel
theorem dX8_growsSmall_35 : decode cX8_growsSmall 35 = .ok (.aload_n 0, 1) := by decide +kernel
theorem dX8_growsSmall_36 : decode cX8_growsSmall 36 = .ok (.getfield 7, 3) := by decide +kernel
theorem dX8_growsSmall_39 : decode cX8_growsSmall 39 = .ok (.bipush 84, 2) := by decide +kernel
theorem dX8_growsSmall_41 : decode cX8_growsSmall 41 = .ok (.iload_n 1, 1) := by decide +kernel
theorem dX8_growsSmall_42 : decode cX8_growsSmall 42 = .ok (.imul, 1) := by decide +kernel
theorem dX8_growsSmall_43 : decode cX8_growsSmall 43 = .ok (.iload 6, 2) := by decide +kernel
theorem dX8_growsSmall_45 : decode cX8_growsSmall 45 = .ok (.iadd, 1) := by decide +kernel
theorem dX8_growsSmall_46 : decode cX8_growsSmall 46 = .ok (.lload 7, 2) := by decide +kernel
theorem dX8_growsSmall_48 : decode cX8_growsSmall 48 = .ok (.ldc2_w 125, 3) := by decide +kernel
theorem dX8_growsSmall_51 : decode cX8_growsSmall 51 = .ok (.land, 1) := by decide +kernel
theorem dX8_growsSmall_52 : decode cX8_growsSmall 52 = .ok (.l2i, 1) := by decide +kernel
theorem dX8_growsSmall_53 : decode cX8_growsSmall 53 = .ok (.iastore, 1) := by decide +kernel
theorem dX8_growsSmall_54 : decode cX8_growsSmall 54 = .ok (.lload 7, 2) := by decide +kernel
theorem dX8_growsSmall_56 : decode cX8_growsSmall 56 = .ok (.bipush 16, 2) := by decide +kernel
theorem dX8_growsSmall_58 : decode cX8_growsSmall 58 = .ok (.lshr, 1) := by decide +kernel
theorem dX8_growsSmall_59 : decode cX8_growsSmall 59 = .ok (.lstore 4, 2) := by decide +kernel
theorem dX8_growsSmall_61 : decode cX8_growsSmall 61 = .ok (.iinc 6 1, 3) := by decide +kernel
theorem dX8_growsSmall_64 : decode cX8_growsSmall 64 = .ok (.goto (-57), 3) := by decide +kernel
theorem dX8_growsSmall_67 : decode cX8_growsSmall 67 = .ok (.return_, 1) := by decide +kernel
theorem dX8_restSmall_0 : decode cX8_restSmall 0 = .ok (.lconst 0, 1) := by decide +kernel
theorem dX8_restSmall_1 : decode cX8_restSmall 1 = .ok (.lstore_n 3, 1) := by decide +kernel
theorem dX8_restSmall_2 : decode cX8_restSmall 2 = .ok (.bipush 83, 2) := by decide +kernel
theorem dX8_restSmall_4 : decode cX8_restSmall 4 = .ok (.istore 5, 2) := by decide +kernel
theorem dX8_restSmall_6 : decode cX8_restSmall 6 = .ok (.iload 5, 2) := by decide +kernel
theorem dX8_restSmall_8 : decode cX8_restSmall 8 = .ok (.ifCond .lt 31, 3) := by decide +kernel
theorem dX8_restSmall_11 : decode cX8_restSmall 11 = .ok (.lload_n 3, 1) := by decide +kernel
theorem dX8_restSmall_12 : decode cX8_restSmall 12 = .ok (.bipush 16, 2) := by decide +kernel
theorem dX8_restSmall_14 : decode cX8_restSmall 14 = .ok (.lshl, 1) := by decide +kernel
theorem dX8_restSmall_15 : decode cX8_restSmall 15 = .ok (.aload_n 0, 1) := by decide +kernel
theorem dX8_restSmall_16 : decode cX8_restSmall 16 = .ok (.getfield 7, 3) := by decide +kernel
theorem dX8_restSmall_19 : decode cX8_restSmall 19 = .ok (.bipush 84, 2) := by decide +kernel
theorem dX8_restSmall_21 : decode cX8_restSmall 21 = .ok (.iload_n 1, 1) := by decide +kernel
theorem dX8_restSmall_22 : decode cX8_restSmall 22 = .ok (.imul, 1) := by decide +kernel
theorem dX8_restSmall_23 : decode cX8_restSmall 23 = .ok (.iload 5, 2) := by decide +kernel
theorem dX8_restSmall_25 : decode cX8_restSmall 25 = .ok (.iadd, 1) := by decide +kernel
theorem dX8_restSmall_26 : decode cX8_restSmall 26 = .ok (.iaload, 1) := by decide +kernel
theorem dX8_restSmall_27 : decode cX8_restSmall 27 = .ok (.i2l, 1) := by decide +kernel
theorem dX8_restSmall_28 : decode cX8_restSmall 28 = .ok (.lor, 1) := by decide +kernel
theorem dX8_restSmall_29 : decode cX8_restSmall 29 = .ok (.iload_n 2, 1) := by decide +kernel
theorem dX8_restSmall_30 : decode cX8_restSmall 30 = .ok (.i2l, 1) := by decide +kernel
theorem dX8_restSmall_31 : decode cX8_restSmall 31 = .ok (.lrem, 1) := by decide +kernel
theorem dX8_restSmall_32 : decode cX8_restSmall 32 = .ok (.lstore_n 3, 1) := by decide +kernel
theorem dX8_restSmall_33 : decode cX8_restSmall 33 = .ok (.iinc 5 (-1), 3) := by decide +kernel
theorem dX8_restSmall_36 : decode cX8_restSmall 36 = .ok (.goto (-30), 3) := by decide +kernel
theorem dX8_restSmall_39 : decode cX8_restSmall 39 = .ok (.lload_n 3, 1) := by decide +kernel
theorem dX8_restSmall_40 : decode cX8_restSmall 40 = .ok (.l2i, 1) := by decide +kernel
theorem dX8_restSmall_41 : decode cX8_restSmall 41 = .ok (.ireturn, 1) := by decide +kernel
theorem dX8_shareSmall_0 : decode cX8_shareSmall 0 = .ok (.lconst 0, 1) := by decide +kernel
theorem dX8_shareSmall_1 : decode cX8_shareSmall 1 = .ok (.lstore_n 3, 1) := by decide +kernel
theorem dX8_shareSmall_2 : decode cX8_shareSmall 2 = .ok (.bipush 83, 2) := by decide +kernel
theorem dX8_shareSmall_4 : decode cX8_shareSmall 4 = .ok (.istore 5, 2) := by decide +kernel
theorem dX8_shareSmall_6 : decode cX8_shareSmall 6 = .ok (.iload 5, 2) := by decide +kernel
theorem dX8_shareSmall_8 : decode cX8_shareSmall 8 = .ok (.ifCond .lt 53, 3) := by decide +kernel
theorem dX8_shareSmall_11 : decode cX8_shareSmall 11 = .ok (.lload_n 3, 1) := by decide +kernel
theorem dX8_shareSmall_12 : decode cX8_shareSmall 12 = .ok (.bipush 16, 2) := by decide +kernel
theorem dX8_shareSmall_14 : decode cX8_shareSmall 14 = .ok (.lshl, 1) := by decide +kernel
theorem dX8_shareSmall_15 : decode cX8_shareSmall 15 = .ok (.aload_n 0, 1) := by decide +kernel
theorem dX8_shareSmall_16 : decode cX8_shareSmall 16 = .ok (.getfield 7, 3) := by decide +kernel
theorem dX8_shareSmall_19 : decode cX8_shareSmall 19 = .ok (.bipush 84, 2) := by decide +kernel
theorem dX8_shareSmall_21 : decode cX8_shareSmall 21 = .ok (.iload_n 1, 1) := by decide +kernel
theorem dX8_shareSmall_22 : decode cX8_shareSmall 22 = .ok (.imul, 1) := by decide +kernel
theorem dX8_shareSmall_23 : decode cX8_shareSmall 23 = .ok (.iload 5, 2) := by decide +kernel
theorem dX8_shareSmall_25 : decode cX8_shareSmall 25 = .ok (.iadd, 1) := by decide +kernel
theorem dX8_shareSmall_26 : decode cX8_shareSmall 26 = .ok (.iaload, 1) := by decide +kernel
theorem dX8_shareSmall_27 : decode cX8_shareSmall 27 = .ok (.i2l, 1) := by decide +kernel
theorem dX8_shareSmall_28 : decode cX8_shareSmall 28 = .ok (.lor, 1) := by decide +kernel
theorem dX8_shareSmall_29 : decode cX8_shareSmall 29 = .ok (.lstore 6, 2) := by decide +kernel
theorem dX8_shareSmall_31 : decode cX8_shareSmall 31 = .ok (.aload_n 0, 1) := by decide +kernel
theorem dX8_shareSmall_32 : decode cX8_shareSmall 32 = .ok (.getfield 7, 3) := by decide +kernel
theorem dX8_shareSmall_35 : decode cX8_shareSmall 35 = .ok (.bipush 84, 2) := by decide +kernel
theorem dX8_shareSmall_37 : decode cX8_shareSmall 37 = .ok (.iload_n 1, 1) := by decide +kernel
theorem dX8_shareSmall_38 : decode cX8_shareSmall 38 = .ok (.imul, 1) := by decide +kernel
theorem dX8_shareSmall_39 : decode cX8_shareSmall 39 = .ok (.iload 5, 2) := by decide +kernel
theorem dX8_shareSmall_41 : decode cX8_shareSmall 41 = .ok (.iadd, 1) := by decide +kernel
theorem dX8_shareSmall_42 : decode cX8_shareSmall 42 = .ok (.lload 6, 2) := by decide +kernel
theorem dX8_shareSmall_44 : decode cX8_shareSmall 44 = .ok (.iload_n 2, 1) := by decide +kernel
theorem dX8_shareSmall_45 : decode cX8_shareSmall 45 = .ok (.i2l, 1) := by decide +kernel
theorem dX8_shareSmall_46 : decode cX8_shareSmall 46 = .ok (.ldiv, 1) := by decide +kernel
theorem dX8_shareSmall_47 : decode cX8_shareSmall 47 = .ok (.l2i, 1) := by decide +kernel
theorem dX8_shareSmall_48 : decode cX8_shareSmall 48 = .ok (.iastore, 1) := by decide +kernel
theorem dX8_shareSmall_49 : decode cX8_shareSmall 49 = .ok (.lload 6, 2) := by decide +kernel
theorem dX8_shareSmall_51 : decode cX8_shareSmall 51 = .ok (.iload_n 2, 1) := by decide +kernel
theorem dX8_shareSmall_52 : decode cX8_shareSmall 52 = .ok (.i2l, 1) := by decide +kernel
theorem dX8_shareSmall_53 : decode cX8_shareSmall 53 = .ok (.lrem, 1) := by decide +kernel
theorem dX8_shareSmall_54 : decode cX8_shareSmall 54 = .ok (.lstore_n 3, 1) := by decide +kernel
theorem dX8_shareSmall_55 : decode cX8_shareSmall 55 = .ok (.iinc 5 (-1), 3) := by decide +kernel
theorem dX8_shareSmall_58 : decode cX8_shareSmall 58 = .ok (.goto (-52), 3) := by decide +kernel
theorem dX8_shareSmall_61 : decode cX8_shareSmall 61 = .ok (.return_, 1) := by decide +kernel
theorem dX8_moveLeft_0 : decode cX8_moveLeft 0 = .ok (.iconst 0, 1) := by decide +kernel
theorem dX8_moveLeft_1 : decode cX8_moveLeft 1 = .ok (.istore 4, 2) := by decide +kernel
theorem dX8_moveLeft_3 : decode cX8_moveLeft 3 = .ok (.iconst 0, 1) := by decide +kernel
theorem dX8_moveLeft_4 : decode cX8_moveLeft 4 = .ok (.istore 5, 2) := by decide +kernel
theorem dX8_moveLeft_6 : decode cX8_moveLeft 6 = .ok (.iload 5, 2) := by decide +kernel
theorem dX8_moveLeft_8 : decode cX8_moveLeft 8 = .ok (.bipush 84, 2) := by decide +kernel
theorem dX8_moveLeft_10 : decode cX8_moveLeft 10 = .ok (.if_icmp .ge 52, 3) := by decide +kernel
theorem dX8_moveLeft_13 : decode cX8_moveLeft 13 = .ok (.aload_n 0, 1) := by decide +kernel
theorem dX8_moveLeft_14 : decode cX8_moveLeft 14 = .ok (.getfield 7, 3) := by decide +kernel
theorem dX8_moveLeft_17 : decode cX8_moveLeft 17 = .ok (.bipush 84, 2) := by decide +kernel
theorem dX8_moveLeft_19 : decode cX8_moveLeft 19 = .ok (.iload_n 2, 1) := by decide +kernel
theorem dX8_moveLeft_20 : decode cX8_moveLeft 20 = .ok (.imul, 1) := by decide +kernel
theorem dX8_moveLeft_21 : decode cX8_moveLeft 21 = .ok (.iload 5, 2) := by decide +kernel
theorem dX8_moveLeft_23 : decode cX8_moveLeft 23 = .ok (.iadd, 1) := by decide +kernel
theorem dX8_moveLeft_24 : decode cX8_moveLeft 24 = .ok (.iaload, 1) := by decide +kernel
theorem dX8_moveLeft_25 : decode cX8_moveLeft 25 = .ok (.iload_n 3, 1) := by decide +kernel
theorem dX8_moveLeft_26 : decode cX8_moveLeft 26 = .ok (.ishl, 1) := by decide +kernel
theorem dX8_moveLeft_27 : decode cX8_moveLeft 27 = .ok (.iload 4, 2) := by decide +kernel
theorem dX8_moveLeft_29 : decode cX8_moveLeft 29 = .ok (.ior, 1) := by decide +kernel
theorem dX8_moveLeft_30 : decode cX8_moveLeft 30 = .ok (.istore 6, 2) := by decide +kernel
theorem dX8_moveLeft_32 : decode cX8_moveLeft 32 = .ok (.aload_n 0, 1) := by decide +kernel
theorem dX8_moveLeft_33 : decode cX8_moveLeft 33 = .ok (.getfield 7, 3) := by decide +kernel
theorem dX8_moveLeft_36 : decode cX8_moveLeft 36 = .ok (.bipush 84, 2) := by decide +kernel
theorem dX8_moveLeft_38 : decode cX8_moveLeft 38 = .ok (.iload_n 1, 1) := by decide +kernel
theorem dX8_moveLeft_39 : decode cX8_moveLeft 39 = .ok (.imul, 1) := by decide +kernel
theorem dX8_moveLeft_40 : decode cX8_moveLeft 40 = .ok (.iload 5, 2) := by decide +kernel
theorem dX8_moveLeft_42 : decode cX8_moveLeft 42 = .ok (.iadd, 1) := by decide +kernel
theorem dX8_moveLeft_43 : decode cX8_moveLeft 43 = .ok (.iload 6, 2) := by decide +kernel
theorem dX8_moveLeft_45 : decode cX8_moveLeft 45 = .ok (.ldc 124, 2) := by decide +kernel
theorem dX8_moveLeft_47 : decode cX8_moveLeft 47 = .ok (.iand, 1) := by decide +kernel
theorem dX8_moveLeft_48 : decode cX8_moveLeft 48 = .ok (.iastore, 1) := by decide +kernel
theorem dX8_moveLeft_49 : decode cX8_moveLeft 49 = .ok (.iload 6, 2) := by decide +kernel
theorem dX8_moveLeft_51 : decode cX8_moveLeft 51 = .ok (.bipush 16, 2) := by decide +kernel
theorem dX8_moveLeft_53 : decode cX8_moveLeft 53 = .ok (.iushr, 1) := by decide +kernel
theorem dX8_moveLeft_54 : decode cX8_moveLeft 54 = .ok (.istore 4, 2) := by decide +kernel
theorem dX8_moveLeft_56 : decode cX8_moveLeft 56 = .ok (.iinc 5 1, 3) := by decide +kernel
theorem dX8_moveLeft_59 : decode cX8_moveLeft 59 = .ok (.goto (-53), 3) := by decide +kernel
theorem dX8_moveLeft_62 : decode cX8_moveLeft 62 = .ok (.return_, 1) := by decide +kernel
theorem dX8_moveRight_0 : decode cX8_moveRight 0 = .ok (.iconst 0, 1) := by decide +kernel
theorem dX8_moveRight_1 : decode cX8_moveRight 1 = .ok (.istore_n 3, 1) := by decide +kernel
theorem dX8_moveRight_2 : decode cX8_moveRight 2 = .ok (.iload_n 3, 1) := by decide +kernel
theorem dX8_moveRight_3 : decode cX8_moveRight 3 = .ok (.bipush 84, 2) := by decide +kernel
theorem dX8_moveRight_5 : decode cX8_moveRight 5 = .ok (.if_icmp .ge 69, 3) := by decide +kernel
theorem dX8_moveRight_8 : decode cX8_moveRight 8 = .ok (.iload_n 3, 1) := by decide +kernel
theorem dX8_moveRight_9 : decode cX8_moveRight 9 = .ok (.iconst 1, 1) := by decide +kernel
theorem dX8_moveRight_10 : decode cX8_moveRight 10 = .ok (.iadd, 1) := by decide +kernel
theorem dX8_moveRight_11 : decode cX8_moveRight 11 = .ok (.bipush 84, 2) := by decide +kernel
theorem dX8_moveRight_13 : decode cX8_moveRight 13 = .ok (.if_icmp .ge 19, 3) := by decide +kernel
theorem dX8_moveRight_16 : decode cX8_moveRight 16 = .ok (.aload_n 0, 1) := by decide +kernel
theorem dX8_moveRight_17 : decode cX8_moveRight 17 = .ok (.getfield 7, 3) := by decide +kernel
theorem dX8_moveRight_20 : decode cX8_moveRight 20 = .ok (.bipush 84, 2) := by decide +kernel
theorem dX8_moveRight_22 : decode cX8_moveRight 22 = .ok (.iload_n 1, 1) := by decide +kernel
theorem dX8_moveRight_23 : decode cX8_moveRight 23 = .ok (.imul, 1) := by decide +kernel
theorem dX8_moveRight_24 : decode cX8_moveRight 24 = .ok (.iload_n 3, 1) := by decide +kernel
theorem dX8_moveRight_25 : decode cX8_moveRight 25 = .ok (.iadd, 1) := by decide +kernel
theorem dX8_moveRight_26 : decode cX8_moveRight 26 = .ok (.iconst 1, 1) := by decide +kernel
theorem dX8_moveRight_27 : decode cX8_moveRight 27 = .ok (.iadd, 1) := by decide +kernel
theorem dX8_moveRight_28 : decode cX8_moveRight 28 = .ok (.iaload, 1) := by decide +kernel
theorem dX8_moveRight_29 : decode cX8_moveRight 29 = .ok (.goto 4, 3) := by decide +kernel
theorem dX8_moveRight_32 : decode cX8_moveRight 32 = .ok (.iconst 0, 1) := by decide +kernel
theorem dX8_moveRight_33 : decode cX8_moveRight 33 = .ok (.istore 4, 2) := by decide +kernel
theorem dX8_moveRight_35 : decode cX8_moveRight 35 = .ok (.aload_n 0, 1) := by decide +kernel
theorem dX8_moveRight_36 : decode cX8_moveRight 36 = .ok (.getfield 7, 3) := by decide +kernel
theorem dX8_moveRight_39 : decode cX8_moveRight 39 = .ok (.bipush 84, 2) := by decide +kernel
theorem dX8_moveRight_41 : decode cX8_moveRight 41 = .ok (.iload_n 1, 1) := by decide +kernel
theorem dX8_moveRight_42 : decode cX8_moveRight 42 = .ok (.imul, 1) := by decide +kernel
theorem dX8_moveRight_43 : decode cX8_moveRight 43 = .ok (.iload_n 3, 1) := by decide +kernel
theorem dX8_moveRight_44 : decode cX8_moveRight 44 = .ok (.iadd, 1) := by decide +kernel
theorem dX8_moveRight_45 : decode cX8_moveRight 45 = .ok (.iload 4, 2) := by decide +kernel
theorem dX8_moveRight_47 : decode cX8_moveRight 47 = .ok (.bipush 16, 2) := by decide +kernel
theorem dX8_moveRight_49 : decode cX8_moveRight 49 = .ok (.ishl, 1) := by decide +kernel
theorem dX8_moveRight_50 : decode cX8_moveRight 50 = .ok (.aload_n 0, 1) := by decide +kernel
theorem dX8_moveRight_51 : decode cX8_moveRight 51 = .ok (.getfield 7, 3) := by decide +kernel
theorem dX8_moveRight_54 : decode cX8_moveRight 54 = .ok (.bipush 84, 2) := by decide +kernel
theorem dX8_moveRight_56 : decode cX8_moveRight 56 = .ok (.iload_n 1, 1) := by decide +kernel
theorem dX8_moveRight_57 : decode cX8_moveRight 57 = .ok (.imul, 1) := by decide +kernel
theorem dX8_moveRight_58 : decode cX8_moveRight 58 = .ok (.iload_n 3, 1) := by decide +kernel
theorem dX8_moveRight_59 : decode cX8_moveRight 59 = .ok (.iadd, 1) := by decide +kernel
theorem dX8_moveRight_60 : decode cX8_moveRight 60 = .ok (.iaload, 1) := by decide +kernel
theorem dX8_moveRight_61 : decode cX8_moveRight 61 = .ok (.ior, 1) := by decide +kernel
theorem dX8_moveRight_62 : decode cX8_moveRight 62 = .ok (.iload_n 2, 1) := by decide +kernel
theorem dX8_moveRight_63 : decode cX8_moveRight 63 = .ok (.iushr, 1) := by decide +kernel
theorem dX8_moveRight_64 : decode cX8_moveRight 64 = .ok (.ldc 124, 2) := by decide +kernel
theorem dX8_moveRight_66 : decode cX8_moveRight 66 = .ok (.iand, 1) := by decide +kernel
theorem dX8_moveRight_67 : decode cX8_moveRight 67 = .ok (.iastore, 1) := by decide +kernel
theorem dX8_moveRight_68 : decode cX8_moveRight 68 = .ok (.iinc 3 1, 3) := by decide +kernel
theorem dX8_moveRight_71 : decode cX8_moveRight 71 = .ok (.goto (-69), 3) := by decide +kernel
theorem dX8_moveRight_74 : decode cX8_moveRight 74 = .ok (.return_, 1) := by decide +kernel
theorem dX8_times_0 : decode cX8_times 0 = .ok (.aload_n 0, 1) := by decide +kernel
theorem dX8_times_1 : decode cX8_times 1 = .ok (.iload_n 2, 1) := by decide +kernel
theorem dX8_times_2 : decode cX8_times 2 = .ok (.invokevirtual 120, 3) := by decide +kernel
theorem dX8_times_5 : decode cX8_times 5 = .ok (.istore 4, 2) := by decide +kernel
theorem dX8_times_7 : decode cX8_times 7 = .ok (.aload_n 0, 1) := by decide +kernel
theorem dX8_times_8 : decode cX8_times 8 = .ok (.iload_n 3, 1) := by decide +kernel
theorem dX8_times_9 : decode cX8_times 9 = .ok (.invokevirtual 120, 3) := by decide +kernel
theorem dX8_times_12 : decode cX8_times 12 = .ok (.istore 5, 2) := by decide +kernel
theorem dX8_times_14 : decode cX8_times 14 = .ok (.aload_n 0, 1) := by decide +kernel
theorem dX8_times_15 : decode cX8_times 15 = .ok (.iload_n 1, 1) := by decide +kernel
theorem dX8_times_16 : decode cX8_times 16 = .ok (.invokevirtual 116, 3) := by decide +kernel
theorem dX8_times_19 : decode cX8_times 19 = .ok (.iconst 0, 1) := by decide +kernel
theorem dX8_times_20 : decode cX8_times 20 = .ok (.istore 6, 2) := by decide +kernel
theorem dX8_times_22 : decode cX8_times 22 = .ok (.iload 6, 2) := by decide +kernel
theorem dX8_times_24 : decode cX8_times 24 = .ok (.iload 4, 2) := by decide +kernel
theorem dX8_times_26 : decode cX8_times 26 = .ok (.if_icmp .ge 128, 3) := by decide +kernel
theorem dX8_times_29 : decode cX8_times 29 = .ok (.lconst 0, 1) := by decide +kernel
theorem dX8_times_30 : decode cX8_times 30 = .ok (.lstore 7, 2) := by decide +kernel
theorem dX8_times_32 : decode cX8_times 32 = .ok (.aload_n 0, 1) := by decide +kernel
theorem dX8_times_33 : decode cX8_times 33 = .ok (.getfield 7, 3) := by decide +kernel
theorem dX8_times_36 : decode cX8_times 36 = .ok (.bipush 84, 2) := by decide +kernel
theorem dX8_times_38 : decode cX8_times 38 = .ok (.iload_n 2, 1) := by decide +kernel
theorem dX8_times_39 : decode cX8_times 39 = .ok (.imul, 1) := by decide +kernel
theorem dX8_times_40 : decode cX8_times 40 = .ok (.iload 6, 2) := by decide +kernel
theorem dX8_times_42 : decode cX8_times 42 = .ok (.iadd, 1) := by decide +kernel
theorem dX8_times_43 : decode cX8_times 43 = .ok (.iaload, 1) := by decide +kernel
theorem dX8_times_44 : decode cX8_times 44 = .ok (.i2l, 1) := by decide +kernel
theorem dX8_times_45 : decode cX8_times 45 = .ok (.lstore 9, 2) := by decide +kernel
theorem dX8_times_47 : decode cX8_times 47 = .ok (.iconst 0, 1) := by decide +kernel
theorem dX8_times_48 : decode cX8_times 48 = .ok (.istore 11, 2) := by decide +kernel
theorem dX8_times_50 : decode cX8_times 50 = .ok (.iload 11, 2) := by decide +kernel
theorem dX8_times_52 : decode cX8_times 52 = .ok (.iload 5, 2) := by decide +kernel
theorem dX8_times_54 : decode cX8_times 54 = .ok (.if_icmp .ge 76, 3) := by decide +kernel
theorem dX8_times_57 : decode cX8_times 57 = .ok (.lload 9, 2) := by decide +kernel
theorem dX8_times_59 : decode cX8_times 59 = .ok (.aload_n 0, 1) := by decide +kernel
theorem dX8_times_60 : decode cX8_times 60 = .ok (.getfield 7, 3) := by decide +kernel
theorem dX8_times_63 : decode cX8_times 63 = .ok (.bipush 84, 2) := by decide +kernel
theorem dX8_times_65 : decode cX8_times 65 = .ok (.iload_n 3, 1) := by decide +kernel
theorem dX8_times_66 : decode cX8_times 66 = .ok (.imul, 1) := by decide +kernel
theorem dX8_times_67 : decode cX8_times 67 = .ok (.iload 11, 2) := by decide +kernel
theorem dX8_times_69 : decode cX8_times 69 = .ok (.iadd, 1) := by decide +kernel
theorem dX8_times_70 : decode cX8_times 70 = .ok (.iaload, 1) := by decide +kernel
theorem dX8_times_71 : decode cX8_times 71 = .ok (.i2l, 1) := by decide +kernel
theorem dX8_times_72 : decode cX8_times 72 = .ok (.lmul, 1) := by decide +kernel
theorem dX8_times_73 : decode cX8_times 73 = .ok (.aload_n 0, 1) := by decide +kernel
theorem dX8_times_74 : decode cX8_times 74 = .ok (.getfield 7, 3) := by decide +kernel
theorem dX8_times_77 : decode cX8_times 77 = .ok (.bipush 84, 2) := by decide +kernel
theorem dX8_times_79 : decode cX8_times 79 = .ok (.iload_n 1, 1) := by decide +kernel
theorem dX8_times_80 : decode cX8_times 80 = .ok (.imul, 1) := by decide +kernel
theorem dX8_times_81 : decode cX8_times 81 = .ok (.iload 6, 2) := by decide +kernel
theorem dX8_times_83 : decode cX8_times 83 = .ok (.iadd, 1) := by decide +kernel
theorem dX8_times_84 : decode cX8_times 84 = .ok (.iload 11, 2) := by decide +kernel
theorem dX8_times_86 : decode cX8_times 86 = .ok (.iadd, 1) := by decide +kernel
theorem dX8_times_87 : decode cX8_times 87 = .ok (.iaload, 1) := by decide +kernel
theorem dX8_times_88 : decode cX8_times 88 = .ok (.i2l, 1) := by decide +kernel
theorem dX8_times_89 : decode cX8_times 89 = .ok (.ladd, 1) := by decide +kernel
theorem dX8_times_90 : decode cX8_times 90 = .ok (.lload 7, 2) := by decide +kernel
theorem dX8_times_92 : decode cX8_times 92 = .ok (.ladd, 1) := by decide +kernel
theorem dX8_times_93 : decode cX8_times 93 = .ok (.lstore 12, 2) := by decide +kernel
theorem dX8_times_95 : decode cX8_times 95 = .ok (.aload_n 0, 1) := by decide +kernel
theorem dX8_times_96 : decode cX8_times 96 = .ok (.getfield 7, 3) := by decide +kernel
theorem dX8_times_99 : decode cX8_times 99 = .ok (.bipush 84, 2) := by decide +kernel
theorem dX8_times_101 : decode cX8_times 101 = .ok (.iload_n 1, 1) := by decide +kernel
theorem dX8_times_102 : decode cX8_times 102 = .ok (.imul, 1) := by decide +kernel
theorem dX8_times_103 : decode cX8_times 103 = .ok (.iload 6, 2) := by decide +kernel
theorem dX8_times_105 : decode cX8_times 105 = .ok (.iadd, 1) := by decide +kernel
theorem dX8_times_106 : decode cX8_times 106 = .ok (.iload 11, 2) := by decide +kernel
theorem dX8_times_108 : decode cX8_times 108 = .ok (.iadd, 1) := by decide +kernel
theorem dX8_times_109 : decode cX8_times 109 = .ok (.lload 12, 2) := by decide +kernel
theorem dX8_times_111 : decode cX8_times 111 = .ok (.ldc2_w 125, 3) := by decide +kernel
theorem dX8_times_114 : decode cX8_times 114 = .ok (.land, 1) := by decide +kernel
theorem dX8_times_115 : decode cX8_times 115 = .ok (.l2i, 1) := by decide +kernel
theorem dX8_times_116 : decode cX8_times 116 = .ok (.iastore, 1) := by decide +kernel
theorem dX8_times_117 : decode cX8_times 117 = .ok (.lload 12, 2) := by decide +kernel
theorem dX8_times_119 : decode cX8_times 119 = .ok (.bipush 16, 2) := by decide +kernel
theorem dX8_times_121 : decode cX8_times 121 = .ok (.lshr, 1) := by decide +kernel
theorem dX8_times_122 : decode cX8_times 122 = .ok (.lstore 7, 2) := by decide +kernel
theorem dX8_times_124 : decode cX8_times 124 = .ok (.iinc 11 1, 3) := by decide +kernel
theorem dX8_times_127 : decode cX8_times 127 = .ok (.goto (-77), 3) := by decide +kernel
theorem dX8_times_130 : decode cX8_times 130 = .ok (.aload_n 0, 1) := by decide +kernel
theorem dX8_times_131 : decode cX8_times 131 = .ok (.getfield 7, 3) := by decide +kernel
theorem dX8_times_134 : decode cX8_times 134 = .ok (.bipush 84, 2) := by decide +kernel
theorem dX8_times_136 : decode cX8_times 136 = .ok (.iload_n 1, 1) := by decide +kernel
theorem dX8_times_137 : decode cX8_times 137 = .ok (.imul, 1) := by decide +kernel
theorem dX8_times_138 : decode cX8_times 138 = .ok (.iload 6, 2) := by decide +kernel
theorem dX8_times_140 : decode cX8_times 140 = .ok (.iadd, 1) := by decide +kernel
theorem dX8_times_141 : decode cX8_times 141 = .ok (.iload 5, 2) := by decide +kernel
theorem dX8_times_143 : decode cX8_times 143 = .ok (.iadd, 1) := by decide +kernel
theorem dX8_times_144 : decode cX8_times 144 = .ok (.lload 7, 2) := by decide +kernel
theorem dX8_times_146 : decode cX8_times 146 = .ok (.l2i, 1) := by decide +kernel
theorem dX8_times_147 : decode cX8_times 147 = .ok (.iastore, 1) := by decide +kernel
theorem dX8_times_148 : decode cX8_times 148 = .ok (.iinc 6 1, 3) := by decide +kernel
theorem dX8_times_151 : decode cX8_times 151 = .ok (.goto (-129), 3) := by decide +kernel
theorem dX8_times_154 : decode cX8_times 154 = .ok (.return_, 1) := by decide +kernel
theorem dX8_dividesAt_0 : decode cX8_dividesAt 0 = .ok (.bipush 84, 2) := by decide +kernel
theorem dX8_dividesAt_2 : decode cX8_dividesAt 2 = .ok (.iload_n 1, 1) := by decide +kernel
theorem dX8_dividesAt_3 : decode cX8_dividesAt 3 = .ok (.imul, 1) := by decide +kernel
theorem dX8_dividesAt_4 : decode cX8_dividesAt 4 = .ok (.iload_n 2, 1) := by decide +kernel
theorem dX8_dividesAt_5 : decode cX8_dividesAt 5 = .ok (.iadd, 1) := by decide +kernel
theorem dX8_dividesAt_6 : decode cX8_dividesAt 6 = .ok (.istore 4, 2) := by decide +kernel
theorem dX8_dividesAt_8 : decode cX8_dividesAt 8 = .ok (.sipush 1008, 3) := by decide +kernel
theorem dX8_dividesAt_11 : decode cX8_dividesAt 11 = .ok (.istore 5, 2) := by decide +kernel
theorem dX8_dividesAt_13 : decode cX8_dividesAt 13 = .ok (.aload_n 0, 1) := by decide +kernel
theorem dX8_dividesAt_14 : decode cX8_dividesAt 14 = .ok (.getfield 7, 3) := by decide +kernel
theorem dX8_dividesAt_17 : decode cX8_dividesAt 17 = .ok (.iload 5, 2) := by decide +kernel
theorem dX8_dividesAt_19 : decode cX8_dividesAt 19 = .ok (.iload_n 3, 1) := by decide +kernel
theorem dX8_dividesAt_20 : decode cX8_dividesAt 20 = .ok (.iadd, 1) := by decide +kernel
theorem dX8_dividesAt_21 : decode cX8_dividesAt 21 = .ok (.iconst 1, 1) := by decide +kernel
theorem dX8_dividesAt_22 : decode cX8_dividesAt 22 = .ok (.isub, 1) := by decide +kernel
theorem dX8_dividesAt_23 : decode cX8_dividesAt 23 = .ok (.iaload, 1) := by decide +kernel
theorem dX8_dividesAt_24 : decode cX8_dividesAt 24 = .ok (.i2l, 1) := by decide +kernel
theorem dX8_dividesAt_25 : decode cX8_dividesAt 25 = .ok (.lstore 6, 2) := by decide +kernel
theorem dX8_dividesAt_27 : decode cX8_dividesAt 27 = .ok (.aload_n 0, 1) := by decide +kernel
theorem dX8_dividesAt_28 : decode cX8_dividesAt 28 = .ok (.getfield 7, 3) := by decide +kernel
theorem dX8_dividesAt_31 : decode cX8_dividesAt 31 = .ok (.iload 5, 2) := by decide +kernel
theorem dX8_dividesAt_33 : decode cX8_dividesAt 33 = .ok (.iload_n 3, 1) := by decide +kernel
theorem dX8_dividesAt_34 : decode cX8_dividesAt 34 = .ok (.iadd, 1) := by decide +kernel
theorem dX8_dividesAt_35 : decode cX8_dividesAt 35 = .ok (.iconst 2, 1) := by decide +kernel
theorem dX8_dividesAt_36 : decode cX8_dividesAt 36 = .ok (.isub, 1) := by decide +kernel
theorem dX8_dividesAt_37 : decode cX8_dividesAt 37 = .ok (.iaload, 1) := by decide +kernel
theorem dX8_dividesAt_38 : decode cX8_dividesAt 38 = .ok (.i2l, 1) := by decide +kernel
theorem dX8_dividesAt_39 : decode cX8_dividesAt 39 = .ok (.lstore 8, 2) := by decide +kernel
theorem dX8_dividesAt_41 : decode cX8_dividesAt 41 = .ok (.aload_n 0, 1) := by decide +kernel
theorem dX8_dividesAt_42 : decode cX8_dividesAt 42 = .ok (.getfield 7, 3) := by decide +kernel
theorem dX8_dividesAt_45 : decode cX8_dividesAt 45 = .ok (.iload 4, 2) := by decide +kernel
theorem dX8_dividesAt_47 : decode cX8_dividesAt 47 = .ok (.iload_n 3, 1) := by decide +kernel
theorem dX8_dividesAt_48 : decode cX8_dividesAt 48 = .ok (.iadd, 1) := by decide +kernel
theorem dX8_dividesAt_49 : decode cX8_dividesAt 49 = .ok (.iaload, 1) := by decide +kernel
theorem dX8_dividesAt_50 : decode cX8_dividesAt 50 = .ok (.i2l, 1) := by decide +kernel
theorem dX8_dividesAt_51 : decode cX8_dividesAt 51 = .ok (.bipush 16, 2) := by decide +kernel
theorem dX8_dividesAt_53 : decode cX8_dividesAt 53 = .ok (.lshl, 1) := by decide +kernel
theorem dX8_dividesAt_54 : decode cX8_dividesAt 54 = .ok (.aload_n 0, 1) := by decide +kernel
theorem dX8_dividesAt_55 : decode cX8_dividesAt 55 = .ok (.getfield 7, 3) := by decide +kernel
theorem dX8_dividesAt_58 : decode cX8_dividesAt 58 = .ok (.iload 4, 2) := by decide +kernel
theorem dX8_dividesAt_60 : decode cX8_dividesAt 60 = .ok (.iload_n 3, 1) := by decide +kernel
theorem dX8_dividesAt_61 : decode cX8_dividesAt 61 = .ok (.iadd, 1) := by decide +kernel
theorem dX8_dividesAt_62 : decode cX8_dividesAt 62 = .ok (.iconst 1, 1) := by decide +kernel
theorem dX8_dividesAt_63 : decode cX8_dividesAt 63 = .ok (.isub, 1) := by decide +kernel
theorem dX8_dividesAt_64 : decode cX8_dividesAt 64 = .ok (.iaload, 1) := by decide +kernel
theorem dX8_dividesAt_65 : decode cX8_dividesAt 65 = .ok (.i2l, 1) := by decide +kernel
theorem dX8_dividesAt_66 : decode cX8_dividesAt 66 = .ok (.lor, 1) := by decide +kernel
theorem dX8_dividesAt_67 : decode cX8_dividesAt 67 = .ok (.lstore 10, 2) := by decide +kernel
theorem dX8_dividesAt_69 : decode cX8_dividesAt 69 = .ok (.lload 10, 2) := by decide +kernel
theorem dX8_dividesAt_71 : decode cX8_dividesAt 71 = .ok (.lload 6, 2) := by decide +kernel
theorem dX8_dividesAt_73 : decode cX8_dividesAt 73 = .ok (.ldiv, 1) := by decide +kernel
theorem dX8_dividesAt_74 : decode cX8_dividesAt 74 = .ok (.lstore 12, 2) := by decide +kernel
theorem dX8_dividesAt_76 : decode cX8_dividesAt 76 = .ok (.lload 10, 2) := by decide +kernel
theorem dX8_dividesAt_78 : decode cX8_dividesAt 78 = .ok (.lload 6, 2) := by decide +kernel
theorem dX8_dividesAt_80 : decode cX8_dividesAt 80 = .ok (.lrem, 1) := by decide +kernel
theorem dX8_dividesAt_81 : decode cX8_dividesAt 81 = .ok (.lstore 14, 2) := by decide +kernel
theorem dX8_dividesAt_83 : decode cX8_dividesAt 83 = .ok (.iconst 1, 1) := by decide +kernel
theorem dX8_dividesAt_84 : decode cX8_dividesAt 84 = .ok (.istore 16, 2) := by decide +kernel
theorem dX8_dividesAt_86 : decode cX8_dividesAt 86 = .ok (.iload 16, 2) := by decide +kernel
theorem dX8_dividesAt_88 : decode cX8_dividesAt 88 = .ok (.ifCond .eq 71, 3) := by decide +kernel
theorem dX8_dividesAt_91 : decode cX8_dividesAt 91 = .ok (.lload 12, 2) := by decide +kernel
theorem dX8_dividesAt_93 : decode cX8_dividesAt 93 = .ok (.ldc2_w 125, 3) := by decide +kernel
theorem dX8_dividesAt_96 : decode cX8_dividesAt 96 = .ok (.lcmp, 1) := by decide +kernel
theorem dX8_dividesAt_97 : decode cX8_dividesAt 97 = .ok (.ifCond .gt 30, 3) := by decide +kernel
theorem dX8_dividesAt_100 : decode cX8_dividesAt 100 = .ok (.lload 12, 2) := by decide +kernel
theorem dX8_dividesAt_102 : decode cX8_dividesAt 102 = .ok (.lload 8, 2) := by decide +kernel
theorem dX8_dividesAt_104 : decode cX8_dividesAt 104 = .ok (.lmul, 1) := by decide +kernel
theorem dX8_dividesAt_105 : decode cX8_dividesAt 105 = .ok (.lload 14, 2) := by decide +kernel
theorem dX8_dividesAt_107 : decode cX8_dividesAt 107 = .ok (.bipush 16, 2) := by decide +kernel
theorem dX8_dividesAt_109 : decode cX8_dividesAt 109 = .ok (.lshl, 1) := by decide +kernel
theorem dX8_dividesAt_110 : decode cX8_dividesAt 110 = .ok (.aload_n 0, 1) := by decide +kernel
theorem dX8_dividesAt_111 : decode cX8_dividesAt 111 = .ok (.getfield 7, 3) := by decide +kernel
theorem dX8_dividesAt_114 : decode cX8_dividesAt 114 = .ok (.iload 4, 2) := by decide +kernel
theorem dX8_dividesAt_116 : decode cX8_dividesAt 116 = .ok (.iload_n 3, 1) := by decide +kernel
theorem dX8_dividesAt_117 : decode cX8_dividesAt 117 = .ok (.iadd, 1) := by decide +kernel
theorem dX8_dividesAt_118 : decode cX8_dividesAt 118 = .ok (.iconst 2, 1) := by decide +kernel
theorem dX8_dividesAt_119 : decode cX8_dividesAt 119 = .ok (.isub, 1) := by decide +kernel
theorem dX8_dividesAt_120 : decode cX8_dividesAt 120 = .ok (.iaload, 1) := by decide +kernel
theorem dX8_dividesAt_121 : decode cX8_dividesAt 121 = .ok (.i2l, 1) := by decide +kernel
theorem dX8_dividesAt_122 : decode cX8_dividesAt 122 = .ok (.lor, 1) := by decide +kernel
theorem dX8_dividesAt_123 : decode cX8_dividesAt 123 = .ok (.lcmp, 1) := by decide +kernel
theorem dX8_dividesAt_124 : decode cX8_dividesAt 124 = .ok (.ifCond .le 35, 3) := by decide +kernel
theorem dX8_dividesAt_127 : decode cX8_dividesAt 127 = .ok (.lload 12, 2) := by decide +kernel
theorem dX8_dividesAt_129 : decode cX8_dividesAt 129 = .ok (.lconst 1, 1) := by decide +kernel
theorem dX8_dividesAt_130 : decode cX8_dividesAt 130 = .ok (.lsub, 1) := by decide +kernel
theorem dX8_dividesAt_131 : decode cX8_dividesAt 131 = .ok (.lstore 12, 2) := by decide +kernel
theorem dX8_dividesAt_133 : decode cX8_dividesAt 133 = .ok (.lload 14, 2) := by decide +kernel
theorem dX8_dividesAt_135 : decode cX8_dividesAt 135 = .ok (.lload 6, 2) := by decide +kernel
theorem dX8_dividesAt_137 : decode cX8_dividesAt 137 = .ok (.ladd, 1) := by decide +kernel
theorem dX8_dividesAt_138 : decode cX8_dividesAt 138 = .ok (.lstore 14, 2) := by decide +kernel
theorem dX8_dividesAt_140 : decode cX8_dividesAt 140 = .ok (.lload 14, 2) := by decide +kernel
theorem dX8_dividesAt_142 : decode cX8_dividesAt 142 = .ok (.ldc2_w 125, 3) := by decide +kernel
theorem dX8_dividesAt_145 : decode cX8_dividesAt 145 = .ok (.lcmp, 1) := by decide +kernel
theorem dX8_dividesAt_146 : decode cX8_dividesAt 146 = .ok (.ifCond .gt 7, 3) := by decide +kernel
theorem dX8_dividesAt_149 : decode cX8_dividesAt 149 = .ok (.iconst 1, 1) := by decide +kernel
theorem dX8_dividesAt_150 : decode cX8_dividesAt 150 = .ok (.goto 4, 3) := by decide +kernel
theorem dX8_dividesAt_153 : decode cX8_dividesAt 153 = .ok (.iconst 0, 1) := by decide +kernel
theorem dX8_dividesAt_154 : decode cX8_dividesAt 154 = .ok (.istore 16, 2) := by decide +kernel
theorem dX8_dividesAt_156 : decode cX8_dividesAt 156 = .ok (.goto (-70), 3) := by decide +kernel
theorem dX8_dividesAt_159 : decode cX8_dividesAt 159 = .ok (.lconst 0, 1) := by decide +kernel
theorem dX8_dividesAt_160 : decode cX8_dividesAt 160 = .ok (.lstore 17, 2) := by decide +kernel
theorem dX8_dividesAt_162 : decode cX8_dividesAt 162 = .ok (.lconst 0, 1) := by decide +kernel
theorem dX8_dividesAt_163 : decode cX8_dividesAt 163 = .ok (.lstore 19, 2) := by decide +kernel
theorem dX8_dividesAt_165 : decode cX8_dividesAt 165 = .ok (.iconst 0, 1) := by decide +kernel
theorem dX8_dividesAt_166 : decode cX8_dividesAt 166 = .ok (.istore 21, 2) := by decide +kernel
theorem dX8_dividesAt_168 : decode cX8_dividesAt 168 = .ok (.iload 21, 2) := by decide +kernel
theorem dX8_dividesAt_170 : decode cX8_dividesAt 170 = .ok (.iload_n 3, 1) := by decide +kernel
theorem dX8_dividesAt_171 : decode cX8_dividesAt 171 = .ok (.if_icmp .ge 89, 3) := by decide +kernel
theorem dX8_dividesAt_174 : decode cX8_dividesAt 174 = .ok (.lload 12, 2) := by decide +kernel
theorem dX8_dividesAt_176 : decode cX8_dividesAt 176 = .ok (.aload_n 0, 1) := by decide +kernel
theorem dX8_dividesAt_177 : decode cX8_dividesAt 177 = .ok (.getfield 7, 3) := by decide +kernel
theorem dX8_dividesAt_180 : decode cX8_dividesAt 180 = .ok (.iload 5, 2) := by decide +kernel
theorem dX8_dividesAt_182 : decode cX8_dividesAt 182 = .ok (.iload 21, 2) := by decide +kernel
theorem dX8_dividesAt_184 : decode cX8_dividesAt 184 = .ok (.iadd, 1) := by decide +kernel
theorem dX8_dividesAt_185 : decode cX8_dividesAt 185 = .ok (.iaload, 1) := by decide +kernel
theorem dX8_dividesAt_186 : decode cX8_dividesAt 186 = .ok (.i2l, 1) := by decide +kernel
theorem dX8_dividesAt_187 : decode cX8_dividesAt 187 = .ok (.lmul, 1) := by decide +kernel
theorem dX8_dividesAt_188 : decode cX8_dividesAt 188 = .ok (.lload 17, 2) := by decide +kernel
theorem dX8_dividesAt_190 : decode cX8_dividesAt 190 = .ok (.ladd, 1) := by decide +kernel
theorem dX8_dividesAt_191 : decode cX8_dividesAt 191 = .ok (.lstore 22, 2) := by decide +kernel
theorem dX8_dividesAt_193 : decode cX8_dividesAt 193 = .ok (.lload 22, 2) := by decide +kernel
theorem dX8_dividesAt_195 : decode cX8_dividesAt 195 = .ok (.bipush 16, 2) := by decide +kernel
theorem dX8_dividesAt_197 : decode cX8_dividesAt 197 = .ok (.lshr, 1) := by decide +kernel
theorem dX8_dividesAt_198 : decode cX8_dividesAt 198 = .ok (.lstore 17, 2) := by decide +kernel
theorem dX8_dividesAt_200 : decode cX8_dividesAt 200 = .ok (.aload_n 0, 1) := by decide +kernel
theorem dX8_dividesAt_201 : decode cX8_dividesAt 201 = .ok (.getfield 7, 3) := by decide +kernel
theorem dX8_dividesAt_204 : decode cX8_dividesAt 204 = .ok (.iload 4, 2) := by decide +kernel
theorem dX8_dividesAt_206 : decode cX8_dividesAt 206 = .ok (.iload 21, 2) := by decide +kernel
theorem dX8_dividesAt_208 : decode cX8_dividesAt 208 = .ok (.iadd, 1) := by decide +kernel
theorem dX8_dividesAt_209 : decode cX8_dividesAt 209 = .ok (.iaload, 1) := by decide +kernel
theorem dX8_dividesAt_210 : decode cX8_dividesAt 210 = .ok (.i2l, 1) := by decide +kernel
theorem dX8_dividesAt_211 : decode cX8_dividesAt 211 = .ok (.lload 22, 2) := by decide +kernel
theorem dX8_dividesAt_213 : decode cX8_dividesAt 213 = .ok (.ldc2_w 125, 3) := by decide +kernel
theorem dX8_dividesAt_216 : decode cX8_dividesAt 216 = .ok (.land, 1) := by decide +kernel
theorem dX8_dividesAt_217 : decode cX8_dividesAt 217 = .ok (.lsub, 1) := by decide +kernel
theorem dX8_dividesAt_218 : decode cX8_dividesAt 218 = .ok (.lload 19, 2) := by decide +kernel
theorem dX8_dividesAt_220 : decode cX8_dividesAt 220 = .ok (.lsub, 1) := by decide +kernel
theorem dX8_dividesAt_221 : decode cX8_dividesAt 221 = .ok (.lstore 24, 2) := by decide +kernel
theorem dX8_dividesAt_223 : decode cX8_dividesAt 223 = .ok (.aload_n 0, 1) := by decide +kernel
theorem dX8_dividesAt_224 : decode cX8_dividesAt 224 = .ok (.getfield 7, 3) := by decide +kernel
theorem dX8_dividesAt_227 : decode cX8_dividesAt 227 = .ok (.iload 4, 2) := by decide +kernel
theorem dX8_dividesAt_229 : decode cX8_dividesAt 229 = .ok (.iload 21, 2) := by decide +kernel
theorem dX8_dividesAt_231 : decode cX8_dividesAt 231 = .ok (.iadd, 1) := by decide +kernel
theorem dX8_dividesAt_232 : decode cX8_dividesAt 232 = .ok (.lload 24, 2) := by decide +kernel
theorem dX8_dividesAt_234 : decode cX8_dividesAt 234 = .ok (.ldc2_w 125, 3) := by decide +kernel
theorem dX8_dividesAt_237 : decode cX8_dividesAt 237 = .ok (.land, 1) := by decide +kernel
theorem dX8_dividesAt_238 : decode cX8_dividesAt 238 = .ok (.l2i, 1) := by decide +kernel
theorem dX8_dividesAt_239 : decode cX8_dividesAt 239 = .ok (.iastore, 1) := by decide +kernel
theorem dX8_dividesAt_240 : decode cX8_dividesAt 240 = .ok (.lload 24, 2) := by decide +kernel
theorem dX8_dividesAt_242 : decode cX8_dividesAt 242 = .ok (.lconst 0, 1) := by decide +kernel
theorem dX8_dividesAt_243 : decode cX8_dividesAt 243 = .ok (.lcmp, 1) := by decide +kernel
theorem dX8_dividesAt_244 : decode cX8_dividesAt 244 = .ok (.ifCond .ge 7, 3) := by decide +kernel
theorem dX8_dividesAt_247 : decode cX8_dividesAt 247 = .ok (.lconst 1, 1) := by decide +kernel
theorem dX8_dividesAt_248 : decode cX8_dividesAt 248 = .ok (.goto 4, 3) := by decide +kernel
theorem dX8_dividesAt_251 : decode cX8_dividesAt 251 = .ok (.lconst 0, 1) := by decide +kernel
theorem dX8_dividesAt_252 : decode cX8_dividesAt 252 = .ok (.lstore 19, 2) := by decide +kernel
theorem dX8_dividesAt_254 : decode cX8_dividesAt 254 = .ok (.iinc 21 1, 3) := by decide +kernel
theorem dX8_dividesAt_257 : decode cX8_dividesAt 257 = .ok (.goto (-89), 3) := by decide +kernel
theorem dX8_dividesAt_260 : decode cX8_dividesAt 260 = .ok (.aload_n 0, 1) := by decide +kernel
theorem dX8_dividesAt_261 : decode cX8_dividesAt 261 = .ok (.getfield 7, 3) := by decide +kernel
theorem dX8_dividesAt_264 : decode cX8_dividesAt 264 = .ok (.iload 4, 2) := by decide +kernel
theorem dX8_dividesAt_266 : decode cX8_dividesAt 266 = .ok (.iload_n 3, 1) := by decide +kernel
theorem dX8_dividesAt_267 : decode cX8_dividesAt 267 = .ok (.iadd, 1) := by decide +kernel
theorem dX8_dividesAt_268 : decode cX8_dividesAt 268 = .ok (.iaload, 1) := by decide +kernel
theorem dX8_dividesAt_269 : decode cX8_dividesAt 269 = .ok (.i2l, 1) := by decide +kernel
theorem dX8_dividesAt_270 : decode cX8_dividesAt 270 = .ok (.lload 17, 2) := by decide +kernel
theorem dX8_dividesAt_272 : decode cX8_dividesAt 272 = .ok (.lsub, 1) := by decide +kernel
theorem dX8_dividesAt_273 : decode cX8_dividesAt 273 = .ok (.lload 19, 2) := by decide +kernel
theorem dX8_dividesAt_275 : decode cX8_dividesAt 275 = .ok (.lsub, 1) := by decide +kernel
theorem dX8_dividesAt_276 : decode cX8_dividesAt 276 = .ok (.lstore 21, 2) := by decide +kernel
theorem dX8_dividesAt_278 : decode cX8_dividesAt 278 = .ok (.aload_n 0, 1) := by decide +kernel
theorem dX8_dividesAt_279 : decode cX8_dividesAt 279 = .ok (.getfield 7, 3) := by decide +kernel
theorem dX8_dividesAt_282 : decode cX8_dividesAt 282 = .ok (.iload 4, 2) := by decide +kernel
theorem dX8_dividesAt_284 : decode cX8_dividesAt 284 = .ok (.iload_n 3, 1) := by decide +kernel
theorem dX8_dividesAt_285 : decode cX8_dividesAt 285 = .ok (.iadd, 1) := by decide +kernel
theorem dX8_dividesAt_286 : decode cX8_dividesAt 286 = .ok (.lload 21, 2) := by decide +kernel
theorem dX8_dividesAt_288 : decode cX8_dividesAt 288 = .ok (.ldc2_w 125, 3) := by decide +kernel
theorem dX8_dividesAt_291 : decode cX8_dividesAt 291 = .ok (.land, 1) := by decide +kernel
theorem dX8_dividesAt_292 : decode cX8_dividesAt 292 = .ok (.l2i, 1) := by decide +kernel
theorem dX8_dividesAt_293 : decode cX8_dividesAt 293 = .ok (.iastore, 1) := by decide +kernel
theorem dX8_dividesAt_294 : decode cX8_dividesAt 294 = .ok (.lload 21, 2) := by decide +kernel
theorem dX8_dividesAt_296 : decode cX8_dividesAt 296 = .ok (.lconst 0, 1) := by decide +kernel
theorem dX8_dividesAt_297 : decode cX8_dividesAt 297 = .ok (.lcmp, 1) := by decide +kernel
theorem dX8_dividesAt_298 : decode cX8_dividesAt 298 = .ok (.ifCond .ge 93, 3) := by decide +kernel
theorem dX8_dividesAt_301 : decode cX8_dividesAt 301 = .ok (.iconst 0, 1) := by decide +kernel
theorem dX8_dividesAt_302 : decode cX8_dividesAt 302 = .ok (.istore 23, 2) := by decide +kernel
theorem dX8_dividesAt_304 : decode cX8_dividesAt 304 = .ok (.iconst 0, 1) := by decide +kernel
theorem dX8_dividesAt_305 : decode cX8_dividesAt 305 = .ok (.istore 24, 2) := by decide +kernel
theorem dX8_dividesAt_307 : decode cX8_dividesAt 307 = .ok (.iload 24, 2) := by decide +kernel
theorem dX8_dividesAt_309 : decode cX8_dividesAt 309 = .ok (.iload_n 3, 1) := by decide +kernel
theorem dX8_dividesAt_310 : decode cX8_dividesAt 310 = .ok (.if_icmp .ge 57, 3) := by decide +kernel
theorem dX8_dividesAt_313 : decode cX8_dividesAt 313 = .ok (.aload_n 0, 1) := by decide +kernel
theorem dX8_dividesAt_314 : decode cX8_dividesAt 314 = .ok (.getfield 7, 3) := by decide +kernel
theorem dX8_dividesAt_317 : decode cX8_dividesAt 317 = .ok (.iload 4, 2) := by decide +kernel
theorem dX8_dividesAt_319 : decode cX8_dividesAt 319 = .ok (.iload 24, 2) := by decide +kernel
theorem dX8_dividesAt_321 : decode cX8_dividesAt 321 = .ok (.iadd, 1) := by decide +kernel
theorem dX8_dividesAt_322 : decode cX8_dividesAt 322 = .ok (.iaload, 1) := by decide +kernel
theorem dX8_dividesAt_323 : decode cX8_dividesAt 323 = .ok (.aload_n 0, 1) := by decide +kernel
theorem dX8_dividesAt_324 : decode cX8_dividesAt 324 = .ok (.getfield 7, 3) := by decide +kernel
theorem dX8_dividesAt_327 : decode cX8_dividesAt 327 = .ok (.iload 5, 2) := by decide +kernel
theorem dX8_dividesAt_329 : decode cX8_dividesAt 329 = .ok (.iload 24, 2) := by decide +kernel
theorem dX8_dividesAt_331 : decode cX8_dividesAt 331 = .ok (.iadd, 1) := by decide +kernel
theorem dX8_dividesAt_332 : decode cX8_dividesAt 332 = .ok (.iaload, 1) := by decide +kernel
theorem dX8_dividesAt_333 : decode cX8_dividesAt 333 = .ok (.iadd, 1) := by decide +kernel
theorem dX8_dividesAt_334 : decode cX8_dividesAt 334 = .ok (.iload 23, 2) := by decide +kernel
theorem dX8_dividesAt_336 : decode cX8_dividesAt 336 = .ok (.iadd, 1) := by decide +kernel
theorem dX8_dividesAt_337 : decode cX8_dividesAt 337 = .ok (.istore 25, 2) := by decide +kernel
theorem dX8_dividesAt_339 : decode cX8_dividesAt 339 = .ok (.aload_n 0, 1) := by decide +kernel
theorem dX8_dividesAt_340 : decode cX8_dividesAt 340 = .ok (.getfield 7, 3) := by decide +kernel
theorem dX8_dividesAt_343 : decode cX8_dividesAt 343 = .ok (.iload 4, 2) := by decide +kernel
theorem dX8_dividesAt_345 : decode cX8_dividesAt 345 = .ok (.iload 24, 2) := by decide +kernel
theorem dX8_dividesAt_347 : decode cX8_dividesAt 347 = .ok (.iadd, 1) := by decide +kernel
theorem dX8_dividesAt_348 : decode cX8_dividesAt 348 = .ok (.iload 25, 2) := by decide +kernel
theorem dX8_dividesAt_350 : decode cX8_dividesAt 350 = .ok (.ldc 124, 2) := by decide +kernel
theorem dX8_dividesAt_352 : decode cX8_dividesAt 352 = .ok (.iand, 1) := by decide +kernel
theorem dX8_dividesAt_353 : decode cX8_dividesAt 353 = .ok (.iastore, 1) := by decide +kernel
theorem dX8_dividesAt_354 : decode cX8_dividesAt 354 = .ok (.iload 25, 2) := by decide +kernel
theorem dX8_dividesAt_356 : decode cX8_dividesAt 356 = .ok (.bipush 16, 2) := by decide +kernel
theorem dX8_dividesAt_358 : decode cX8_dividesAt 358 = .ok (.ishr, 1) := by decide +kernel
theorem dX8_dividesAt_359 : decode cX8_dividesAt 359 = .ok (.istore 23, 2) := by decide +kernel
theorem dX8_dividesAt_361 : decode cX8_dividesAt 361 = .ok (.iinc 24 1, 3) := by decide +kernel
theorem dX8_dividesAt_364 : decode cX8_dividesAt 364 = .ok (.goto (-57), 3) := by decide +kernel
theorem dX8_dividesAt_367 : decode cX8_dividesAt 367 = .ok (.aload_n 0, 1) := by decide +kernel
theorem dX8_dividesAt_368 : decode cX8_dividesAt 368 = .ok (.getfield 7, 3) := by decide +kernel
theorem dX8_dividesAt_371 : decode cX8_dividesAt 371 = .ok (.iload 4, 2) := by decide +kernel
theorem dX8_dividesAt_373 : decode cX8_dividesAt 373 = .ok (.iload_n 3, 1) := by decide +kernel
theorem dX8_dividesAt_374 : decode cX8_dividesAt 374 = .ok (.iadd, 1) := by decide +kernel
theorem dX8_dividesAt_375 : decode cX8_dividesAt 375 = .ok (.aload_n 0, 1) := by decide +kernel
theorem dX8_dividesAt_376 : decode cX8_dividesAt 376 = .ok (.getfield 7, 3) := by decide +kernel
theorem dX8_dividesAt_379 : decode cX8_dividesAt 379 = .ok (.iload 4, 2) := by decide +kernel
theorem dX8_dividesAt_381 : decode cX8_dividesAt 381 = .ok (.iload_n 3, 1) := by decide +kernel
theorem dX8_dividesAt_382 : decode cX8_dividesAt 382 = .ok (.iadd, 1) := by decide +kernel
theorem dX8_dividesAt_383 : decode cX8_dividesAt 383 = .ok (.iaload, 1) := by decide +kernel
theorem dX8_dividesAt_384 : decode cX8_dividesAt 384 = .ok (.iload 23, 2) := by decide +kernel
theorem dX8_dividesAt_386 : decode cX8_dividesAt 386 = .ok (.iadd, 1) := by decide +kernel
theorem dX8_dividesAt_387 : decode cX8_dividesAt 387 = .ok (.ldc 124, 2) := by decide +kernel
theorem dX8_dividesAt_389 : decode cX8_dividesAt 389 = .ok (.iand, 1) := by decide +kernel
theorem dX8_dividesAt_390 : decode cX8_dividesAt 390 = .ok (.iastore, 1) := by decide +kernel
theorem dX8_dividesAt_391 : decode cX8_dividesAt 391 = .ok (.return_, 1) := by decide +kernel
theorem dX8_leaves_0 : decode cX8_leaves 0 = .ok (.aload_n 0, 1) := by decide +kernel
theorem dX8_leaves_1 : decode cX8_leaves 1 = .ok (.iload_n 2, 1) := by decide +kernel
theorem dX8_leaves_2 : decode cX8_leaves 2 = .ok (.invokevirtual 120, 3) := by decide +kernel
theorem dX8_leaves_5 : decode cX8_leaves 5 = .ok (.istore_n 3, 1) := by decide +kernel
theorem dX8_leaves_6 : decode cX8_leaves 6 = .ok (.aload_n 0, 1) := by decide +kernel
theorem dX8_leaves_7 : decode cX8_leaves 7 = .ok (.iload_n 1, 1) := by decide +kernel
theorem dX8_leaves_8 : decode cX8_leaves 8 = .ok (.invokevirtual 120, 3) := by decide +kernel
theorem dX8_leaves_11 : decode cX8_leaves 11 = .ok (.istore 4, 2) := by decide +kernel
theorem dX8_leaves_13 : decode cX8_leaves 13 = .ok (.iload 4, 2) := by decide +kernel
theorem dX8_leaves_15 : decode cX8_leaves 15 = .ok (.iload_n 3, 1) := by decide +kernel
theorem dX8_leaves_16 : decode cX8_leaves 16 = .ok (.if_icmp .ge 4, 3) := by decide +kernel
theorem dX8_leaves_19 : decode cX8_leaves 19 = .ok (.return_, 1) := by decide +kernel
theorem dX8_leaves_20 : decode cX8_leaves 20 = .ok (.iconst 0, 1) := by decide +kernel
theorem dX8_leaves_21 : decode cX8_leaves 21 = .ok (.istore 5, 2) := by decide +kernel
theorem dX8_leaves_23 : decode cX8_leaves 23 = .ok (.aload_n 0, 1) := by decide +kernel
theorem dX8_leaves_24 : decode cX8_leaves 24 = .ok (.getfield 7, 3) := by decide +kernel
theorem dX8_leaves_27 : decode cX8_leaves 27 = .ok (.bipush 84, 2) := by decide +kernel
theorem dX8_leaves_29 : decode cX8_leaves 29 = .ok (.iload_n 2, 1) := by decide +kernel
theorem dX8_leaves_30 : decode cX8_leaves 30 = .ok (.imul, 1) := by decide +kernel
theorem dX8_leaves_31 : decode cX8_leaves 31 = .ok (.iload_n 3, 1) := by decide +kernel
theorem dX8_leaves_32 : decode cX8_leaves 32 = .ok (.iadd, 1) := by decide +kernel
theorem dX8_leaves_33 : decode cX8_leaves 33 = .ok (.iconst 1, 1) := by decide +kernel
theorem dX8_leaves_34 : decode cX8_leaves 34 = .ok (.isub, 1) := by decide +kernel
theorem dX8_leaves_35 : decode cX8_leaves 35 = .ok (.iaload, 1) := by decide +kernel
theorem dX8_leaves_36 : decode cX8_leaves 36 = .ok (.iload 5, 2) := by decide +kernel
theorem dX8_leaves_38 : decode cX8_leaves 38 = .ok (.ishl, 1) := by decide +kernel
theorem dX8_leaves_39 : decode cX8_leaves 39 = .ok (.ldc 127, 2) := by decide +kernel
theorem dX8_leaves_41 : decode cX8_leaves 41 = .ok (.iand, 1) := by decide +kernel
theorem dX8_leaves_42 : decode cX8_leaves 42 = .ok (.ifCond .ne 9, 3) := by decide +kernel
theorem dX8_leaves_45 : decode cX8_leaves 45 = .ok (.iinc 5 1, 3) := by decide +kernel
theorem dX8_leaves_48 : decode cX8_leaves 48 = .ok (.goto (-25), 3) := by decide +kernel
theorem dX8_leaves_51 : decode cX8_leaves 51 = .ok (.aload_n 0, 1) := by decide +kernel
