theorem dX4_renew_24 : decode cX4_renew 24 = .ok (.getfield 58, 3) := by decide +kernel
theorem dX4_renew_27 : decode cX4_renew 27 = .ok (.iastore, 1) := by decide +kernel
theorem dX4_renew_28 : decode cX4_renew 28 = .ok (.aload_n 0, 1) := by decide +kernel
theorem dX4_renew_29 : decode cX4_renew 29 = .ok (.getfield 41, 3) := by decide +kernel
theorem dX4_renew_32 : decode cX4_renew 32 = .ok (.iload_n 1, 1) := by decide +kernel
theorem dX4_renew_33 : decode cX4_renew 33 = .ok (.iconst 0, 1) := by decide +kernel
theorem dX4_renew_34 : decode cX4_renew 34 = .ok (.iastore, 1) := by decide +kernel
theorem dX4_renew_35 : decode cX4_renew 35 = .ok (.aload_n 0, 1) := by decide +kernel
theorem dX4_renew_36 : decode cX4_renew 36 = .ok (.getfield 35, 3) := by decide +kernel
theorem dX4_renew_39 : decode cX4_renew 39 = .ok (.iload_n 1, 1) := by decide +kernel
theorem dX4_renew_40 : decode cX4_renew 40 = .ok (.iconst 0, 1) := by decide +kernel
theorem dX4_renew_41 : decode cX4_renew 41 = .ok (.iastore, 1) := by decide +kernel
theorem dX4_renew_42 : decode cX4_renew 42 = .ok (.iconst 0, 1) := by decide +kernel
theorem dX4_renew_43 : decode cX4_renew 43 = .ok (.istore_n 3, 1) := by decide +kernel
theorem dX4_renew_44 : decode cX4_renew 44 = .ok (.iload_n 3, 1) := by decide +kernel
theorem dX4_renew_45 : decode cX4_renew 45 = .ok (.aload_n 0, 1) := by decide +kernel
theorem dX4_renew_46 : decode cX4_renew 46 = .ok (.getfield 35, 3) := by decide +kernel
theorem dX4_renew_49 : decode cX4_renew 49 = .ok (.iload_n 2, 1) := by decide +kernel
theorem dX4_renew_50 : decode cX4_renew 50 = .ok (.iaload, 1) := by decide +kernel
theorem dX4_renew_51 : decode cX4_renew 51 = .ok (.if_icmp .ge 61, 3) := by decide +kernel
theorem dX4_renew_54 : decode cX4_renew 54 = .ok (.aload_n 0, 1) := by decide +kernel
theorem dX4_renew_55 : decode cX4_renew 55 = .ok (.getfield 38, 3) := by decide +kernel
theorem dX4_renew_58 : decode cX4_renew 58 = .ok (.iconst 4, 1) := by decide +kernel
theorem dX4_renew_59 : decode cX4_renew 59 = .ok (.iload_n 2, 1) := by decide +kernel
theorem dX4_renew_60 : decode cX4_renew 60 = .ok (.imul, 1) := by decide +kernel
theorem dX4_renew_61 : decode cX4_renew 61 = .ok (.iload_n 3, 1) := by decide +kernel
theorem dX4_renew_62 : decode cX4_renew 62 = .ok (.iadd, 1) := by decide +kernel
theorem dX4_renew_63 : decode cX4_renew 63 = .ok (.iaload, 1) := by decide +kernel
theorem dX4_renew_64 : decode cX4_renew 64 = .ok (.istore 4, 2) := by decide +kernel
theorem dX4_renew_66 : decode cX4_renew 66 = .ok (.aload_n 0, 1) := by decide +kernel
theorem dX4_renew_67 : decode cX4_renew 67 = .ok (.iload 4, 2) := by decide +kernel
theorem dX4_renew_69 : decode cX4_renew 69 = .ok (.aload_n 0, 1) := by decide +kernel
theorem dX4_renew_70 : decode cX4_renew 70 = .ok (.getfield 58, 3) := by decide +kernel
theorem dX4_renew_73 : decode cX4_renew 73 = .ok (.invokevirtual 92, 3) := by decide +kernel
theorem dX4_renew_76 : decode cX4_renew 76 = .ok (.ifCond .le 30, 3) := by decide +kernel
theorem dX4_renew_79 : decode cX4_renew 79 = .ok (.aload_n 0, 1) := by decide +kernel
theorem dX4_renew_80 : decode cX4_renew 80 = .ok (.getfield 38, 3) := by decide +kernel
theorem dX4_renew_83 : decode cX4_renew 83 = .ok (.iconst 4, 1) := by decide +kernel
theorem dX4_renew_84 : decode cX4_renew 84 = .ok (.iload_n 1, 1) := by decide +kernel
theorem dX4_renew_85 : decode cX4_renew 85 = .ok (.imul, 1) := by decide +kernel
theorem dX4_renew_86 : decode cX4_renew 86 = .ok (.aload_n 0, 1) := by decide +kernel
theorem dX4_renew_87 : decode cX4_renew 87 = .ok (.getfield 35, 3) := by decide +kernel
theorem dX4_renew_90 : decode cX4_renew 90 = .ok (.iload_n 1, 1) := by decide +kernel
theorem dX4_renew_91 : decode cX4_renew 91 = .ok (.iaload, 1) := by decide +kernel
theorem dX4_renew_92 : decode cX4_renew 92 = .ok (.iadd, 1) := by decide +kernel
theorem dX4_renew_93 : decode cX4_renew 93 = .ok (.iload 4, 2) := by decide +kernel
theorem dX4_renew_95 : decode cX4_renew 95 = .ok (.iastore, 1) := by decide +kernel
theorem dX4_renew_96 : decode cX4_renew 96 = .ok (.aload_n 0, 1) := by decide +kernel
theorem dX4_renew_97 : decode cX4_renew 97 = .ok (.getfield 35, 3) := by decide +kernel
theorem dX4_renew_100 : decode cX4_renew 100 = .ok (.iload_n 1, 1) := by decide +kernel
theorem dX4_renew_101 : decode cX4_renew 101 = .ok (.dup2, 1) := by decide +kernel
theorem dX4_renew_102 : decode cX4_renew 102 = .ok (.iaload, 1) := by decide +kernel
theorem dX4_renew_103 : decode cX4_renew 103 = .ok (.iconst 1, 1) := by decide +kernel
theorem dX4_renew_104 : decode cX4_renew 104 = .ok (.iadd, 1) := by decide +kernel
theorem dX4_renew_105 : decode cX4_renew 105 = .ok (.iastore, 1) := by decide +kernel
theorem dX4_renew_106 : decode cX4_renew 106 = .ok (.iinc 3 1, 3) := by decide +kernel
theorem dX4_renew_109 : decode cX4_renew 109 = .ok (.goto (-65), 3) := by decide +kernel
theorem dX4_renew_112 : decode cX4_renew 112 = .ok (.aload_n 0, 1) := by decide +kernel
theorem dX4_renew_113 : decode cX4_renew 113 = .ok (.getfield 23, 3) := by decide +kernel
theorem dX4_renew_116 : decode cX4_renew 116 = .ok (.aload_n 0, 1) := by decide +kernel
theorem dX4_renew_117 : decode cX4_renew 117 = .ok (.getfield 82, 3) := by decide +kernel
theorem dX4_renew_120 : decode cX4_renew 120 = .ok (.iconst 0, 1) := by decide +kernel
theorem dX4_renew_121 : decode cX4_renew 121 = .ok (.iastore, 1) := by decide +kernel
theorem dX4_renew_122 : decode cX4_renew 122 = .ok (.iconst 0, 1) := by decide +kernel
theorem dX4_renew_123 : decode cX4_renew 123 = .ok (.istore_n 3, 1) := by decide +kernel
theorem dX4_renew_124 : decode cX4_renew 124 = .ok (.iload_n 3, 1) := by decide +kernel
theorem dX4_renew_125 : decode cX4_renew 125 = .ok (.bipush 16, 2) := by decide +kernel
theorem dX4_renew_127 : decode cX4_renew 127 = .ok (.if_icmp .ge 68, 3) := by decide +kernel
theorem dX4_renew_130 : decode cX4_renew 130 = .ok (.aload_n 0, 1) := by decide +kernel
theorem dX4_renew_131 : decode cX4_renew 131 = .ok (.iload_n 3, 1) := by decide +kernel
theorem dX4_renew_132 : decode cX4_renew 132 = .ok (.aload_n 0, 1) := by decide +kernel
theorem dX4_renew_133 : decode cX4_renew 133 = .ok (.getfield 58, 3) := by decide +kernel
theorem dX4_renew_136 : decode cX4_renew 136 = .ok (.invokevirtual 61, 3) := by decide +kernel
theorem dX4_renew_139 : decode cX4_renew 139 = .ok (.istore 4, 2) := by decide +kernel
theorem dX4_renew_141 : decode cX4_renew 141 = .ok (.iload 4, 2) := by decide +kernel
theorem dX4_renew_143 : decode cX4_renew 143 = .ok (.aload_n 0, 1) := by decide +kernel
theorem dX4_renew_144 : decode cX4_renew 144 = .ok (.getfield 32, 3) := by decide +kernel
theorem dX4_renew_147 : decode cX4_renew 147 = .ok (.iload_n 2, 1) := by decide +kernel
theorem dX4_renew_148 : decode cX4_renew 148 = .ok (.iaload, 1) := by decide +kernel
theorem dX4_renew_149 : decode cX4_renew 149 = .ok (.if_icmp .le 40, 3) := by decide +kernel
theorem dX4_renew_152 : decode cX4_renew 152 = .ok (.aload_n 0, 1) := by decide +kernel
theorem dX4_renew_153 : decode cX4_renew 153 = .ok (.getfield 26, 3) := by decide +kernel
theorem dX4_renew_156 : decode cX4_renew 156 = .ok (.bipush 16, 2) := by decide +kernel
theorem dX4_renew_158 : decode cX4_renew 158 = .ok (.aload_n 0, 1) := by decide +kernel
theorem dX4_renew_159 : decode cX4_renew 159 = .ok (.getfield 82, 3) := by decide +kernel
theorem dX4_renew_162 : decode cX4_renew 162 = .ok (.imul, 1) := by decide +kernel
theorem dX4_renew_163 : decode cX4_renew 163 = .ok (.aload_n 0, 1) := by decide +kernel
theorem dX4_renew_164 : decode cX4_renew 164 = .ok (.getfield 23, 3) := by decide +kernel
theorem dX4_renew_167 : decode cX4_renew 167 = .ok (.aload_n 0, 1) := by decide +kernel
theorem dX4_renew_168 : decode cX4_renew 168 = .ok (.getfield 82, 3) := by decide +kernel
theorem dX4_renew_171 : decode cX4_renew 171 = .ok (.iaload, 1) := by decide +kernel
theorem dX4_renew_172 : decode cX4_renew 172 = .ok (.iadd, 1) := by decide +kernel
theorem dX4_renew_173 : decode cX4_renew 173 = .ok (.iload 4, 2) := by decide +kernel
theorem dX4_renew_175 : decode cX4_renew 175 = .ok (.iastore, 1) := by decide +kernel
theorem dX4_renew_176 : decode cX4_renew 176 = .ok (.aload_n 0, 1) := by decide +kernel
theorem dX4_renew_177 : decode cX4_renew 177 = .ok (.getfield 23, 3) := by decide +kernel
theorem dX4_renew_180 : decode cX4_renew 180 = .ok (.aload_n 0, 1) := by decide +kernel
theorem dX4_renew_181 : decode cX4_renew 181 = .ok (.getfield 82, 3) := by decide +kernel
theorem dX4_renew_184 : decode cX4_renew 184 = .ok (.dup2, 1) := by decide +kernel
theorem dX4_renew_185 : decode cX4_renew 185 = .ok (.iaload, 1) := by decide +kernel
theorem dX4_renew_186 : decode cX4_renew 186 = .ok (.iconst 1, 1) := by decide +kernel
theorem dX4_renew_187 : decode cX4_renew 187 = .ok (.iadd, 1) := by decide +kernel
theorem dX4_renew_188 : decode cX4_renew 188 = .ok (.iastore, 1) := by decide +kernel
theorem dX4_renew_189 : decode cX4_renew 189 = .ok (.iinc 3 1, 3) := by decide +kernel
theorem dX4_renew_192 : decode cX4_renew 192 = .ok (.goto (-68), 3) := by decide +kernel
theorem dX4_renew_195 : decode cX4_renew 195 = .ok (.aload_n 0, 1) := by decide +kernel
theorem dX4_renew_196 : decode cX4_renew 196 = .ok (.getfield 23, 3) := by decide +kernel
theorem dX4_renew_199 : decode cX4_renew 199 = .ok (.aload_n 0, 1) := by decide +kernel
theorem dX4_renew_200 : decode cX4_renew 200 = .ok (.getfield 82, 3) := by decide +kernel
theorem dX4_renew_203 : decode cX4_renew 203 = .ok (.iaload, 1) := by decide +kernel
theorem dX4_renew_204 : decode cX4_renew 204 = .ok (.ifCond .le 60, 3) := by decide +kernel
theorem dX4_renew_207 : decode cX4_renew 207 = .ok (.aload_n 0, 1) := by decide +kernel
theorem dX4_renew_208 : decode cX4_renew 208 = .ok (.dup, 1) := by decide +kernel
theorem dX4_renew_209 : decode cX4_renew 209 = .ok (.getfield 85, 3) := by decide +kernel
theorem dX4_renew_212 : decode cX4_renew 212 = .ok (.aload_n 0, 1) := by decide +kernel
theorem dX4_renew_213 : decode cX4_renew 213 = .ok (.getfield 23, 3) := by decide +kernel
theorem dX4_renew_216 : decode cX4_renew 216 = .ok (.aload_n 0, 1) := by decide +kernel
theorem dX4_renew_217 : decode cX4_renew 217 = .ok (.getfield 82, 3) := by decide +kernel
theorem dX4_renew_220 : decode cX4_renew 220 = .ok (.iaload, 1) := by decide +kernel
theorem dX4_renew_221 : decode cX4_renew 221 = .ok (.iadd, 1) := by decide +kernel
theorem dX4_renew_222 : decode cX4_renew 222 = .ok (.putfield 85, 3) := by decide +kernel
theorem dX4_renew_225 : decode cX4_renew 225 = .ok (.aload_n 0, 1) := by decide +kernel
theorem dX4_renew_226 : decode cX4_renew 226 = .ok (.getfield 38, 3) := by decide +kernel
theorem dX4_renew_229 : decode cX4_renew 229 = .ok (.iconst 4, 1) := by decide +kernel
theorem dX4_renew_230 : decode cX4_renew 230 = .ok (.iload_n 1, 1) := by decide +kernel
theorem dX4_renew_231 : decode cX4_renew 231 = .ok (.imul, 1) := by decide +kernel
theorem dX4_renew_232 : decode cX4_renew 232 = .ok (.aload_n 0, 1) := by decide +kernel
theorem dX4_renew_233 : decode cX4_renew 233 = .ok (.getfield 35, 3) := by decide +kernel
theorem dX4_renew_236 : decode cX4_renew 236 = .ok (.iload_n 1, 1) := by decide +kernel
theorem dX4_renew_237 : decode cX4_renew 237 = .ok (.iaload, 1) := by decide +kernel
theorem dX4_renew_238 : decode cX4_renew 238 = .ok (.iadd, 1) := by decide +kernel
theorem dX4_renew_239 : decode cX4_renew 239 = .ok (.aload_n 0, 1) := by decide +kernel
theorem dX4_renew_240 : decode cX4_renew 240 = .ok (.getfield 82, 3) := by decide +kernel
theorem dX4_renew_243 : decode cX4_renew 243 = .ok (.iastore, 1) := by decide +kernel
theorem dX4_renew_244 : decode cX4_renew 244 = .ok (.aload_n 0, 1) := by decide +kernel
theorem dX4_renew_245 : decode cX4_renew 245 = .ok (.getfield 35, 3) := by decide +kernel
theorem dX4_renew_248 : decode cX4_renew 248 = .ok (.iload_n 1, 1) := by decide +kernel
theorem dX4_renew_249 : decode cX4_renew 249 = .ok (.dup2, 1) := by decide +kernel
theorem dX4_renew_250 : decode cX4_renew 250 = .ok (.iaload, 1) := by decide +kernel
theorem dX4_renew_251 : decode cX4_renew 251 = .ok (.iconst 1, 1) := by decide +kernel
theorem dX4_renew_252 : decode cX4_renew 252 = .ok (.iadd, 1) := by decide +kernel
theorem dX4_renew_253 : decode cX4_renew 253 = .ok (.iastore, 1) := by decide +kernel
theorem dX4_renew_254 : decode cX4_renew 254 = .ok (.aload_n 0, 1) := by decide +kernel
theorem dX4_renew_255 : decode cX4_renew 255 = .ok (.dup, 1) := by decide +kernel
theorem dX4_renew_256 : decode cX4_renew 256 = .ok (.getfield 82, 3) := by decide +kernel
theorem dX4_renew_259 : decode cX4_renew 259 = .ok (.iconst 1, 1) := by decide +kernel
theorem dX4_renew_260 : decode cX4_renew 260 = .ok (.iadd, 1) := by decide +kernel
theorem dX4_renew_261 : decode cX4_renew 261 = .ok (.putfield 82, 3) := by decide +kernel
theorem dX4_renew_264 : decode cX4_renew 264 = .ok (.aload_n 0, 1) := by decide +kernel
theorem dX4_renew_265 : decode cX4_renew 265 = .ok (.getfield 35, 3) := by decide +kernel
theorem dX4_renew_268 : decode cX4_renew 268 = .ok (.iload_n 1, 1) := by decide +kernel
theorem dX4_renew_269 : decode cX4_renew 269 = .ok (.iaload, 1) := by decide +kernel
theorem dX4_renew_270 : decode cX4_renew 270 = .ok (.iconst 3, 1) := by decide +kernel
theorem dX4_renew_271 : decode cX4_renew 271 = .ok (.if_icmp .le 190, 3) := by decide +kernel
theorem dX4_renew_274 : decode cX4_renew 274 = .ok (.iconst 0, 1) := by decide +kernel
theorem dX4_renew_275 : decode cX4_renew 275 = .ok (.istore_n 3, 1) := by decide +kernel
theorem dX4_renew_276 : decode cX4_renew 276 = .ok (.sipush 1000, 3) := by decide +kernel
theorem dX4_renew_279 : decode cX4_renew 279 = .ok (.istore 4, 2) := by decide +kernel
theorem dX4_renew_281 : decode cX4_renew 281 = .ok (.iconst 0, 1) := by decide +kernel
theorem dX4_renew_282 : decode cX4_renew 282 = .ok (.istore 5, 2) := by decide +kernel
theorem dX4_renew_284 : decode cX4_renew 284 = .ok (.iload 5, 2) := by decide +kernel
theorem dX4_renew_286 : decode cX4_renew 286 = .ok (.iconst 1, 1) := by decide +kernel
theorem dX4_renew_287 : decode cX4_renew 287 = .ok (.iadd, 1) := by decide +kernel
theorem dX4_renew_288 : decode cX4_renew 288 = .ok (.aload_n 0, 1) := by decide +kernel
theorem dX4_renew_289 : decode cX4_renew 289 = .ok (.getfield 35, 3) := by decide +kernel
theorem dX4_renew_292 : decode cX4_renew 292 = .ok (.iload_n 1, 1) := by decide +kernel
theorem dX4_renew_293 : decode cX4_renew 293 = .ok (.iaload, 1) := by decide +kernel
theorem dX4_renew_294 : decode cX4_renew 294 = .ok (.if_icmp .ge 66, 3) := by decide +kernel
theorem dX4_renew_297 : decode cX4_renew 297 = .ok (.aload_n 0, 1) := by decide +kernel
theorem dX4_renew_298 : decode cX4_renew 298 = .ok (.aload_n 0, 1) := by decide +kernel
theorem dX4_renew_299 : decode cX4_renew 299 = .ok (.getfield 38, 3) := by decide +kernel
theorem dX4_renew_302 : decode cX4_renew 302 = .ok (.iconst 4, 1) := by decide +kernel
theorem dX4_renew_303 : decode cX4_renew 303 = .ok (.iload_n 1, 1) := by decide +kernel
theorem dX4_renew_304 : decode cX4_renew 304 = .ok (.imul, 1) := by decide +kernel
theorem dX4_renew_305 : decode cX4_renew 305 = .ok (.iload 5, 2) := by decide +kernel
theorem dX4_renew_307 : decode cX4_renew 307 = .ok (.iadd, 1) := by decide +kernel
theorem dX4_renew_308 : decode cX4_renew 308 = .ok (.iaload, 1) := by decide +kernel
theorem dX4_renew_309 : decode cX4_renew 309 = .ok (.aload_n 0, 1) := by decide +kernel
theorem dX4_renew_310 : decode cX4_renew 310 = .ok (.getfield 58, 3) := by decide +kernel
theorem dX4_renew_313 : decode cX4_renew 313 = .ok (.invokevirtual 92, 3) := by decide +kernel
theorem dX4_renew_316 : decode cX4_renew 316 = .ok (.aload_n 0, 1) := by decide +kernel
theorem dX4_renew_317 : decode cX4_renew 317 = .ok (.aload_n 0, 1) := by decide +kernel
theorem dX4_renew_318 : decode cX4_renew 318 = .ok (.getfield 38, 3) := by decide +kernel
theorem dX4_renew_321 : decode cX4_renew 321 = .ok (.iconst 4, 1) := by decide +kernel
theorem dX4_renew_322 : decode cX4_renew 322 = .ok (.iload_n 1, 1) := by decide +kernel
theorem dX4_renew_323 : decode cX4_renew 323 = .ok (.imul, 1) := by decide +kernel
theorem dX4_renew_324 : decode cX4_renew 324 = .ok (.iload 5, 2) := by decide +kernel
theorem dX4_renew_326 : decode cX4_renew 326 = .ok (.iadd, 1) := by decide +kernel
theorem dX4_renew_327 : decode cX4_renew 327 = .ok (.iconst 1, 1) := by decide +kernel
theorem dX4_renew_328 : decode cX4_renew 328 = .ok (.iadd, 1) := by decide +kernel
theorem dX4_renew_329 : decode cX4_renew 329 = .ok (.iaload, 1) := by decide +kernel
theorem dX4_renew_330 : decode cX4_renew 330 = .ok (.aload_n 0, 1) := by decide +kernel
theorem dX4_renew_331 : decode cX4_renew 331 = .ok (.getfield 58, 3) := by decide +kernel
theorem dX4_renew_334 : decode cX4_renew 334 = .ok (.invokevirtual 92, 3) := by decide +kernel
theorem dX4_renew_337 : decode cX4_renew 337 = .ok (.iadd, 1) := by decide +kernel
theorem dX4_renew_338 : decode cX4_renew 338 = .ok (.istore 6, 2) := by decide +kernel
theorem dX4_renew_340 : decode cX4_renew 340 = .ok (.iload 6, 2) := by decide +kernel
theorem dX4_renew_342 : decode cX4_renew 342 = .ok (.iload 4, 2) := by decide +kernel
theorem dX4_renew_344 : decode cX4_renew 344 = .ok (.if_icmp .ge 10, 3) := by decide +kernel
theorem dX4_renew_347 : decode cX4_renew 347 = .ok (.iload 6, 2) := by decide +kernel
theorem dX4_renew_349 : decode cX4_renew 349 = .ok (.istore 4, 2) := by decide +kernel
theorem dX4_renew_351 : decode cX4_renew 351 = .ok (.iload 5, 2) := by decide +kernel
theorem dX4_renew_353 : decode cX4_renew 353 = .ok (.istore_n 3, 1) := by decide +kernel
theorem dX4_renew_354 : decode cX4_renew 354 = .ok (.iinc 5 1, 3) := by decide +kernel
theorem dX4_renew_357 : decode cX4_renew 357 = .ok (.goto (-73), 3) := by decide +kernel
theorem dX4_renew_360 : decode cX4_renew 360 = .ok (.aload_n 0, 1) := by decide +kernel
theorem dX4_renew_361 : decode cX4_renew 361 = .ok (.getfield 38, 3) := by decide +kernel
theorem dX4_renew_364 : decode cX4_renew 364 = .ok (.iconst 4, 1) := by decide +kernel
theorem dX4_renew_365 : decode cX4_renew 365 = .ok (.iload_n 1, 1) := by decide +kernel
theorem dX4_renew_366 : decode cX4_renew 366 = .ok (.imul, 1) := by decide +kernel
theorem dX4_renew_367 : decode cX4_renew 367 = .ok (.iload_n 3, 1) := by decide +kernel
theorem dX4_renew_368 : decode cX4_renew 368 = .ok (.iadd, 1) := by decide +kernel
theorem dX4_renew_369 : decode cX4_renew 369 = .ok (.aload_n 0, 1) := by decide +kernel
theorem dX4_renew_370 : decode cX4_renew 370 = .ok (.aload_n 0, 1) := by decide +kernel
theorem dX4_renew_371 : decode cX4_renew 371 = .ok (.getfield 38, 3) := by decide +kernel
theorem dX4_renew_374 : decode cX4_renew 374 = .ok (.iconst 4, 1) := by decide +kernel
theorem dX4_renew_375 : decode cX4_renew 375 = .ok (.iload_n 1, 1) := by decide +kernel
theorem dX4_renew_376 : decode cX4_renew 376 = .ok (.imul, 1) := by decide +kernel
theorem dX4_renew_377 : decode cX4_renew 377 = .ok (.iload_n 3, 1) := by decide +kernel
theorem dX4_renew_378 : decode cX4_renew 378 = .ok (.iadd, 1) := by decide +kernel
theorem dX4_renew_379 : decode cX4_renew 379 = .ok (.iaload, 1) := by decide +kernel
theorem dX4_renew_380 : decode cX4_renew 380 = .ok (.aload_n 0, 1) := by decide +kernel
theorem dX4_renew_381 : decode cX4_renew 381 = .ok (.getfield 38, 3) := by decide +kernel
theorem dX4_renew_384 : decode cX4_renew 384 = .ok (.iconst 4, 1) := by decide +kernel
theorem dX4_renew_385 : decode cX4_renew 385 = .ok (.iload_n 1, 1) := by decide +kernel
theorem dX4_renew_386 : decode cX4_renew 386 = .ok (.imul, 1) := by decide +kernel
theorem dX4_renew_387 : decode cX4_renew 387 = .ok (.iload_n 3, 1) := by decide +kernel
theorem dX4_renew_388 : decode cX4_renew 388 = .ok (.iadd, 1) := by decide +kernel
theorem dX4_renew_389 : decode cX4_renew 389 = .ok (.iconst 1, 1) := by decide +kernel
theorem dX4_renew_390 : decode cX4_renew 390 = .ok (.iadd, 1) := by decide +kernel
theorem dX4_renew_391 : decode cX4_renew 391 = .ok (.iaload, 1) := by decide +kernel
theorem dX4_renew_392 : decode cX4_renew 392 = .ok (.aload_n 0, 1) := by decide +kernel
theorem dX4_renew_393 : decode cX4_renew 393 = .ok (.getfield 58, 3) := by decide +kernel
theorem dX4_renew_396 : decode cX4_renew 396 = .ok (.invokevirtual 95, 3) := by decide +kernel
theorem dX4_renew_399 : decode cX4_renew 399 = .ok (.iastore, 1) := by decide +kernel
theorem dX4_renew_400 : decode cX4_renew 400 = .ok (.iload_n 3, 1) := by decide +kernel
theorem dX4_renew_401 : decode cX4_renew 401 = .ok (.iconst 1, 1) := by decide +kernel
theorem dX4_renew_402 : decode cX4_renew 402 = .ok (.iadd, 1) := by decide +kernel
theorem dX4_renew_403 : decode cX4_renew 403 = .ok (.istore 5, 2) := by decide +kernel
theorem dX4_renew_405 : decode cX4_renew 405 = .ok (.iload 5, 2) := by decide +kernel
theorem dX4_renew_407 : decode cX4_renew 407 = .ok (.iconst 1, 1) := by decide +kernel
theorem dX4_renew_408 : decode cX4_renew 408 = .ok (.iadd, 1) := by decide +kernel
theorem dX4_renew_409 : decode cX4_renew 409 = .ok (.aload_n 0, 1) := by decide +kernel
theorem dX4_renew_410 : decode cX4_renew 410 = .ok (.getfield 35, 3) := by decide +kernel
theorem dX4_renew_413 : decode cX4_renew 413 = .ok (.iload_n 1, 1) := by decide +kernel
theorem dX4_renew_414 : decode cX4_renew 414 = .ok (.iaload, 1) := by decide +kernel
theorem dX4_renew_415 : decode cX4_renew 415 = .ok (.if_icmp .ge 33, 3) := by decide +kernel
theorem dX4_renew_418 : decode cX4_renew 418 = .ok (.aload_n 0, 1) := by decide +kernel
theorem dX4_renew_419 : decode cX4_renew 419 = .ok (.getfield 38, 3) := by decide +kernel
theorem dX4_renew_422 : decode cX4_renew 422 = .ok (.iconst 4, 1) := by decide +kernel
theorem dX4_renew_423 : decode cX4_renew 423 = .ok (.iload_n 1, 1) := by decide +kernel
theorem dX4_renew_424 : decode cX4_renew 424 = .ok (.imul, 1) := by decide +kernel
theorem dX4_renew_425 : decode cX4_renew 425 = .ok (.iload 5, 2) := by decide +kernel
theorem dX4_renew_427 : decode cX4_renew 427 = .ok (.iadd, 1) := by decide +kernel
theorem dX4_renew_428 : decode cX4_renew 428 = .ok (.aload_n 0, 1) := by decide +kernel
theorem dX4_renew_429 : decode cX4_renew 429 = .ok (.getfield 38, 3) := by decide +kernel
theorem dX4_renew_432 : decode cX4_renew 432 = .ok (.iconst 4, 1) := by decide +kernel
theorem dX4_renew_433 : decode cX4_renew 433 = .ok (.iload_n 1, 1) := by decide +kernel
theorem dX4_renew_434 : decode cX4_renew 434 = .ok (.imul, 1) := by decide +kernel
theorem dX4_renew_435 : decode cX4_renew 435 = .ok (.iload 5, 2) := by decide +kernel
theorem dX4_renew_437 : decode cX4_renew 437 = .ok (.iadd, 1) := by decide +kernel
theorem dX4_renew_438 : decode cX4_renew 438 = .ok (.iconst 1, 1) := by decide +kernel
theorem dX4_renew_439 : decode cX4_renew 439 = .ok (.iadd, 1) := by decide +kernel
theorem dX4_renew_440 : decode cX4_renew 440 = .ok (.iaload, 1) := by decide +kernel
theorem dX4_renew_441 : decode cX4_renew 441 = .ok (.iastore, 1) := by decide +kernel
theorem dX4_renew_442 : decode cX4_renew 442 = .ok (.iinc 5 1, 3) := by decide +kernel
theorem dX4_renew_445 : decode cX4_renew 445 = .ok (.goto (-40), 3) := by decide +kernel
theorem dX4_renew_448 : decode cX4_renew 448 = .ok (.aload_n 0, 1) := by decide +kernel
theorem dX4_renew_449 : decode cX4_renew 449 = .ok (.getfield 35, 3) := by decide +kernel
theorem dX4_renew_452 : decode cX4_renew 452 = .ok (.iload_n 1, 1) := by decide +kernel
theorem dX4_renew_453 : decode cX4_renew 453 = .ok (.dup2, 1) := by decide +kernel
theorem dX4_renew_454 : decode cX4_renew 454 = .ok (.iaload, 1) := by decide +kernel
theorem dX4_renew_455 : decode cX4_renew 455 = .ok (.iconst 1, 1) := by decide +kernel
theorem dX4_renew_456 : decode cX4_renew 456 = .ok (.isub, 1) := by decide +kernel
theorem dX4_renew_457 : decode cX4_renew 457 = .ok (.iastore, 1) := by decide +kernel
theorem dX4_renew_458 : decode cX4_renew 458 = .ok (.goto (-194), 3) := by decide +kernel
theorem dX4_renew_461 : decode cX4_renew 461 = .ok (.aload_n 0, 1) := by decide +kernel
theorem dX4_renew_462 : decode cX4_renew 462 = .ok (.dup, 1) := by decide +kernel
theorem dX4_renew_463 : decode cX4_renew 463 = .ok (.getfield 29, 3) := by decide +kernel
theorem dX4_renew_466 : decode cX4_renew 466 = .ok (.iconst 1, 1) := by decide +kernel
theorem dX4_renew_467 : decode cX4_renew 467 = .ok (.iadd, 1) := by decide +kernel
theorem dX4_renew_468 : decode cX4_renew 468 = .ok (.putfield 29, 3) := by decide +kernel
theorem dX4_renew_471 : decode cX4_renew 471 = .ok (.aload_n 0, 1) := by decide +kernel
theorem dX4_renew_472 : decode cX4_renew 472 = .ok (.iload_n 1, 1) := by decide +kernel
theorem dX4_renew_473 : decode cX4_renew 473 = .ok (.putfield 48, 3) := by decide +kernel
theorem dX4_renew_476 : decode cX4_renew 476 = .ok (.return_, 1) := by decide +kernel
theorem dX4_refresh_0 : decode cX4_refresh 0 = .ok (.aload_n 0, 1) := by decide +kernel
theorem dX4_refresh_1 : decode cX4_refresh 1 = .ok (.invokevirtual 88, 3) := by decide +kernel
theorem dX4_refresh_4 : decode cX4_refresh 4 = .ok (.ifCond .eq 16, 3) := by decide +kernel
theorem dX4_refresh_7 : decode cX4_refresh 7 = .ok (.aload_n 0, 1) := by decide +kernel
theorem dX4_refresh_8 : decode cX4_refresh 8 = .ok (.getfield 29, 3) := by decide +kernel
theorem dX4_refresh_11 : decode cX4_refresh 11 = .ok (.sipush 150, 3) := by decide +kernel
theorem dX4_refresh_14 : decode cX4_refresh 14 = .ok (.if_icmp .ne 6, 3) := by decide +kernel
theorem dX4_refresh_17 : decode cX4_refresh 17 = .ok (.bipush (-5), 2) := by decide +kernel
theorem dX4_refresh_19 : decode cX4_refresh 19 = .ok (.ireturn, 1) := by decide +kernel
theorem dX4_refresh_20 : decode cX4_refresh 20 = .ok (.aload_n 0, 1) := by decide +kernel
theorem dX4_refresh_21 : decode cX4_refresh 21 = .ok (.invokevirtual 98, 3) := by decide +kernel
theorem dX4_refresh_24 : decode cX4_refresh 24 = .ok (.aload_n 0, 1) := by decide +kernel
theorem dX4_refresh_25 : decode cX4_refresh 25 = .ok (.getfield 48, 3) := by decide +kernel
theorem dX4_refresh_28 : decode cX4_refresh 28 = .ok (.ireturn, 1) := by decide +kernel
theorem dX4_commit_0 : decode cX4_commit 0 = .ok (.aload_n 0, 1) := by decide +kernel
theorem dX4_commit_1 : decode cX4_commit 1 = .ok (.invokevirtual 88, 3) := by decide +kernel
theorem dX4_commit_4 : decode cX4_commit 4 = .ok (.ifCond .eq 16, 3) := by decide +kernel
theorem dX4_commit_7 : decode cX4_commit 7 = .ok (.aload_n 0, 1) := by decide +kernel
theorem dX4_commit_8 : decode cX4_commit 8 = .ok (.getfield 29, 3) := by decide +kernel
theorem dX4_commit_11 : decode cX4_commit 11 = .ok (.sipush 150, 3) := by decide +kernel
theorem dX4_commit_14 : decode cX4_commit 14 = .ok (.if_icmp .ne 6, 3) := by decide +kernel
theorem dX4_commit_17 : decode cX4_commit 17 = .ok (.bipush (-5), 2) := by decide +kernel
theorem dX4_commit_19 : decode cX4_commit 19 = .ok (.ireturn, 1) := by decide +kernel
theorem dX4_commit_20 : decode cX4_commit 20 = .ok (.aload_n 0, 1) := by decide +kernel
theorem dX4_commit_21 : decode cX4_commit 21 = .ok (.invokevirtual 98, 3) := by decide +kernel
theorem dX4_commit_24 : decode cX4_commit 24 = .ok (.aload_n 0, 1) := by decide +kernel
theorem dX4_commit_25 : decode cX4_commit 25 = .ok (.aload_n 0, 1) := by decide +kernel
theorem dX4_commit_26 : decode cX4_commit 26 = .ok (.getfield 48, 3) := by decide +kernel
theorem dX4_commit_29 : decode cX4_commit 29 = .ok (.putfield 51, 3) := by decide +kernel
theorem dX4_commit_32 : decode cX4_commit 32 = .ok (.aload_n 0, 1) := by decide +kernel
theorem dX4_commit_33 : decode cX4_commit 33 = .ok (.aload_n 0, 1) := by decide +kernel
theorem dX4_commit_34 : decode cX4_commit 34 = .ok (.getfield 58, 3) := by decide +kernel
theorem dX4_commit_37 : decode cX4_commit 37 = .ok (.putfield 101, 3) := by decide +kernel
theorem dX4_commit_40 : decode cX4_commit 40 = .ok (.aload_n 0, 1) := by decide +kernel
theorem dX4_commit_41 : decode cX4_commit 41 = .ok (.getfield 48, 3) := by decide +kernel
theorem dX4_commit_44 : decode cX4_commit 44 = .ok (.ireturn, 1) := by decide +kernel
theorem dX4_sync_0 : decode cX4_sync 0 = .ok (.aload_n 0, 1) := by decide +kernel
theorem dX4_sync_1 : decode cX4_sync 1 = .ok (.getfield 58, 3) := by decide +kernel
theorem dX4_sync_4 : decode cX4_sync 4 = .ok (.aload_n 0, 1) := by decide +kernel
theorem dX4_sync_5 : decode cX4_sync 5 = .ok (.getfield 101, 3) := by decide +kernel
theorem dX4_sync_8 : decode cX4_sync 8 = .ok (.isub, 1) := by decide +kernel
theorem dX4_sync_9 : decode cX4_sync 9 = .ok (.istore_n 1, 1) := by decide +kernel
theorem dX4_sync_10 : decode cX4_sync 10 = .ok (.aload_n 0, 1) := by decide +kernel
theorem dX4_sync_11 : decode cX4_sync 11 = .ok (.aload_n 0, 1) := by decide +kernel
theorem dX4_sync_12 : decode cX4_sync 12 = .ok (.getfield 58, 3) := by decide +kernel
theorem dX4_sync_15 : decode cX4_sync 15 = .ok (.putfield 101, 3) := by decide +kernel
theorem dX4_sync_18 : decode cX4_sync 18 = .ok (.iload_n 1, 1) := by decide +kernel
theorem dX4_sync_19 : decode cX4_sync 19 = .ok (.ireturn, 1) := by decide +kernel
theorem dX4_crash_0 : decode cX4_crash 0 = .ok (.aload_n 0, 1) := by decide +kernel
theorem dX4_crash_1 : decode cX4_crash 1 = .ok (.getfield 32, 3) := by decide +kernel
theorem dX4_crash_4 : decode cX4_crash 4 = .ok (.aload_n 0, 1) := by decide +kernel
theorem dX4_crash_5 : decode cX4_crash 5 = .ok (.getfield 51, 3) := by decide +kernel
theorem dX4_crash_8 : decode cX4_crash 8 = .ok (.iaload, 1) := by decide +kernel
theorem dX4_crash_9 : decode cX4_crash 9 = .ok (.aload_n 0, 1) := by decide +kernel
theorem dX4_crash_10 : decode cX4_crash 10 = .ok (.getfield 101, 3) := by decide +kernel
theorem dX4_crash_13 : decode cX4_crash 13 = .ok (.if_icmp .ge 16, 3) := by decide +kernel
theorem dX4_crash_16 : decode cX4_crash 16 = .ok (.aload_n 0, 1) := by decide +kernel
theorem dX4_crash_17 : decode cX4_crash 17 = .ok (.getfield 29, 3) := by decide +kernel
theorem dX4_crash_20 : decode cX4_crash 20 = .ok (.sipush 150, 3) := by decide +kernel
theorem dX4_crash_23 : decode cX4_crash 23 = .ok (.if_icmp .ne 6, 3) := by decide +kernel
theorem dX4_crash_26 : decode cX4_crash 26 = .ok (.bipush (-5), 2) := by decide +kernel
theorem dX4_crash_28 : decode cX4_crash 28 = .ok (.ireturn, 1) := by decide +kernel
theorem dX4_crash_29 : decode cX4_crash 29 = .ok (.aload_n 0, 1) := by decide +kernel
theorem dX4_crash_30 : decode cX4_crash 30 = .ok (.getfield 58, 3) := by decide +kernel
theorem dX4_crash_33 : decode cX4_crash 33 = .ok (.aload_n 0, 1) := by decide +kernel
theorem dX4_crash_34 : decode cX4_crash 34 = .ok (.getfield 101, 3) := by decide +kernel
theorem dX4_crash_37 : decode cX4_crash 37 = .ok (.isub, 1) := by decide +kernel
theorem dX4_crash_38 : decode cX4_crash 38 = .ok (.istore_n 1, 1) := by decide +kernel
theorem dX4_crash_39 : decode cX4_crash 39 = .ok (.aload_n 0, 1) := by decide +kernel
theorem dX4_crash_40 : decode cX4_crash 40 = .ok (.aload_n 0, 1) := by decide +kernel
theorem dX4_crash_41 : decode cX4_crash 41 = .ok (.getfield 101, 3) := by decide +kernel
theorem dX4_crash_44 : decode cX4_crash 44 = .ok (.putfield 58, 3) := by decide +kernel
theorem dX4_crash_47 : decode cX4_crash 47 = .ok (.iconst 0, 1) := by decide +kernel
theorem dX4_crash_48 : decode cX4_crash 48 = .ok (.istore_n 2, 1) := by decide +kernel
theorem dX4_crash_49 : decode cX4_crash 49 = .ok (.iload_n 2, 1) := by decide +kernel
theorem dX4_crash_50 : decode cX4_crash 50 = .ok (.aload_n 0, 1) := by decide +kernel
theorem dX4_crash_51 : decode cX4_crash 51 = .ok (.getfield 29, 3) := by decide +kernel
theorem dX4_crash_54 : decode cX4_crash 54 = .ok (.if_icmp .ge 16, 3) := by decide +kernel
theorem dX4_crash_57 : decode cX4_crash 57 = .ok (.aload_n 0, 1) := by decide +kernel
theorem dX4_crash_58 : decode cX4_crash 58 = .ok (.getfield 41, 3) := by decide +kernel
theorem dX4_crash_61 : decode cX4_crash 61 = .ok (.iload_n 2, 1) := by decide +kernel
theorem dX4_crash_62 : decode cX4_crash 62 = .ok (.iconst 0, 1) := by decide +kernel
theorem dX4_crash_63 : decode cX4_crash 63 = .ok (.iastore, 1) := by decide +kernel
theorem dX4_crash_64 : decode cX4_crash 64 = .ok (.iinc 2 1, 3) := by decide +kernel
theorem dX4_crash_67 : decode cX4_crash 67 = .ok (.goto (-18), 3) := by decide +kernel
theorem dX4_crash_70 : decode cX4_crash 70 = .ok (.aload_n 0, 1) := by decide +kernel
theorem dX4_crash_71 : decode cX4_crash 71 = .ok (.aload_n 0, 1) := by decide +kernel
theorem dX4_crash_72 : decode cX4_crash 72 = .ok (.getfield 51, 3) := by decide +kernel
theorem dX4_crash_75 : decode cX4_crash 75 = .ok (.putfield 48, 3) := by decide +kernel
theorem dX4_crash_78 : decode cX4_crash 78 = .ok (.aload_n 0, 1) := by decide +kernel
theorem dX4_crash_79 : decode cX4_crash 79 = .ok (.invokevirtual 98, 3) := by decide +kernel
theorem dX4_crash_82 : decode cX4_crash 82 = .ok (.iload_n 1, 1) := by decide +kernel
theorem dX4_crash_83 : decode cX4_crash 83 = .ok (.ireturn, 1) := by decide +kernel
theorem dX4_open_0 : decode cX4_open 0 = .ok (.aload_n 0, 1) := by decide +kernel
theorem dX4_open_1 : decode cX4_open 1 = .ok (.iload_n 1, 1) := by decide +kernel
theorem dX4_open_2 : decode cX4_open 2 = .ok (.invokevirtual 72, 3) := by decide +kernel
theorem dX4_open_5 : decode cX4_open 5 = .ok (.ifCond .ne 6, 3) := by decide +kernel
theorem dX4_open_8 : decode cX4_open 8 = .ok (.bipush (-2), 2) := by decide +kernel
theorem dX4_open_10 : decode cX4_open 10 = .ok (.ireturn, 1) := by decide +kernel
theorem dX4_open_11 : decode cX4_open 11 = .ok (.aload_n 0, 1) := by decide +kernel
theorem dX4_open_12 : decode cX4_open 12 = .ok (.getfield 41, 3) := by decide +kernel
theorem dX4_open_15 : decode cX4_open 15 = .ok (.iload_n 1, 1) := by decide +kernel
theorem dX4_open_16 : decode cX4_open 16 = .ok (.dup2, 1) := by decide +kernel
theorem dX4_open_17 : decode cX4_open 17 = .ok (.iaload, 1) := by decide +kernel
theorem dX4_open_18 : decode cX4_open 18 = .ok (.iconst 1, 1) := by decide +kernel
theorem dX4_open_19 : decode cX4_open 19 = .ok (.iadd, 1) := by decide +kernel
theorem dX4_open_20 : decode cX4_open 20 = .ok (.iastore, 1) := by decide +kernel
theorem dX4_open_21 : decode cX4_open 21 = .ok (.aload_n 0, 1) := by decide +kernel
theorem dX4_open_22 : decode cX4_open 22 = .ok (.getfield 41, 3) := by decide +kernel
theorem dX4_open_25 : decode cX4_open 25 = .ok (.iload_n 1, 1) := by decide +kernel
theorem dX4_open_26 : decode cX4_open 26 = .ok (.iaload, 1) := by decide +kernel
theorem dX4_open_27 : decode cX4_open 27 = .ok (.ireturn, 1) := by decide +kernel
theorem dX4_close_0 : decode cX4_close 0 = .ok (.aload_n 0, 1) := by decide +kernel
theorem dX4_close_1 : decode cX4_close 1 = .ok (.iload_n 1, 1) := by decide +kernel
theorem dX4_close_2 : decode cX4_close 2 = .ok (.invokevirtual 72, 3) := by decide +kernel
theorem dX4_close_5 : decode cX4_close 5 = .ok (.ifCond .ne 6, 3) := by decide +kernel
theorem dX4_close_8 : decode cX4_close 8 = .ok (.bipush (-2), 2) := by decide +kernel
theorem dX4_close_10 : decode cX4_close 10 = .ok (.ireturn, 1) := by decide +kernel
theorem dX4_close_11 : decode cX4_close 11 = .ok (.aload_n 0, 1) := by decide +kernel
theorem dX4_close_12 : decode cX4_close 12 = .ok (.getfield 41, 3) := by decide +kernel
theorem dX4_close_15 : decode cX4_close 15 = .ok (.iload_n 1, 1) := by decide +kernel
theorem dX4_close_16 : decode cX4_close 16 = .ok (.iaload, 1) := by decide +kernel
theorem dX4_close_17 : decode cX4_close 17 = .ok (.ifCond .ne 6, 3) := by decide +kernel
theorem dX4_close_20 : decode cX4_close 20 = .ok (.bipush (-3), 2) := by decide +kernel
theorem dX4_close_22 : decode cX4_close 22 = .ok (.ireturn, 1) := by decide +kernel
theorem dX4_close_23 : decode cX4_close 23 = .ok (.aload_n 0, 1) := by decide +kernel
theorem dX4_close_24 : decode cX4_close 24 = .ok (.getfield 41, 3) := by decide +kernel
theorem dX4_close_27 : decode cX4_close 27 = .ok (.iload_n 1, 1) := by decide +kernel
theorem dX4_close_28 : decode cX4_close 28 = .ok (.dup2, 1) := by decide +kernel
theorem dX4_close_29 : decode cX4_close 29 = .ok (.iaload, 1) := by decide +kernel
theorem dX4_close_30 : decode cX4_close 30 = .ok (.iconst 1, 1) := by decide +kernel
theorem dX4_close_31 : decode cX4_close 31 = .ok (.isub, 1) := by decide +kernel
theorem dX4_close_32 : decode cX4_close 32 = .ok (.iastore, 1) := by decide +kernel
theorem dX4_close_33 : decode cX4_close 33 = .ok (.aload_n 0, 1) := by decide +kernel
theorem dX4_close_34 : decode cX4_close 34 = .ok (.getfield 41, 3) := by decide +kernel
theorem dX4_close_37 : decode cX4_close 37 = .ok (.iload_n 1, 1) := by decide +kernel
theorem dX4_close_38 : decode cX4_close 38 = .ok (.iaload, 1) := by decide +kernel
theorem dX4_close_39 : decode cX4_close 39 = .ok (.ireturn, 1) := by decide +kernel
theorem dX4_get_0 : decode cX4_get 0 = .ok (.iload_n 1, 1) := by decide +kernel
theorem dX4_get_1 : decode cX4_get 1 = .ok (.iconst 0, 1) := by decide +kernel
theorem dX4_get_2 : decode cX4_get 2 = .ok (.bipush 15, 2) := by decide +kernel
theorem dX4_get_4 : decode cX4_get 4 = .ok (.invokestatic 44, 3) := by decide +kernel
theorem dX4_get_7 : decode cX4_get 7 = .ok (.ifCond .ne 6, 3) := by decide +kernel
theorem dX4_get_10 : decode cX4_get 10 = .ok (.bipush (-3), 2) := by decide +kernel
theorem dX4_get_12 : decode cX4_get 12 = .ok (.ireturn, 1) := by decide +kernel
theorem dX4_get_13 : decode cX4_get 13 = .ok (.aload_n 0, 1) := by decide +kernel
theorem dX4_get_14 : decode cX4_get 14 = .ok (.getfield 13, 3) := by decide +kernel
theorem dX4_get_17 : decode cX4_get 17 = .ok (.aload_n 0, 1) := by decide +kernel
theorem dX4_get_18 : decode cX4_get 18 = .ok (.iload_n 1, 1) := by decide +kernel
theorem dX4_get_19 : decode cX4_get 19 = .ok (.aload_n 0, 1) := by decide +kernel
theorem dX4_get_20 : decode cX4_get 20 = .ok (.getfield 58, 3) := by decide +kernel
theorem dX4_get_23 : decode cX4_get 23 = .ok (.invokevirtual 61, 3) := by decide +kernel
theorem dX4_get_26 : decode cX4_get 26 = .ok (.iaload, 1) := by decide +kernel
theorem dX4_get_27 : decode cX4_get 27 = .ok (.ireturn, 1) := by decide +kernel
theorem dX4_number_0 : decode cX4_number 0 = .ok (.iload_n 1, 1) := by decide +kernel
theorem dX4_number_1 : decode cX4_number 1 = .ok (.iconst 0, 1) := by decide +kernel
theorem dX4_number_2 : decode cX4_number 2 = .ok (.bipush 15, 2) := by decide +kernel
theorem dX4_number_4 : decode cX4_number 4 = .ok (.invokestatic 44, 3) := by decide +kernel
theorem dX4_number_7 : decode cX4_number 7 = .ok (.ifCond .eq 15, 3) := by decide +kernel
theorem dX4_number_10 : decode cX4_number 10 = .ok (.aload_n 0, 1) := by decide +kernel
theorem dX4_number_11 : decode cX4_number 11 = .ok (.iload_n 1, 1) := by decide +kernel
theorem dX4_number_12 : decode cX4_number 12 = .ok (.aload_n 0, 1) := by decide +kernel
theorem dX4_number_13 : decode cX4_number 13 = .ok (.getfield 58, 3) := by decide +kernel
theorem dX4_number_16 : decode cX4_number 16 = .ok (.invokevirtual 54, 3) := by decide +kernel
theorem dX4_number_19 : decode cX4_number 19 = .ok (.goto 5, 3) := by decide +kernel
theorem dX4_number_22 : decode cX4_number 22 = .ok (.bipush (-3), 2) := by decide +kernel
theorem dX4_number_24 : decode cX4_number 24 = .ok (.ireturn, 1) := by decide +kernel
theorem dX4_at_0 : decode cX4_at 0 = .ok (.aload_n 0, 1) := by decide +kernel
theorem dX4_at_1 : decode cX4_at 1 = .ok (.iload_n 1, 1) := by decide +kernel
theorem dX4_at_2 : decode cX4_at 2 = .ok (.invokevirtual 72, 3) := by decide +kernel
theorem dX4_at_5 : decode cX4_at 5 = .ok (.ifCond .ne 6, 3) := by decide +kernel
theorem dX4_at_8 : decode cX4_at 8 = .ok (.bipush (-2), 2) := by decide +kernel
theorem dX4_at_10 : decode cX4_at 10 = .ok (.ireturn, 1) := by decide +kernel
theorem dX4_at_11 : decode cX4_at 11 = .ok (.iload_n 2, 1) := by decide +kernel
theorem dX4_at_12 : decode cX4_at 12 = .ok (.iconst 0, 1) := by decide +kernel
theorem dX4_at_13 : decode cX4_at 13 = .ok (.bipush 15, 2) := by decide +kernel
theorem dX4_at_15 : decode cX4_at 15 = .ok (.invokestatic 44, 3) := by decide +kernel
theorem dX4_at_18 : decode cX4_at 18 = .ok (.ifCond .eq 22, 3) := by decide +kernel
theorem dX4_at_21 : decode cX4_at 21 = .ok (.aload_n 0, 1) := by decide +kernel
theorem dX4_at_22 : decode cX4_at 22 = .ok (.getfield 13, 3) := by decide +kernel
theorem dX4_at_25 : decode cX4_at 25 = .ok (.aload_n 0, 1) := by decide +kernel
theorem dX4_at_26 : decode cX4_at 26 = .ok (.iload_n 2, 1) := by decide +kernel
theorem dX4_at_27 : decode cX4_at 27 = .ok (.aload_n 0, 1) := by decide +kernel
theorem dX4_at_28 : decode cX4_at 28 = .ok (.getfield 32, 3) := by decide +kernel
theorem dX4_at_31 : decode cX4_at 31 = .ok (.iload_n 1, 1) := by decide +kernel
theorem dX4_at_32 : decode cX4_at 32 = .ok (.iaload, 1) := by decide +kernel
theorem dX4_at_33 : decode cX4_at 33 = .ok (.invokevirtual 61, 3) := by decide +kernel
theorem dX4_at_36 : decode cX4_at 36 = .ok (.iaload, 1) := by decide +kernel
theorem dX4_at_37 : decode cX4_at 37 = .ok (.goto 5, 3) := by decide +kernel
theorem dX4_at_40 : decode cX4_at 40 = .ok (.bipush (-3), 2) := by decide +kernel
theorem dX4_at_42 : decode cX4_at 42 = .ok (.ireturn, 1) := by decide +kernel
theorem dX4_find_0 : decode cX4_find 0 = .ok (.aload_n 0, 1) := by decide +kernel
theorem dX4_find_1 : decode cX4_find 1 = .ok (.iload_n 1, 1) := by decide +kernel
theorem dX4_find_2 : decode cX4_find 2 = .ok (.invokevirtual 72, 3) := by decide +kernel
theorem dX4_find_5 : decode cX4_find 5 = .ok (.ifCond .ne 6, 3) := by decide +kernel
theorem dX4_find_8 : decode cX4_find 8 = .ok (.bipush (-2), 2) := by decide +kernel
theorem dX4_find_10 : decode cX4_find 10 = .ok (.ireturn, 1) := by decide +kernel
theorem dX4_find_11 : decode cX4_find 11 = .ok (.iload_n 2, 1) := by decide +kernel
theorem dX4_find_12 : decode cX4_find 12 = .ok (.iconst 0, 1) := by decide +kernel
theorem dX4_find_13 : decode cX4_find 13 = .ok (.sipush 255, 3) := by decide +kernel
theorem dX4_find_16 : decode cX4_find 16 = .ok (.invokestatic 44, 3) := by decide +kernel
theorem dX4_find_19 : decode cX4_find 19 = .ok (.ifCond .ne 6, 3) := by decide +kernel
theorem dX4_find_22 : decode cX4_find 22 = .ok (.bipush (-3), 2) := by decide +kernel
theorem dX4_find_24 : decode cX4_find 24 = .ok (.ireturn, 1) := by decide +kernel
theorem dX4_find_25 : decode cX4_find 25 = .ok (.iconst 0, 1) := by decide +kernel
theorem dX4_find_26 : decode cX4_find 26 = .ok (.istore_n 3, 1) := by decide +kernel
theorem dX4_find_27 : decode cX4_find 27 = .ok (.iconst 0, 1) := by decide +kernel
theorem dX4_find_28 : decode cX4_find 28 = .ok (.istore 4, 2) := by decide +kernel
theorem dX4_find_30 : decode cX4_find 30 = .ok (.iload 4, 2) := by decide +kernel
theorem dX4_find_32 : decode cX4_find 32 = .ok (.bipush 16, 2) := by decide +kernel
theorem dX4_find_34 : decode cX4_find 34 = .ok (.if_icmp .ge 28, 3) := by decide +kernel
theorem dX4_find_37 : decode cX4_find 37 = .ok (.iload_n 3, 1) := by decide +kernel
theorem dX4_find_38 : decode cX4_find 38 = .ok (.aload_n 0, 1) := by decide +kernel
theorem dX4_find_39 : decode cX4_find 39 = .ok (.iload_n 1, 1) := by decide +kernel
theorem dX4_find_40 : decode cX4_find 40 = .ok (.iload 4, 2) := by decide +kernel
theorem dX4_find_42 : decode cX4_find 42 = .ok (.iload_n 2, 1) := by decide +kernel
theorem dX4_find_43 : decode cX4_find 43 = .ok (.invokevirtual 76, 3) := by decide +kernel
theorem dX4_find_46 : decode cX4_find 46 = .ok (.ifCond .eq 7, 3) := by decide +kernel
theorem dX4_find_49 : decode cX4_find 49 = .ok (.iconst 1, 1) := by decide +kernel
theorem dX4_find_50 : decode cX4_find 50 = .ok (.goto 4, 3) := by decide +kernel
theorem dX4_find_53 : decode cX4_find 53 = .ok (.iconst 0, 1) := by decide +kernel
theorem dX4_find_54 : decode cX4_find 54 = .ok (.iadd, 1) := by decide +kernel
theorem dX4_find_55 : decode cX4_find 55 = .ok (.istore_n 3, 1) := by decide +kernel
theorem dX4_find_56 : decode cX4_find 56 = .ok (.iinc 4 1, 3) := by decide +kernel
theorem dX4_find_59 : decode cX4_find 59 = .ok (.goto (-29), 3) := by decide +kernel
theorem dX4_find_62 : decode cX4_find 62 = .ok (.iload_n 3, 1) := by decide +kernel
theorem dX4_find_63 : decode cX4_find 63 = .ok (.ireturn, 1) := by decide +kernel
theorem dX4_bits_0 : decode cX4_bits 0 = .ok (.iconst 0, 1) := by decide +kernel
theorem dX4_bits_1 : decode cX4_bits 1 = .ok (.istore_n 1, 1) := by decide +kernel
theorem dX4_bits_2 : decode cX4_bits 2 = .ok (.iconst 0, 1) := by decide +kernel
theorem dX4_bits_3 : decode cX4_bits 3 = .ok (.istore_n 2, 1) := by decide +kernel
theorem dX4_bits_4 : decode cX4_bits 4 = .ok (.iload_n 2, 1) := by decide +kernel
theorem dX4_bits_5 : decode cX4_bits 5 = .ok (.bipush 8, 2) := by decide +kernel
theorem dX4_bits_7 : decode cX4_bits 7 = .ok (.if_icmp .ge 17, 3) := by decide +kernel
theorem dX4_bits_10 : decode cX4_bits 10 = .ok (.iload_n 1, 1) := by decide +kernel
theorem dX4_bits_11 : decode cX4_bits 11 = .ok (.iload_n 0, 1) := by decide +kernel
theorem dX4_bits_12 : decode cX4_bits 12 = .ok (.iload_n 2, 1) := by decide +kernel
theorem dX4_bits_13 : decode cX4_bits 13 = .ok (.ishr, 1) := by decide +kernel
theorem dX4_bits_14 : decode cX4_bits 14 = .ok (.iconst 1, 1) := by decide +kernel
theorem dX4_bits_15 : decode cX4_bits 15 = .ok (.iand, 1) := by decide +kernel
theorem dX4_bits_16 : decode cX4_bits 16 = .ok (.iadd, 1) := by decide +kernel
theorem dX4_bits_17 : decode cX4_bits 17 = .ok (.istore_n 1, 1) := by decide +kernel
theorem dX4_bits_18 : decode cX4_bits 18 = .ok (.iinc 2 1, 3) := by decide +kernel
theorem dX4_bits_21 : decode cX4_bits 21 = .ok (.goto (-17), 3) := by decide +kernel
theorem dX4_bits_24 : decode cX4_bits 24 = .ok (.iload_n 1, 1) := by decide +kernel
theorem dX4_bits_25 : decode cX4_bits 25 = .ok (.ireturn, 1) := by decide +kernel
theorem dX4_worth_0 : decode cX4_worth 0 = .ok (.aload_n 0, 1) := by decide +kernel
theorem dX4_worth_1 : decode cX4_worth 1 = .ok (.iload_n 2, 1) := by decide +kernel
theorem dX4_worth_2 : decode cX4_worth 2 = .ok (.aload_n 0, 1) := by decide +kernel
theorem dX4_worth_3 : decode cX4_worth 3 = .ok (.getfield 32, 3) := by decide +kernel
theorem dX4_worth_6 : decode cX4_worth 6 = .ok (.iload_n 1, 1) := by decide +kernel
theorem dX4_worth_7 : decode cX4_worth 7 = .ok (.iaload, 1) := by decide +kernel
theorem dX4_worth_8 : decode cX4_worth 8 = .ok (.invokevirtual 61, 3) := by decide +kernel
theorem dX4_worth_11 : decode cX4_worth 11 = .ok (.istore 4, 2) := by decide +kernel
theorem dX4_worth_13 : decode cX4_worth 13 = .ok (.sipush 1000, 3) := by decide +kernel
theorem dX4_worth_16 : decode cX4_worth 16 = .ok (.aload_n 0, 1) := by decide +kernel
theorem dX4_worth_17 : decode cX4_worth 17 = .ok (.getfield 13, 3) := by decide +kernel
theorem dX4_worth_20 : decode cX4_worth 20 = .ok (.iload 4, 2) := by decide +kernel
theorem dX4_worth_22 : decode cX4_worth 22 = .ok (.iaload, 1) := by decide +kernel
theorem dX4_worth_23 : decode cX4_worth 23 = .ok (.iload_n 3, 1) := by decide +kernel
theorem dX4_worth_24 : decode cX4_worth 24 = .ok (.iand, 1) := by decide +kernel
theorem dX4_worth_25 : decode cX4_worth 25 = .ok (.invokestatic 104, 3) := by decide +kernel
theorem dX4_worth_28 : decode cX4_worth 28 = .ok (.imul, 1) := by decide +kernel
theorem dX4_worth_29 : decode cX4_worth 29 = .ok (.iload 4, 2) := by decide +kernel
theorem dX4_worth_31 : decode cX4_worth 31 = .ok (.iadd, 1) := by decide +kernel
theorem dX4_worth_32 : decode cX4_worth 32 = .ok (.ireturn, 1) := by decide +kernel
theorem dX4_match_0 : decode cX4_match 0 = .ok (.aload_n 0, 1) := by decide +kernel
theorem dX4_match_1 : decode cX4_match 1 = .ok (.iload_n 1, 1) := by decide +kernel
theorem dX4_match_2 : decode cX4_match 2 = .ok (.invokevirtual 72, 3) := by decide +kernel
theorem dX4_match_5 : decode cX4_match 5 = .ok (.ifCond .ne 6, 3) := by decide +kernel
theorem dX4_match_8 : decode cX4_match 8 = .ok (.bipush (-2), 2) := by decide +kernel
theorem dX4_match_10 : decode cX4_match 10 = .ok (.ireturn, 1) := by decide +kernel
theorem dX4_match_11 : decode cX4_match 11 = .ok (.iload_n 2, 1) := by decide +kernel
theorem dX4_match_12 : decode cX4_match 12 = .ok (.iconst 0, 1) := by decide +kernel
theorem dX4_match_13 : decode cX4_match 13 = .ok (.sipush 255, 3) := by decide +kernel
theorem dX4_match_16 : decode cX4_match 16 = .ok (.invokestatic 44, 3) := by decide +kernel
theorem dX4_match_19 : decode cX4_match 19 = .ok (.ifCond .eq 14, 3) := by decide +kernel
theorem dX4_match_22 : decode cX4_match 22 = .ok (.iload_n 3, 1) := by decide +kernel
theorem dX4_match_23 : decode cX4_match 23 = .ok (.iconst 0, 1) := by decide +kernel
theorem dX4_match_24 : decode cX4_match 24 = .ok (.sipush 255, 3) := by decide +kernel
theorem dX4_match_27 : decode cX4_match 27 = .ok (.invokestatic 44, 3) := by decide +kernel
theorem dX4_match_30 : decode cX4_match 30 = .ok (.ifCond .ne 6, 3) := by decide +kernel
theorem dX4_match_33 : decode cX4_match 33 = .ok (.bipush (-3), 2) := by decide +kernel
theorem dX4_match_35 : decode cX4_match 35 = .ok (.ireturn, 1) := by decide +kernel
theorem dX4_match_36 : decode cX4_match 36 = .ok (.iconst 0, 1) := by decide +kernel
theorem dX4_match_37 : decode cX4_match 37 = .ok (.istore 5, 2) := by decide +kernel
theorem dX4_match_39 : decode cX4_match 39 = .ok (.iload 5, 2) := by decide +kernel
theorem dX4_match_41 : decode cX4_match 41 = .ok (.bipush 16, 2) := by decide +kernel
theorem dX4_match_43 : decode cX4_match 43 = .ok (.if_icmp .ge 89, 3) := by decide +kernel
theorem dX4_match_46 : decode cX4_match 46 = .ok (.aload_n 0, 1) := by decide +kernel
theorem dX4_match_47 : decode cX4_match 47 = .ok (.iload_n 1, 1) := by decide +kernel
theorem dX4_match_48 : decode cX4_match 48 = .ok (.iload 5, 2) := by decide +kernel
theorem dX4_match_50 : decode cX4_match 50 = .ok (.iload_n 2, 1) := by decide +kernel
theorem dX4_match_51 : decode cX4_match 51 = .ok (.invokevirtual 76, 3) := by decide +kernel
theorem dX4_match_54 : decode cX4_match 54 = .ok (.ifCond .eq 72, 3) := by decide +kernel
theorem dX4_match_57 : decode cX4_match 57 = .ok (.iconst 0, 1) := by decide +kernel
theorem dX4_match_58 : decode cX4_match 58 = .ok (.istore 6, 2) := by decide +kernel
theorem dX4_match_60 : decode cX4_match 60 = .ok (.iconst 0, 1) := by decide +kernel
theorem dX4_match_61 : decode cX4_match 61 = .ok (.istore 7, 2) := by decide +kernel
theorem dX4_match_63 : decode cX4_match 63 = .ok (.iload 7, 2) := by decide +kernel
theorem dX4_match_65 : decode cX4_match 65 = .ok (.bipush 16, 2) := by decide +kernel
theorem dX4_match_67 : decode cX4_match 67 = .ok (.if_icmp .ge 49, 3) := by decide +kernel
theorem dX4_match_70 : decode cX4_match 70 = .ok (.iload 6, 2) := by decide +kernel
theorem dX4_match_72 : decode cX4_match 72 = .ok (.aload_n 0, 1) := by decide +kernel
theorem dX4_match_73 : decode cX4_match 73 = .ok (.iload_n 1, 1) := by decide +kernel
theorem dX4_match_74 : decode cX4_match 74 = .ok (.iload 7, 2) := by decide +kernel
theorem dX4_match_76 : decode cX4_match 76 = .ok (.iload_n 2, 1) := by decide +kernel
theorem dX4_match_77 : decode cX4_match 77 = .ok (.invokevirtual 76, 3) := by decide +kernel
theorem dX4_match_80 : decode cX4_match 80 = .ok (.ifCond .eq 26, 3) := by decide +kernel
theorem dX4_match_83 : decode cX4_match 83 = .ok (.aload_n 0, 1) := by decide +kernel
theorem dX4_match_84 : decode cX4_match 84 = .ok (.iload_n 1, 1) := by decide +kernel
theorem dX4_match_85 : decode cX4_match 85 = .ok (.iload 7, 2) := by decide +kernel
theorem dX4_match_87 : decode cX4_match 87 = .ok (.iload_n 3, 1) := by decide +kernel
theorem dX4_match_88 : decode cX4_match 88 = .ok (.invokevirtual 108, 3) := by decide +kernel
theorem dX4_match_91 : decode cX4_match 91 = .ok (.aload_n 0, 1) := by decide +kernel
theorem dX4_match_92 : decode cX4_match 92 = .ok (.iload_n 1, 1) := by decide +kernel
theorem dX4_match_93 : decode cX4_match 93 = .ok (.iload 5, 2) := by decide +kernel
theorem dX4_match_95 : decode cX4_match 95 = .ok (.iload_n 3, 1) := by decide +kernel
theorem dX4_match_96 : decode cX4_match 96 = .ok (.invokevirtual 108, 3) := by decide +kernel
theorem dX4_match_99 : decode cX4_match 99 = .ok (.if_icmp .le 7, 3) := by decide +kernel
theorem dX4_match_102 : decode cX4_match 102 = .ok (.iconst 1, 1) := by decide +kernel
theorem dX4_match_103 : decode cX4_match 103 = .ok (.goto 4, 3) := by decide +kernel
theorem dX4_match_106 : decode cX4_match 106 = .ok (.iconst 0, 1) := by decide +kernel
theorem dX4_match_107 : decode cX4_match 107 = .ok (.iadd, 1) := by decide +kernel
theorem dX4_match_108 : decode cX4_match 108 = .ok (.istore 6, 2) := by decide +kernel
theorem dX4_match_110 : decode cX4_match 110 = .ok (.iinc 7 1, 3) := by decide +kernel
theorem dX4_match_113 : decode cX4_match 113 = .ok (.goto (-50), 3) := by decide +kernel
theorem dX4_match_116 : decode cX4_match 116 = .ok (.iload 6, 2) := by decide +kernel
theorem dX4_match_118 : decode cX4_match 118 = .ok (.iload 4, 2) := by decide +kernel
theorem dX4_match_120 : decode cX4_match 120 = .ok (.if_icmp .ne 6, 3) := by decide +kernel
theorem dX4_match_123 : decode cX4_match 123 = .ok (.iload 5, 2) := by decide +kernel
theorem dX4_match_125 : decode cX4_match 125 = .ok (.ireturn, 1) := by decide +kernel
theorem dX4_match_126 : decode cX4_match 126 = .ok (.iinc 5 1, 3) := by decide +kernel
theorem dX4_match_129 : decode cX4_match 129 = .ok (.goto (-90), 3) := by decide +kernel
theorem dX4_match_132 : decode cX4_match 132 = .ok (.iconst (-1), 1) := by decide +kernel
theorem dX4_match_133 : decode cX4_match 133 = .ok (.ireturn, 1) := by decide +kernel
theorem dX4_segments_0 : decode cX4_segments 0 = .ok (.aload_n 0, 1) := by decide +kernel
theorem dX4_segments_1 : decode cX4_segments 1 = .ok (.iload_n 1, 1) := by decide +kernel
theorem dX4_segments_2 : decode cX4_segments 2 = .ok (.invokevirtual 72, 3) := by decide +kernel
theorem dX4_segments_5 : decode cX4_segments 5 = .ok (.ifCond .eq 12, 3) := by decide +kernel
theorem dX4_segments_8 : decode cX4_segments 8 = .ok (.aload_n 0, 1) := by decide +kernel
theorem dX4_segments_9 : decode cX4_segments 9 = .ok (.getfield 35, 3) := by decide +kernel
theorem dX4_segments_12 : decode cX4_segments 12 = .ok (.iload_n 1, 1) := by decide +kernel
theorem dX4_segments_13 : decode cX4_segments 13 = .ok (.iaload, 1) := by decide +kernel
theorem dX4_segments_14 : decode cX4_segments 14 = .ok (.goto 5, 3) := by decide +kernel
theorem dX4_segments_17 : decode cX4_segments 17 = .ok (.bipush (-2), 2) := by decide +kernel
theorem dX4_segments_19 : decode cX4_segments 19 = .ok (.ireturn, 1) := by decide +kernel
theorem dX4_segment_0 : decode cX4_segment 0 = .ok (.aload_n 0, 1) := by decide +kernel
theorem dX4_segment_1 : decode cX4_segment 1 = .ok (.iload_n 1, 1) := by decide +kernel
theorem dX4_segment_2 : decode cX4_segment 2 = .ok (.invokevirtual 72, 3) := by decide +kernel
theorem dX4_segment_5 : decode cX4_segment 5 = .ok (.ifCond .ne 6, 3) := by decide +kernel
theorem dX4_segment_8 : decode cX4_segment 8 = .ok (.bipush (-2), 2) := by decide +kernel
theorem dX4_segment_10 : decode cX4_segment 10 = .ok (.ireturn, 1) := by decide +kernel
theorem dX4_segment_11 : decode cX4_segment 11 = .ok (.iload_n 2, 1) := by decide +kernel
theorem dX4_segment_12 : decode cX4_segment 12 = .ok (.iconst 0, 1) := by decide +kernel
theorem dX4_segment_13 : decode cX4_segment 13 = .ok (.aload_n 0, 1) := by decide +kernel
theorem dX4_segment_14 : decode cX4_segment 14 = .ok (.getfield 35, 3) := by decide +kernel
theorem dX4_segment_17 : decode cX4_segment 17 = .ok (.iload_n 1, 1) := by decide +kernel
theorem dX4_segment_18 : decode cX4_segment 18 = .ok (.iaload, 1) := by decide +kernel
theorem dX4_segment_19 : decode cX4_segment 19 = .ok (.iconst 1, 1) := by decide +kernel
theorem dX4_segment_20 : decode cX4_segment 20 = .ok (.isub, 1) := by decide +kernel
theorem dX4_segment_21 : decode cX4_segment 21 = .ok (.invokestatic 44, 3) := by decide +kernel
theorem dX4_segment_24 : decode cX4_segment 24 = .ok (.ifCond .ne 6, 3) := by decide +kernel
theorem dX4_segment_27 : decode cX4_segment 27 = .ok (.bipush (-3), 2) := by decide +kernel
theorem dX4_segment_29 : decode cX4_segment 29 = .ok (.ireturn, 1) := by decide +kernel
theorem dX4_segment_30 : decode cX4_segment 30 = .ok (.aload_n 0, 1) := by decide +kernel
theorem dX4_segment_31 : decode cX4_segment 31 = .ok (.getfield 38, 3) := by decide +kernel
theorem dX4_segment_34 : decode cX4_segment 34 = .ok (.iconst 4, 1) := by decide +kernel
theorem dX4_segment_35 : decode cX4_segment 35 = .ok (.iload_n 1, 1) := by decide +kernel
theorem dX4_segment_36 : decode cX4_segment 36 = .ok (.imul, 1) := by decide +kernel
theorem dX4_segment_37 : decode cX4_segment 37 = .ok (.iload_n 2, 1) := by decide +kernel
theorem dX4_segment_38 : decode cX4_segment 38 = .ok (.iadd, 1) := by decide +kernel
theorem dX4_segment_39 : decode cX4_segment 39 = .ok (.iaload, 1) := by decide +kernel
theorem dX4_segment_40 : decode cX4_segment 40 = .ok (.istore 4, 2) := by decide +kernel
theorem dX4_segment_42 : decode cX4_segment 42 = .ok (.iload_n 3, 1) := by decide +kernel
theorem dX4_segment_43 : decode cX4_segment 43 = .ok (.ifCond .ne 6, 3) := by decide +kernel
theorem dX4_segment_46 : decode cX4_segment 46 = .ok (.iload 4, 2) := by decide +kernel
theorem dX4_segment_48 : decode cX4_segment 48 = .ok (.ireturn, 1) := by decide +kernel
theorem dX4_segment_49 : decode cX4_segment 49 = .ok (.iload_n 3, 1) := by decide +kernel
theorem dX4_segment_50 : decode cX4_segment 50 = .ok (.iconst 1, 1) := by decide +kernel
theorem dX4_segment_51 : decode cX4_segment 51 = .ok (.if_icmp .ne 11, 3) := by decide +kernel
theorem dX4_segment_54 : decode cX4_segment 54 = .ok (.aload_n 0, 1) := by decide +kernel
theorem dX4_segment_55 : decode cX4_segment 55 = .ok (.getfield 23, 3) := by decide +kernel
theorem dX4_segment_58 : decode cX4_segment 58 = .ok (.iload 4, 2) := by decide +kernel
theorem dX4_segment_60 : decode cX4_segment 60 = .ok (.iaload, 1) := by decide +kernel
theorem dX4_segment_61 : decode cX4_segment 61 = .ok (.ireturn, 1) := by decide +kernel
theorem dX4_segment_62 : decode cX4_segment 62 = .ok (.iload_n 3, 1) := by decide +kernel
theorem dX4_segment_63 : decode cX4_segment 63 = .ok (.iconst 2, 1) := by decide +kernel
theorem dX4_segment_64 : decode cX4_segment 64 = .ok (.if_icmp .ne 16, 3) := by decide +kernel
theorem dX4_segment_67 : decode cX4_segment 67 = .ok (.aload_n 0, 1) := by decide +kernel
theorem dX4_segment_68 : decode cX4_segment 68 = .ok (.iload 4, 2) := by decide +kernel
theorem dX4_segment_70 : decode cX4_segment 70 = .ok (.aload_n 0, 1) := by decide +kernel
theorem dX4_segment_71 : decode cX4_segment 71 = .ok (.getfield 32, 3) := by decide +kernel
theorem dX4_segment_74 : decode cX4_segment 74 = .ok (.iload_n 1, 1) := by decide +kernel
theorem dX4_segment_75 : decode cX4_segment 75 = .ok (.iaload, 1) := by decide +kernel
theorem dX4_segment_76 : decode cX4_segment 76 = .ok (.invokevirtual 92, 3) := by decide +kernel
theorem dX4_segment_79 : decode cX4_segment 79 = .ok (.ireturn, 1) := by decide +kernel
theorem dX4_segment_80 : decode cX4_segment 80 = .ok (.iload_n 3, 1) := by decide +kernel
theorem dX4_segment_81 : decode cX4_segment 81 = .ok (.bipush 10, 2) := by decide +kernel
theorem dX4_segment_83 : decode cX4_segment 83 = .ok (.if_icmp .lt 40, 3) := by decide +kernel
theorem dX4_segment_86 : decode cX4_segment 86 = .ok (.iload_n 3, 1) := by decide +kernel
theorem dX4_segment_87 : decode cX4_segment 87 = .ok (.bipush 10, 2) := by decide +kernel
theorem dX4_segment_89 : decode cX4_segment 89 = .ok (.isub, 1) := by decide +kernel
theorem dX4_segment_90 : decode cX4_segment 90 = .ok (.aload_n 0, 1) := by decide +kernel
theorem dX4_segment_91 : decode cX4_segment 91 = .ok (.getfield 23, 3) := by decide +kernel
theorem dX4_segment_94 : decode cX4_segment 94 = .ok (.iload 4, 2) := by decide +kernel
theorem dX4_segment_96 : decode cX4_segment 96 = .ok (.iaload, 1) := by decide +kernel
theorem dX4_segment_97 : decode cX4_segment 97 = .ok (.if_icmp .ge 26, 3) := by decide +kernel
theorem dX4_segment_100 : decode cX4_segment 100 = .ok (.aload_n 0, 1) := by decide +kernel
theorem dX4_segment_101 : decode cX4_segment 101 = .ok (.getfield 7, 3) := by decide +kernel
theorem dX4_segment_104 : decode cX4_segment 104 = .ok (.aload_n 0, 1) := by decide +kernel
theorem dX4_segment_105 : decode cX4_segment 105 = .ok (.getfield 26, 3) := by decide +kernel
theorem dX4_segment_108 : decode cX4_segment 108 = .ok (.bipush 16, 2) := by decide +kernel
theorem dX4_segment_110 : decode cX4_segment 110 = .ok (.iload 4, 2) := by decide +kernel
theorem dX4_segment_112 : decode cX4_segment 112 = .ok (.imul, 1) := by decide +kernel
theorem dX4_segment_113 : decode cX4_segment 113 = .ok (.iload_n 3, 1) := by decide +kernel
theorem dX4_segment_114 : decode cX4_segment 114 = .ok (.iadd, 1) := by decide +kernel
theorem dX4_segment_115 : decode cX4_segment 115 = .ok (.bipush 10, 2) := by decide +kernel
theorem dX4_segment_117 : decode cX4_segment 117 = .ok (.isub, 1) := by decide +kernel
theorem dX4_segment_118 : decode cX4_segment 118 = .ok (.iaload, 1) := by decide +kernel
theorem dX4_segment_119 : decode cX4_segment 119 = .ok (.iaload, 1) := by decide +kernel
theorem dX4_segment_120 : decode cX4_segment 120 = .ok (.goto 5, 3) := by decide +kernel
theorem dX4_segment_123 : decode cX4_segment 123 = .ok (.bipush (-3), 2) := by decide +kernel
theorem dX4_segment_125 : decode cX4_segment 125 = .ok (.ireturn, 1) := by decide +kernel
theorem dX4_isThere_0 : decode cX4_isThere 0 = .ok (.iconst 0, 1) := by decide +kernel
theorem dX4_isThere_1 : decode cX4_isThere 1 = .ok (.istore_n 2, 1) := by decide +kernel
theorem dX4_isThere_2 : decode cX4_isThere 2 = .ok (.iload_n 2, 1) := by decide +kernel
theorem dX4_isThere_3 : decode cX4_isThere 3 = .ok (.aload_n 0, 1) := by decide +kernel
theorem dX4_isThere_4 : decode cX4_isThere 4 = .ok (.getfield 29, 3) := by decide +kernel
theorem dX4_isThere_7 : decode cX4_isThere 7 = .ok (.if_icmp .ge 51, 3) := by decide +kernel
theorem dX4_isThere_10 : decode cX4_isThere 10 = .ok (.iconst 0, 1) := by decide +kernel
theorem dX4_isThere_11 : decode cX4_isThere 11 = .ok (.istore_n 3, 1) := by decide +kernel
theorem dX4_isThere_12 : decode cX4_isThere 12 = .ok (.iload_n 3, 1) := by decide +kernel
theorem dX4_isThere_13 : decode cX4_isThere 13 = .ok (.aload_n 0, 1) := by decide +kernel
theorem dX4_isThere_14 : decode cX4_isThere 14 = .ok (.getfield 35, 3) := by decide +kernel
theorem dX4_isThere_17 : decode cX4_isThere 17 = .ok (.iload_n 2, 1) := by decide +kernel
theorem dX4_isThere_18 : decode cX4_isThere 18 = .ok (.iaload, 1) := by decide +kernel
theorem dX4_isThere_19 : decode cX4_isThere 19 = .ok (.if_icmp .ge 33, 3) := by decide +kernel
theorem dX4_isThere_22 : decode cX4_isThere 22 = .ok (.aload_n 0, 1) := by decide +kernel
theorem dX4_isThere_23 : decode cX4_isThere 23 = .ok (.iload_n 2, 1) := by decide +kernel
theorem dX4_isThere_24 : decode cX4_isThere 24 = .ok (.invokevirtual 72, 3) := by decide +kernel
theorem dX4_isThere_27 : decode cX4_isThere 27 = .ok (.ifCond .eq 25, 3) := by decide +kernel
theorem dX4_isThere_30 : decode cX4_isThere 30 = .ok (.aload_n 0, 1) := by decide +kernel
theorem dX4_isThere_31 : decode cX4_isThere 31 = .ok (.getfield 38, 3) := by decide +kernel
theorem dX4_isThere_34 : decode cX4_isThere 34 = .ok (.iconst 4, 1) := by decide +kernel
theorem dX4_isThere_35 : decode cX4_isThere 35 = .ok (.iload_n 2, 1) := by decide +kernel
theorem dX4_isThere_36 : decode cX4_isThere 36 = .ok (.imul, 1) := by decide +kernel
theorem dX4_isThere_37 : decode cX4_isThere 37 = .ok (.iload_n 3, 1) := by decide +kernel
theorem dX4_isThere_38 : decode cX4_isThere 38 = .ok (.iadd, 1) := by decide +kernel
theorem dX4_isThere_39 : decode cX4_isThere 39 = .ok (.iaload, 1) := by decide +kernel
theorem dX4_isThere_40 : decode cX4_isThere 40 = .ok (.iload_n 1, 1) := by decide +kernel
theorem dX4_isThere_41 : decode cX4_isThere 41 = .ok (.if_icmp .ne 5, 3) := by decide +kernel
theorem dX4_isThere_44 : decode cX4_isThere 44 = .ok (.iconst 1, 1) := by decide +kernel
theorem dX4_isThere_45 : decode cX4_isThere 45 = .ok (.ireturn, 1) := by decide +kernel
theorem dX4_isThere_46 : decode cX4_isThere 46 = .ok (.iinc 3 1, 3) := by decide +kernel
theorem dX4_isThere_49 : decode cX4_isThere 49 = .ok (.goto (-37), 3) := by decide +kernel
theorem dX4_isThere_52 : decode cX4_isThere 52 = .ok (.iinc 2 1, 3) := by decide +kernel
theorem dX4_isThere_55 : decode cX4_isThere 55 = .ok (.goto (-53), 3) := by decide +kernel
theorem dX4_isThere_58 : decode cX4_isThere 58 = .ok (.iconst 0, 1) := by decide +kernel
theorem dX4_isThere_59 : decode cX4_isThere 59 = .ok (.ireturn, 1) := by decide +kernel
theorem dX4_told__0 : decode cX4_told_ 0 = .ok (.iconst 0, 1) := by decide +kernel
theorem dX4_told__1 : decode cX4_told_ 1 = .ok (.istore_n 2, 1) := by decide +kernel
theorem dX4_told__2 : decode cX4_told_ 2 = .ok (.iload_n 1, 1) := by decide +kernel
theorem dX4_told__3 : decode cX4_told_ 3 = .ok (.tableswitch 143 0 7 #[45, 50, 55, 60, 65, 70, 104, 109], 45) := by decide +kernel
theorem dX4_told__48 : decode cX4_told_ 48 = .ok (.aload_n 0, 1) := by decide +kernel
theorem dX4_told__49 : decode cX4_told_ 49 = .ok (.getfield 48, 3) := by decide +kernel
theorem dX4_told__52 : decode cX4_told_ 52 = .ok (.ireturn, 1) := by decide +kernel
theorem dX4_told__53 : decode cX4_told_ 53 = .ok (.aload_n 0, 1) := by decide +kernel
theorem dX4_told__54 : decode cX4_told_ 54 = .ok (.getfield 51, 3) := by decide +kernel
theorem dX4_told__57 : decode cX4_told_ 57 = .ok (.ireturn, 1) := by decide +kernel
theorem dX4_told__58 : decode cX4_told_ 58 = .ok (.aload_n 0, 1) := by decide +kernel
theorem dX4_told__59 : decode cX4_told_ 59 = .ok (.getfield 101, 3) := by decide +kernel
theorem dX4_told__62 : decode cX4_told_ 62 = .ok (.ireturn, 1) := by decide +kernel
theorem dX4_told__63 : decode cX4_told_ 63 = .ok (.aload_n 0, 1) := by decide +kernel
theorem dX4_told__64 : decode cX4_told_ 64 = .ok (.getfield 58, 3) := by decide +kernel
theorem dX4_told__67 : decode cX4_told_ 67 = .ok (.ireturn, 1) := by decide +kernel
theorem dX4_told__68 : decode cX4_told_ 68 = .ok (.aload_n 0, 1) := by decide +kernel
theorem dX4_told__69 : decode cX4_told_ 69 = .ok (.getfield 85, 3) := by decide +kernel
theorem dX4_told__72 : decode cX4_told_ 72 = .ok (.ireturn, 1) := by decide +kernel
theorem dX4_told__73 : decode cX4_told_ 73 = .ok (.iconst 0, 1) := by decide +kernel
theorem dX4_told__74 : decode cX4_told_ 74 = .ok (.istore_n 3, 1) := by decide +kernel
theorem dX4_told__75 : decode cX4_told_ 75 = .ok (.iload_n 3, 1) := by decide +kernel
theorem dX4_told__76 : decode cX4_told_ 76 = .ok (.aload_n 0, 1) := by decide +kernel
theorem dX4_told__77 : decode cX4_told_ 77 = .ok (.getfield 82, 3) := by decide +kernel
theorem dX4_told__80 : decode cX4_told_ 80 = .ok (.if_icmp .ge 25, 3) := by decide +kernel
theorem dX4_told__83 : decode cX4_told_ 83 = .ok (.iload_n 2, 1) := by decide +kernel
theorem dX4_told__84 : decode cX4_told_ 84 = .ok (.aload_n 0, 1) := by decide +kernel
theorem dX4_told__85 : decode cX4_told_ 85 = .ok (.iload_n 3, 1) := by decide +kernel
theorem dX4_told__86 : decode cX4_told_ 86 = .ok (.invokevirtual 111, 3) := by decide +kernel
theorem dX4_told__89 : decode cX4_told_ 89 = .ok (.ifCond .eq 7, 3) := by decide +kernel
theorem dX4_told__92 : decode cX4_told_ 92 = .ok (.iconst 1, 1) := by decide +kernel
theorem dX4_told__93 : decode cX4_told_ 93 = .ok (.goto 4, 3) := by decide +kernel
theorem dX4_told__96 : decode cX4_told_ 96 = .ok (.iconst 0, 1) := by decide +kernel
theorem dX4_told__97 : decode cX4_told_ 97 = .ok (.iadd, 1) := by decide +kernel
theorem dX4_told__98 : decode cX4_told_ 98 = .ok (.istore_n 2, 1) := by decide +kernel
theorem dX4_told__99 : decode cX4_told_ 99 = .ok (.iinc 3 1, 3) := by decide +kernel
theorem dX4_told__102 : decode cX4_told_ 102 = .ok (.goto (-27), 3) := by decide +kernel
theorem dX4_told__105 : decode cX4_told_ 105 = .ok (.iload_n 2, 1) := by decide +kernel
theorem dX4_told__106 : decode cX4_told_ 106 = .ok (.ireturn, 1) := by decide +kernel
theorem dX4_told__107 : decode cX4_told_ 107 = .ok (.aload_n 0, 1) := by decide +kernel
theorem dX4_told__108 : decode cX4_told_ 108 = .ok (.getfield 82, 3) := by decide +kernel
theorem dX4_told__111 : decode cX4_told_ 111 = .ok (.ireturn, 1) := by decide +kernel
theorem dX4_told__112 : decode cX4_told_ 112 = .ok (.iconst 0, 1) := by decide +kernel
theorem dX4_told__113 : decode cX4_told_ 113 = .ok (.istore_n 3, 1) := by decide +kernel
theorem dX4_told__114 : decode cX4_told_ 114 = .ok (.iload_n 3, 1) := by decide +kernel
theorem dX4_told__115 : decode cX4_told_ 115 = .ok (.aload_n 0, 1) := by decide +kernel
theorem dX4_told__116 : decode cX4_told_ 116 = .ok (.getfield 29, 3) := by decide +kernel
theorem dX4_told__119 : decode cX4_told_ 119 = .ok (.if_icmp .ge 25, 3) := by decide +kernel
theorem dX4_told__122 : decode cX4_told_ 122 = .ok (.iload_n 2, 1) := by decide +kernel
theorem dX4_told__123 : decode cX4_told_ 123 = .ok (.aload_n 0, 1) := by decide +kernel
theorem dX4_told__124 : decode cX4_told_ 124 = .ok (.iload_n 3, 1) := by decide +kernel
theorem dX4_told__125 : decode cX4_told_ 125 = .ok (.invokevirtual 72, 3) := by decide +kernel
theorem dX4_told__128 : decode cX4_told_ 128 = .ok (.ifCond .eq 7, 3) := by decide +kernel
theorem dX4_told__131 : decode cX4_told_ 131 = .ok (.iconst 1, 1) := by decide +kernel
theorem dX4_told__132 : decode cX4_told_ 132 = .ok (.goto 4, 3) := by decide +kernel
theorem dX4_told__135 : decode cX4_told_ 135 = .ok (.iconst 0, 1) := by decide +kernel
theorem dX4_told__136 : decode cX4_told_ 136 = .ok (.iadd, 1) := by decide +kernel
theorem dX4_told__137 : decode cX4_told_ 137 = .ok (.istore_n 2, 1) := by decide +kernel
theorem dX4_told__138 : decode cX4_told_ 138 = .ok (.iinc 3 1, 3) := by decide +kernel
theorem dX4_told__141 : decode cX4_told_ 141 = .ok (.goto (-27), 3) := by decide +kernel
theorem dX4_told__144 : decode cX4_told_ 144 = .ok (.iload_n 2, 1) := by decide +kernel
theorem dX4_told__145 : decode cX4_told_ 145 = .ok (.ireturn, 1) := by decide +kernel
theorem dX4_told__146 : decode cX4_told_ 146 = .ok (.bipush (-3), 2) := by decide +kernel
theorem dX4_told__148 : decode cX4_told_ 148 = .ok (.ireturn, 1) := by decide +kernel
theorem dJ6_bitCount_0f7a4_0 : decode cJ6_bitCount_0f7a4 0 = .ok (.iload_n 0, 1) := by decide +kernel
theorem dJ6_bitCount_0f7a4_1 : decode cJ6_bitCount_0f7a4 1 = .ok (.iload_n 0, 1) := by decide +kernel
theorem dJ6_bitCount_0f7a4_2 : decode cJ6_bitCount_0f7a4 2 = .ok (.iconst 1, 1) := by decide +kernel
theorem dJ6_bitCount_0f7a4_3 : decode cJ6_bitCount_0f7a4 3 = .ok (.iushr, 1) := by decide +kernel
theorem dJ6_bitCount_0f7a4_4 : decode cJ6_bitCount_0f7a4 4 = .ok (.ldc_w 265, 3) := by decide +kernel
theorem dJ6_bitCount_0f7a4_7 : decode cJ6_bitCount_0f7a4 7 = .ok (.iand, 1) := by decide +kernel
theorem dJ6_bitCount_0f7a4_8 : decode cJ6_bitCount_0f7a4 8 = .ok (.isub, 1) := by decide +kernel
theorem dJ6_bitCount_0f7a4_9 : decode cJ6_bitCount_0f7a4 9 = .ok (.istore_n 0, 1) := by decide +kernel
theorem dJ6_bitCount_0f7a4_10 : decode cJ6_bitCount_0f7a4 10 = .ok (.iload_n 0, 1) := by decide +kernel
theorem dJ6_bitCount_0f7a4_11 : decode cJ6_bitCount_0f7a4 11 = .ok (.ldc_w 266, 3) := by decide +kernel
theorem dJ6_bitCount_0f7a4_14 : decode cJ6_bitCount_0f7a4 14 = .ok (.iand, 1) := by decide +kernel
theorem dJ6_bitCount_0f7a4_15 : decode cJ6_bitCount_0f7a4 15 = .ok (.iload_n 0, 1) := by decide +kernel
theorem dJ6_bitCount_0f7a4_16 : decode cJ6_bitCount_0f7a4 16 = .ok (.iconst 2, 1) := by decide +kernel
theorem dJ6_bitCount_0f7a4_17 : decode cJ6_bitCount_0f7a4 17 = .ok (.iushr, 1) := by decide +kernel
theorem dJ6_bitCount_0f7a4_18 : decode cJ6_bitCount_0f7a4 18 = .ok (.ldc_w 266, 3) := by decide +kernel
theorem dJ6_bitCount_0f7a4_21 : decode cJ6_bitCount_0f7a4 21 = .ok (.iand, 1) := by decide +kernel
theorem dJ6_bitCount_0f7a4_22 : decode cJ6_bitCount_0f7a4 22 = .ok (.iadd, 1) := by decide +kernel
theorem dJ6_bitCount_0f7a4_23 : decode cJ6_bitCount_0f7a4 23 = .ok (.istore_n 0, 1) := by decide +kernel
theorem dJ6_bitCount_0f7a4_24 : decode cJ6_bitCount_0f7a4 24 = .ok (.iload_n 0, 1) := by decide +kernel
theorem dJ6_bitCount_0f7a4_25 : decode cJ6_bitCount_0f7a4 25 = .ok (.iload_n 0, 1) := by decide +kernel
theorem dJ6_bitCount_0f7a4_26 : decode cJ6_bitCount_0f7a4 26 = .ok (.iconst 4, 1) := by decide +kernel
theorem dJ6_bitCount_0f7a4_27 : decode cJ6_bitCount_0f7a4 27 = .ok (.iushr, 1) := by decide +kernel
theorem dJ6_bitCount_0f7a4_28 : decode cJ6_bitCount_0f7a4 28 = .ok (.iadd, 1) := by decide +kernel
theorem dJ6_bitCount_0f7a4_29 : decode cJ6_bitCount_0f7a4 29 = .ok (.ldc_w 267, 3) := by decide +kernel
theorem dJ6_bitCount_0f7a4_32 : decode cJ6_bitCount_0f7a4 32 = .ok (.iand, 1) := by decide +kernel
theorem dJ6_bitCount_0f7a4_33 : decode cJ6_bitCount_0f7a4 33 = .ok (.istore_n 0, 1) := by decide +kernel
theorem dJ6_bitCount_0f7a4_34 : decode cJ6_bitCount_0f7a4 34 = .ok (.iload_n 0, 1) := by decide +kernel
theorem dJ6_bitCount_0f7a4_35 : decode cJ6_bitCount_0f7a4 35 = .ok (.iload_n 0, 1) := by decide +kernel
theorem dJ6_bitCount_0f7a4_36 : decode cJ6_bitCount_0f7a4 36 = .ok (.bipush 8, 2) := by decide +kernel
theorem dJ6_bitCount_0f7a4_38 : decode cJ6_bitCount_0f7a4 38 = .ok (.iushr, 1) := by decide +kernel
theorem dJ6_bitCount_0f7a4_39 : decode cJ6_bitCount_0f7a4 39 = .ok (.iadd, 1) := by decide +kernel
theorem dJ6_bitCount_0f7a4_40 : decode cJ6_bitCount_0f7a4 40 = .ok (.istore_n 0, 1) := by decide +kernel
theorem dJ6_bitCount_0f7a4_41 : decode cJ6_bitCount_0f7a4 41 = .ok (.iload_n 0, 1) := by decide +kernel
theorem dJ6_bitCount_0f7a4_42 : decode cJ6_bitCount_0f7a4 42 = .ok (.iload_n 0, 1) := by decide +kernel
theorem dJ6_bitCount_0f7a4_43 : decode cJ6_bitCount_0f7a4 43 = .ok (.bipush 16, 2) := by decide +kernel
theorem dJ6_bitCount_0f7a4_45 : decode cJ6_bitCount_0f7a4 45 = .ok (.iushr, 1) := by decide +kernel
theorem dJ6_bitCount_0f7a4_46 : decode cJ6_bitCount_0f7a4 46 = .ok (.iadd, 1) := by decide +kernel
theorem dJ6_bitCount_0f7a4_47 : decode cJ6_bitCount_0f7a4 47 = .ok (.istore_n 0, 1) := by decide +kernel
theorem dJ6_bitCount_0f7a4_48 : decode cJ6_bitCount_0f7a4 48 = .ok (.iload_n 0, 1) := by decide +kernel
theorem dJ6_bitCount_0f7a4_49 : decode cJ6_bitCount_0f7a4 49 = .ok (.bipush 63, 2) := by decide +kernel
theorem dJ6_bitCount_0f7a4_51 : decode cJ6_bitCount_0f7a4 51 = .ok (.iand, 1) := by decide +kernel
theorem dJ6_bitCount_0f7a4_52 : decode cJ6_bitCount_0f7a4 52 = .ok (.ireturn, 1) := by decide +kernel
theorem dL_law_0 : decode cL_law 0 = .ok (.new 7, 3) := by decide +kernel
theorem dL_law_3 : decode cL_law 3 = .ok (.dup, 1) := by decide +kernel
theorem dL_law_4 : decode cL_law 4 = .ok (.invokespecial 9, 3) := by decide +kernel
theorem dL_law_7 : decode cL_law 7 = .ok (.astore_n 1, 1) := by decide +kernel
theorem dL_law_8 : decode cL_law 8 = .ok (.new 10, 3) := by decide +kernel
theorem dL_law_11 : decode cL_law 11 = .ok (.dup, 1) := by decide +kernel
theorem dL_law_12 : decode cL_law 12 = .ok (.invokespecial 12, 3) := by decide +kernel
theorem dL_law_15 : decode cL_law 15 = .ok (.astore_n 2, 1) := by decide +kernel
theorem dL_law_16 : decode cL_law 16 = .ok (.iconst 0, 1) := by decide +kernel
theorem dL_law_17 : decode cL_law 17 = .ok (.istore_n 3, 1) := by decide +kernel
theorem dL_law_18 : decode cL_law 18 = .ok (.iload_n 3, 1) := by decide +kernel
theorem dL_law_19 : decode cL_law 19 = .ok (.aload_n 0, 1) := by decide +kernel
theorem dL_law_20 : decode cL_law 20 = .ok (.arraylength, 1) := by decide +kernel
theorem dL_law_21 : decode cL_law 21 = .ok (.iconst 5, 1) := by decide +kernel
theorem dL_law_22 : decode cL_law 22 = .ok (.isub, 1) := by decide +kernel
theorem dL_law_23 : decode cL_law 23 = .ok (.if_icmp .gt 587, 3) := by decide +kernel
theorem dL_law_26 : decode cL_law 26 = .ok (.aload_n 0, 1) := by decide +kernel
theorem dL_law_27 : decode cL_law 27 = .ok (.iload_n 3, 1) := by decide +kernel
theorem dL_law_28 : decode cL_law 28 = .ok (.iaload, 1) := by decide +kernel
theorem dL_law_29 : decode cL_law 29 = .ok (.bipush 31, 2) := by decide +kernel
theorem dL_law_31 : decode cL_law 31 = .ok (.iand, 1) := by decide +kernel
theorem dL_law_32 : decode cL_law 32 = .ok (.tableswitch 572 0 17 #[88, 131, 164, 197, 220, 233, 246, 259, 272, 295, 318, 341, 364, 397, 430, 483, 506, 549], 88) := by decide +kernel
theorem dL_law_120 : decode cL_law 120 = .ok (.aload_n 1, 1) := by decide +kernel
theorem dL_law_121 : decode cL_law 121 = .ok (.aload_n 0, 1) := by decide +kernel
theorem dL_law_122 : decode cL_law 122 = .ok (.iload_n 3, 1) := by decide +kernel
theorem dL_law_123 : decode cL_law 123 = .ok (.iconst 1, 1) := by decide +kernel
theorem dL_law_124 : decode cL_law 124 = .ok (.iadd, 1) := by decide +kernel
theorem dL_law_125 : decode cL_law 125 = .ok (.iaload, 1) := by decide +kernel
theorem dL_law_126 : decode cL_law 126 = .ok (.aload_n 0, 1) := by decide +kernel
theorem dL_law_127 : decode cL_law 127 = .ok (.iload_n 3, 1) := by decide +kernel
theorem dL_law_128 : decode cL_law 128 = .ok (.iconst 2, 1) := by decide +kernel
theorem dL_law_129 : decode cL_law 129 = .ok (.iadd, 1) := by decide +kernel
theorem dL_law_130 : decode cL_law 130 = .ok (.iaload, 1) := by decide +kernel
theorem dL_law_131 : decode cL_law 131 = .ok (.aload_n 0, 1) := by decide +kernel
theorem dL_law_132 : decode cL_law 132 = .ok (.iload_n 3, 1) := by decide +kernel
theorem dL_law_133 : decode cL_law 133 = .ok (.iconst 3, 1) := by decide +kernel
theorem dL_law_134 : decode cL_law 134 = .ok (.iadd, 1) := by decide +kernel
theorem dL_law_135 : decode cL_law 135 = .ok (.iaload, 1) := by decide +kernel
theorem dL_law_136 : decode cL_law 136 = .ok (.invokevirtual 13, 3) := by decide +kernel
theorem dL_law_139 : decode cL_law 139 = .ok (.aload_n 2, 1) := by decide +kernel
theorem dL_law_140 : decode cL_law 140 = .ok (.aload_n 0, 1) := by decide +kernel
theorem dL_law_141 : decode cL_law 141 = .ok (.iload_n 3, 1) := by decide +kernel
theorem dL_law_142 : decode cL_law 142 = .ok (.iconst 1, 1) := by decide +kernel
theorem dL_law_143 : decode cL_law 143 = .ok (.iadd, 1) := by decide +kernel
theorem dL_law_144 : decode cL_law 144 = .ok (.iaload, 1) := by decide +kernel
theorem dL_law_145 : decode cL_law 145 = .ok (.aload_n 0, 1) := by decide +kernel
theorem dL_law_146 : decode cL_law 146 = .ok (.iload_n 3, 1) := by decide +kernel
theorem dL_law_147 : decode cL_law 147 = .ok (.iconst 2, 1) := by decide +kernel
