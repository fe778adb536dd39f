/-! DECODED: written by wip/whole/gen/dec.py -/
theorem d_W_law_0 : decode m_W_law.2.1 0 = .ok (.new 8, 3) := by decide +kernel
theorem d_W_law_3 : decode m_W_law.2.1 3 = .ok (.dup, 1) := by decide +kernel
theorem d_W_law_4 : decode m_W_law.2.1 4 = .ok (.invokespecial 45, 3) := by decide +kernel
theorem d_W_law_7 : decode m_W_law.2.1 7 = .ok (.astore_n 1, 1) := by decide +kernel
theorem d_W_law_8 : decode m_W_law.2.1 8 = .ok (.new 46, 3) := by decide +kernel
theorem d_W_law_11 : decode m_W_law.2.1 11 = .ok (.dup, 1) := by decide +kernel
theorem d_W_law_12 : decode m_W_law.2.1 12 = .ok (.invokespecial 48, 3) := by decide +kernel
theorem d_W_law_15 : decode m_W_law.2.1 15 = .ok (.astore_n 2, 1) := by decide +kernel
theorem d_W_law_16 : decode m_W_law.2.1 16 = .ok (.iconst 1, 1) := by decide +kernel
theorem d_W_law_17 : decode m_W_law.2.1 17 = .ok (.newarray .long, 2) := by decide +kernel
theorem d_W_law_19 : decode m_W_law.2.1 19 = .ok (.astore_n 3, 1) := by decide +kernel
theorem d_W_law_20 : decode m_W_law.2.1 20 = .ok (.iconst 0, 1) := by decide +kernel
theorem d_W_law_21 : decode m_W_law.2.1 21 = .ok (.istore 4, 2) := by decide +kernel
theorem d_W_law_23 : decode m_W_law.2.1 23 = .ok (.iload 4, 2) := by decide +kernel
theorem d_W_law_25 : decode m_W_law.2.1 25 = .ok (.aload_n 0, 1) := by decide +kernel
theorem d_W_law_26 : decode m_W_law.2.1 26 = .ok (.arraylength, 1) := by decide +kernel
theorem d_W_law_27 : decode m_W_law.2.1 27 = .ok (.bipush 6, 2) := by decide +kernel
theorem d_W_law_29 : decode m_W_law.2.1 29 = .ok (.isub, 1) := by decide +kernel
theorem d_W_law_30 : decode m_W_law.2.1 30 = .ok (.if_icmp .gt 812, 3) := by decide +kernel
theorem d_W_law_33 : decode m_W_law.2.1 33 = .ok (.aload_n 0, 1) := by decide +kernel
theorem d_W_law_34 : decode m_W_law.2.1 34 = .ok (.iload 4, 2) := by decide +kernel
theorem d_W_law_36 : decode m_W_law.2.1 36 = .ok (.iaload, 1) := by decide +kernel
theorem d_W_law_37 : decode m_W_law.2.1 37 = .ok (.bipush 15, 2) := by decide +kernel
theorem d_W_law_39 : decode m_W_law.2.1 39 = .ok (.iand, 1) := by decide +kernel
theorem d_W_law_40 : decode m_W_law.2.1 40 = .ok (.tableswitch 796 0 15 #[80, 136, 196, 264, 348, 392, 460, 497, 553, 657, 670, 695, 708, 733, 758, 783], 80) := by decide +kernel
theorem d_W_law_120 : decode m_W_law.2.1 120 = .ok (.aload_n 1, 1) := by decide +kernel
theorem d_W_law_121 : decode m_W_law.2.1 121 = .ok (.aload_n 0, 1) := by decide +kernel
theorem d_W_law_122 : decode m_W_law.2.1 122 = .ok (.iload 4, 2) := by decide +kernel
theorem d_W_law_124 : decode m_W_law.2.1 124 = .ok (.iconst 1, 1) := by decide +kernel
theorem d_W_law_125 : decode m_W_law.2.1 125 = .ok (.iadd, 1) := by decide +kernel
theorem d_W_law_126 : decode m_W_law.2.1 126 = .ok (.iaload, 1) := by decide +kernel
theorem d_W_law_127 : decode m_W_law.2.1 127 = .ok (.aload_n 3, 1) := by decide +kernel
theorem d_W_law_128 : decode m_W_law.2.1 128 = .ok (.invokestatic 49, 3) := by decide +kernel
theorem d_W_law_131 : decode m_W_law.2.1 131 = .ok (.istore 5, 2) := by decide +kernel
theorem d_W_law_133 : decode m_W_law.2.1 133 = .ok (.aload_n 2, 1) := by decide +kernel
theorem d_W_law_134 : decode m_W_law.2.1 134 = .ok (.aload_n 0, 1) := by decide +kernel
theorem d_W_law_135 : decode m_W_law.2.1 135 = .ok (.iload 4, 2) := by decide +kernel
theorem d_W_law_137 : decode m_W_law.2.1 137 = .ok (.iconst 1, 1) := by decide +kernel
theorem d_W_law_138 : decode m_W_law.2.1 138 = .ok (.iadd, 1) := by decide +kernel
theorem d_W_law_139 : decode m_W_law.2.1 139 = .ok (.iaload, 1) := by decide +kernel
theorem d_W_law_140 : decode m_W_law.2.1 140 = .ok (.invokevirtual 54, 3) := by decide +kernel
theorem d_W_law_143 : decode m_W_law.2.1 143 = .ok (.istore 6, 2) := by decide +kernel
theorem d_W_law_145 : decode m_W_law.2.1 145 = .ok (.aload_n 2, 1) := by decide +kernel
theorem d_W_law_146 : decode m_W_law.2.1 146 = .ok (.invokevirtual 55, 3) := by decide +kernel
theorem d_W_law_149 : decode m_W_law.2.1 149 = .ok (.iload 5, 2) := by decide +kernel
theorem d_W_law_151 : decode m_W_law.2.1 151 = .ok (.if_icmp .eq 5, 3) := by decide +kernel
theorem d_W_law_154 : decode m_W_law.2.1 154 = .ok (.iconst 0, 1) := by decide +kernel
theorem d_W_law_155 : decode m_W_law.2.1 155 = .ok (.ireturn, 1) := by decide +kernel
theorem d_W_law_156 : decode m_W_law.2.1 156 = .ok (.iload 5, 2) := by decide +kernel
theorem d_W_law_158 : decode m_W_law.2.1 158 = .ok (.ifCond .ne 15, 3) := by decide +kernel
theorem d_W_law_161 : decode m_W_law.2.1 161 = .ok (.aload_n 3, 1) := by decide +kernel
theorem d_W_law_162 : decode m_W_law.2.1 162 = .ok (.iconst 0, 1) := by decide +kernel
theorem d_W_law_163 : decode m_W_law.2.1 163 = .ok (.laload, 1) := by decide +kernel
theorem d_W_law_164 : decode m_W_law.2.1 164 = .ok (.iload 6, 2) := by decide +kernel
theorem d_W_law_166 : decode m_W_law.2.1 166 = .ok (.i2l, 1) := by decide +kernel
theorem d_W_law_167 : decode m_W_law.2.1 167 = .ok (.lcmp, 1) := by decide +kernel
theorem d_W_law_168 : decode m_W_law.2.1 168 = .ok (.ifCond .eq 5, 3) := by decide +kernel
theorem d_W_law_171 : decode m_W_law.2.1 171 = .ok (.iconst 0, 1) := by decide +kernel
theorem d_W_law_172 : decode m_W_law.2.1 172 = .ok (.ireturn, 1) := by decide +kernel
theorem d_W_law_173 : decode m_W_law.2.1 173 = .ok (.goto 663, 3) := by decide +kernel
theorem d_W_law_176 : decode m_W_law.2.1 176 = .ok (.aload_n 1, 1) := by decide +kernel
theorem d_W_law_177 : decode m_W_law.2.1 177 = .ok (.aload_n 0, 1) := by decide +kernel
theorem d_W_law_178 : decode m_W_law.2.1 178 = .ok (.iload 4, 2) := by decide +kernel
theorem d_W_law_180 : decode m_W_law.2.1 180 = .ok (.iconst 1, 1) := by decide +kernel
theorem d_W_law_181 : decode m_W_law.2.1 181 = .ok (.iadd, 1) := by decide +kernel
theorem d_W_law_182 : decode m_W_law.2.1 182 = .ok (.iaload, 1) := by decide +kernel
theorem d_W_law_183 : decode m_W_law.2.1 183 = .ok (.aload_n 0, 1) := by decide +kernel
theorem d_W_law_184 : decode m_W_law.2.1 184 = .ok (.iload 4, 2) := by decide +kernel
theorem d_W_law_186 : decode m_W_law.2.1 186 = .ok (.iconst 2, 1) := by decide +kernel
theorem d_W_law_187 : decode m_W_law.2.1 187 = .ok (.iadd, 1) := by decide +kernel
theorem d_W_law_188 : decode m_W_law.2.1 188 = .ok (.iaload, 1) := by decide +kernel
theorem d_W_law_189 : decode m_W_law.2.1 189 = .ok (.aload_n 0, 1) := by decide +kernel
theorem d_W_law_190 : decode m_W_law.2.1 190 = .ok (.iload 4, 2) := by decide +kernel
theorem d_W_law_192 : decode m_W_law.2.1 192 = .ok (.iconst 3, 1) := by decide +kernel
theorem d_W_law_193 : decode m_W_law.2.1 193 = .ok (.iadd, 1) := by decide +kernel
theorem d_W_law_194 : decode m_W_law.2.1 194 = .ok (.iaload, 1) := by decide +kernel
theorem d_W_law_195 : decode m_W_law.2.1 195 = .ok (.invokestatic 58, 3) := by decide +kernel
theorem d_W_law_198 : decode m_W_law.2.1 198 = .ok (.istore 5, 2) := by decide +kernel
theorem d_W_law_200 : decode m_W_law.2.1 200 = .ok (.aload_n 2, 1) := by decide +kernel
theorem d_W_law_201 : decode m_W_law.2.1 201 = .ok (.aload_n 0, 1) := by decide +kernel
theorem d_W_law_202 : decode m_W_law.2.1 202 = .ok (.iload 4, 2) := by decide +kernel
theorem d_W_law_204 : decode m_W_law.2.1 204 = .ok (.iconst 1, 1) := by decide +kernel
theorem d_W_law_205 : decode m_W_law.2.1 205 = .ok (.iadd, 1) := by decide +kernel
theorem d_W_law_206 : decode m_W_law.2.1 206 = .ok (.iaload, 1) := by decide +kernel
theorem d_W_law_207 : decode m_W_law.2.1 207 = .ok (.aload_n 0, 1) := by decide +kernel
theorem d_W_law_208 : decode m_W_law.2.1 208 = .ok (.iload 4, 2) := by decide +kernel
theorem d_W_law_210 : decode m_W_law.2.1 210 = .ok (.iconst 2, 1) := by decide +kernel
theorem d_W_law_211 : decode m_W_law.2.1 211 = .ok (.iadd, 1) := by decide +kernel
theorem d_W_law_212 : decode m_W_law.2.1 212 = .ok (.iaload, 1) := by decide +kernel
theorem d_W_law_213 : decode m_W_law.2.1 213 = .ok (.aload_n 0, 1) := by decide +kernel
theorem d_W_law_214 : decode m_W_law.2.1 214 = .ok (.iload 4, 2) := by decide +kernel
theorem d_W_law_216 : decode m_W_law.2.1 216 = .ok (.iconst 3, 1) := by decide +kernel
theorem d_W_law_217 : decode m_W_law.2.1 217 = .ok (.iadd, 1) := by decide +kernel
theorem d_W_law_218 : decode m_W_law.2.1 218 = .ok (.iaload, 1) := by decide +kernel
theorem d_W_law_219 : decode m_W_law.2.1 219 = .ok (.invokevirtual 61, 3) := by decide +kernel
theorem d_W_law_222 : decode m_W_law.2.1 222 = .ok (.aload_n 2, 1) := by decide +kernel
theorem d_W_law_223 : decode m_W_law.2.1 223 = .ok (.invokevirtual 55, 3) := by decide +kernel
theorem d_W_law_226 : decode m_W_law.2.1 226 = .ok (.iload 5, 2) := by decide +kernel
theorem d_W_law_228 : decode m_W_law.2.1 228 = .ok (.if_icmp .eq 5, 3) := by decide +kernel
theorem d_W_law_231 : decode m_W_law.2.1 231 = .ok (.iconst 0, 1) := by decide +kernel
theorem d_W_law_232 : decode m_W_law.2.1 232 = .ok (.ireturn, 1) := by decide +kernel
theorem d_W_law_233 : decode m_W_law.2.1 233 = .ok (.goto 603, 3) := by decide +kernel
theorem d_W_law_236 : decode m_W_law.2.1 236 = .ok (.aload_n 1, 1) := by decide +kernel
theorem d_W_law_237 : decode m_W_law.2.1 237 = .ok (.aload_n 0, 1) := by decide +kernel
theorem d_W_law_238 : decode m_W_law.2.1 238 = .ok (.iload 4, 2) := by decide +kernel
theorem d_W_law_240 : decode m_W_law.2.1 240 = .ok (.iconst 1, 1) := by decide +kernel
theorem d_W_law_241 : decode m_W_law.2.1 241 = .ok (.iadd, 1) := by decide +kernel
theorem d_W_law_242 : decode m_W_law.2.1 242 = .ok (.iaload, 1) := by decide +kernel
theorem d_W_law_243 : decode m_W_law.2.1 243 = .ok (.aload_n 0, 1) := by decide +kernel
theorem d_W_law_244 : decode m_W_law.2.1 244 = .ok (.iload 4, 2) := by decide +kernel
theorem d_W_law_246 : decode m_W_law.2.1 246 = .ok (.iconst 2, 1) := by decide +kernel
theorem d_W_law_247 : decode m_W_law.2.1 247 = .ok (.iadd, 1) := by decide +kernel
theorem d_W_law_248 : decode m_W_law.2.1 248 = .ok (.iaload, 1) := by decide +kernel
theorem d_W_law_249 : decode m_W_law.2.1 249 = .ok (.aload_n 3, 1) := by decide +kernel
theorem d_W_law_250 : decode m_W_law.2.1 250 = .ok (.invokestatic 62, 3) := by decide +kernel
theorem d_W_law_253 : decode m_W_law.2.1 253 = .ok (.istore 5, 2) := by decide +kernel
theorem d_W_law_255 : decode m_W_law.2.1 255 = .ok (.aload_n 2, 1) := by decide +kernel
theorem d_W_law_256 : decode m_W_law.2.1 256 = .ok (.aload_n 0, 1) := by decide +kernel
theorem d_W_law_257 : decode m_W_law.2.1 257 = .ok (.iload 4, 2) := by decide +kernel
theorem d_W_law_259 : decode m_W_law.2.1 259 = .ok (.iconst 1, 1) := by decide +kernel
theorem d_W_law_260 : decode m_W_law.2.1 260 = .ok (.iadd, 1) := by decide +kernel
theorem d_W_law_261 : decode m_W_law.2.1 261 = .ok (.iaload, 1) := by decide +kernel
theorem d_W_law_262 : decode m_W_law.2.1 262 = .ok (.aload_n 0, 1) := by decide +kernel
theorem d_W_law_263 : decode m_W_law.2.1 263 = .ok (.iload 4, 2) := by decide +kernel
theorem d_W_law_265 : decode m_W_law.2.1 265 = .ok (.iconst 2, 1) := by decide +kernel
theorem d_W_law_266 : decode m_W_law.2.1 266 = .ok (.iadd, 1) := by decide +kernel
theorem d_W_law_267 : decode m_W_law.2.1 267 = .ok (.iaload, 1) := by decide +kernel
theorem d_W_law_268 : decode m_W_law.2.1 268 = .ok (.invokevirtual 65, 3) := by decide +kernel
theorem d_W_law_271 : decode m_W_law.2.1 271 = .ok (.istore 6, 2) := by decide +kernel
theorem d_W_law_273 : decode m_W_law.2.1 273 = .ok (.aload_n 2, 1) := by decide +kernel
theorem d_W_law_274 : decode m_W_law.2.1 274 = .ok (.invokevirtual 55, 3) := by decide +kernel
theorem d_W_law_277 : decode m_W_law.2.1 277 = .ok (.iload 5, 2) := by decide +kernel
theorem d_W_law_279 : decode m_W_law.2.1 279 = .ok (.if_icmp .eq 5, 3) := by decide +kernel
theorem d_W_law_282 : decode m_W_law.2.1 282 = .ok (.iconst 0, 1) := by decide +kernel
theorem d_W_law_283 : decode m_W_law.2.1 283 = .ok (.ireturn, 1) := by decide +kernel
theorem d_W_law_284 : decode m_W_law.2.1 284 = .ok (.iload 5, 2) := by decide +kernel
theorem d_W_law_286 : decode m_W_law.2.1 286 = .ok (.ifCond .ne 15, 3) := by decide +kernel
theorem d_W_law_289 : decode m_W_law.2.1 289 = .ok (.aload_n 3, 1) := by decide +kernel
theorem d_W_law_290 : decode m_W_law.2.1 290 = .ok (.iconst 0, 1) := by decide +kernel
theorem d_W_law_291 : decode m_W_law.2.1 291 = .ok (.laload, 1) := by decide +kernel
theorem d_W_law_292 : decode m_W_law.2.1 292 = .ok (.iload 6, 2) := by decide +kernel
theorem d_W_law_294 : decode m_W_law.2.1 294 = .ok (.i2l, 1) := by decide +kernel
theorem d_W_law_295 : decode m_W_law.2.1 295 = .ok (.lcmp, 1) := by decide +kernel
theorem d_W_law_296 : decode m_W_law.2.1 296 = .ok (.ifCond .eq 5, 3) := by decide +kernel
theorem d_W_law_299 : decode m_W_law.2.1 299 = .ok (.iconst 0, 1) := by decide +kernel
theorem d_W_law_300 : decode m_W_law.2.1 300 = .ok (.ireturn, 1) := by decide +kernel
theorem d_W_law_301 : decode m_W_law.2.1 301 = .ok (.goto 535, 3) := by decide +kernel
theorem d_W_law_304 : decode m_W_law.2.1 304 = .ok (.aload_n 1, 1) := by decide +kernel
theorem d_W_law_305 : decode m_W_law.2.1 305 = .ok (.aload_n 0, 1) := by decide +kernel
theorem d_W_law_306 : decode m_W_law.2.1 306 = .ok (.iload 4, 2) := by decide +kernel
theorem d_W_law_308 : decode m_W_law.2.1 308 = .ok (.iconst 1, 1) := by decide +kernel
theorem d_W_law_309 : decode m_W_law.2.1 309 = .ok (.iadd, 1) := by decide +kernel
theorem d_W_law_310 : decode m_W_law.2.1 310 = .ok (.iaload, 1) := by decide +kernel
theorem d_W_law_311 : decode m_W_law.2.1 311 = .ok (.aload_n 0, 1) := by decide +kernel
theorem d_W_law_312 : decode m_W_law.2.1 312 = .ok (.iload 4, 2) := by decide +kernel
theorem d_W_law_314 : decode m_W_law.2.1 314 = .ok (.iconst 2, 1) := by decide +kernel
theorem d_W_law_315 : decode m_W_law.2.1 315 = .ok (.iadd, 1) := by decide +kernel
theorem d_W_law_316 : decode m_W_law.2.1 316 = .ok (.iaload, 1) := by decide +kernel
theorem d_W_law_317 : decode m_W_law.2.1 317 = .ok (.aload_n 0, 1) := by decide +kernel
theorem d_W_law_318 : decode m_W_law.2.1 318 = .ok (.iload 4, 2) := by decide +kernel
theorem d_W_law_320 : decode m_W_law.2.1 320 = .ok (.iconst 3, 1) := by decide +kernel
theorem d_W_law_321 : decode m_W_law.2.1 321 = .ok (.iadd, 1) := by decide +kernel
theorem d_W_law_322 : decode m_W_law.2.1 322 = .ok (.iaload, 1) := by decide +kernel
theorem d_W_law_323 : decode m_W_law.2.1 323 = .ok (.aload_n 0, 1) := by decide +kernel
theorem d_W_law_324 : decode m_W_law.2.1 324 = .ok (.iload 4, 2) := by decide +kernel
theorem d_W_law_326 : decode m_W_law.2.1 326 = .ok (.iconst 4, 1) := by decide +kernel
theorem d_W_law_327 : decode m_W_law.2.1 327 = .ok (.iadd, 1) := by decide +kernel
theorem d_W_law_328 : decode m_W_law.2.1 328 = .ok (.iaload, 1) := by decide +kernel
theorem d_W_law_329 : decode m_W_law.2.1 329 = .ok (.aload_n 0, 1) := by decide +kernel
theorem d_W_law_330 : decode m_W_law.2.1 330 = .ok (.iload 4, 2) := by decide +kernel
theorem d_W_law_332 : decode m_W_law.2.1 332 = .ok (.iconst 5, 1) := by decide +kernel
theorem d_W_law_333 : decode m_W_law.2.1 333 = .ok (.iadd, 1) := by decide +kernel
theorem d_W_law_334 : decode m_W_law.2.1 334 = .ok (.iaload, 1) := by decide +kernel
theorem d_W_law_335 : decode m_W_law.2.1 335 = .ok (.invokestatic 66, 3) := by decide +kernel
theorem d_W_law_338 : decode m_W_law.2.1 338 = .ok (.istore 5, 2) := by decide +kernel
theorem d_W_law_340 : decode m_W_law.2.1 340 = .ok (.aload_n 2, 1) := by decide +kernel
theorem d_W_law_341 : decode m_W_law.2.1 341 = .ok (.aload_n 0, 1) := by decide +kernel
theorem d_W_law_342 : decode m_W_law.2.1 342 = .ok (.iload 4, 2) := by decide +kernel
theorem d_W_law_344 : decode m_W_law.2.1 344 = .ok (.iconst 1, 1) := by decide +kernel
theorem d_W_law_345 : decode m_W_law.2.1 345 = .ok (.iadd, 1) := by decide +kernel
theorem d_W_law_346 : decode m_W_law.2.1 346 = .ok (.iaload, 1) := by decide +kernel
theorem d_W_law_347 : decode m_W_law.2.1 347 = .ok (.aload_n 0, 1) := by decide +kernel
theorem d_W_law_348 : decode m_W_law.2.1 348 = .ok (.iload 4, 2) := by decide +kernel
theorem d_W_law_350 : decode m_W_law.2.1 350 = .ok (.iconst 2, 1) := by decide +kernel
theorem d_W_law_351 : decode m_W_law.2.1 351 = .ok (.iadd, 1) := by decide +kernel
theorem d_W_law_352 : decode m_W_law.2.1 352 = .ok (.iaload, 1) := by decide +kernel
theorem d_W_law_353 : decode m_W_law.2.1 353 = .ok (.aload_n 0, 1) := by decide +kernel
theorem d_W_law_354 : decode m_W_law.2.1 354 = .ok (.iload 4, 2) := by decide +kernel
theorem d_W_law_356 : decode m_W_law.2.1 356 = .ok (.iconst 3, 1) := by decide +kernel
theorem d_W_law_357 : decode m_W_law.2.1 357 = .ok (.iadd, 1) := by decide +kernel
theorem d_W_law_358 : decode m_W_law.2.1 358 = .ok (.iaload, 1) := by decide +kernel
theorem d_W_law_359 : decode m_W_law.2.1 359 = .ok (.aload_n 0, 1) := by decide +kernel
theorem d_W_law_360 : decode m_W_law.2.1 360 = .ok (.iload 4, 2) := by decide +kernel
theorem d_W_law_362 : decode m_W_law.2.1 362 = .ok (.iconst 4, 1) := by decide +kernel
theorem d_W_law_363 : decode m_W_law.2.1 363 = .ok (.iadd, 1) := by decide +kernel
theorem d_W_law_364 : decode m_W_law.2.1 364 = .ok (.iaload, 1) := by decide +kernel
theorem d_W_law_365 : decode m_W_law.2.1 365 = .ok (.aload_n 0, 1) := by decide +kernel
theorem d_W_law_366 : decode m_W_law.2.1 366 = .ok (.iload 4, 2) := by decide +kernel
theorem d_W_law_368 : decode m_W_law.2.1 368 = .ok (.iconst 5, 1) := by decide +kernel
theorem d_W_law_369 : decode m_W_law.2.1 369 = .ok (.iadd, 1) := by decide +kernel
theorem d_W_law_370 : decode m_W_law.2.1 370 = .ok (.iaload, 1) := by decide +kernel
theorem d_W_law_371 : decode m_W_law.2.1 371 = .ok (.invokevirtual 69, 3) := by decide +kernel
theorem d_W_law_374 : decode m_W_law.2.1 374 = .ok (.aload_n 2, 1) := by decide +kernel
theorem d_W_law_375 : decode m_W_law.2.1 375 = .ok (.invokevirtual 55, 3) := by decide +kernel
theorem d_W_law_378 : decode m_W_law.2.1 378 = .ok (.iload 5, 2) := by decide +kernel
theorem d_W_law_380 : decode m_W_law.2.1 380 = .ok (.if_icmp .eq 5, 3) := by decide +kernel
theorem d_W_law_383 : decode m_W_law.2.1 383 = .ok (.iconst 0, 1) := by decide +kernel
theorem d_W_law_384 : decode m_W_law.2.1 384 = .ok (.ireturn, 1) := by decide +kernel
theorem d_W_law_385 : decode m_W_law.2.1 385 = .ok (.goto 451, 3) := by decide +kernel
theorem d_W_law_388 : decode m_W_law.2.1 388 = .ok (.aload_n 1, 1) := by decide +kernel
theorem d_W_law_389 : decode m_W_law.2.1 389 = .ok (.aload_n 3, 1) := by decide +kernel
theorem d_W_law_390 : decode m_W_law.2.1 390 = .ok (.invokestatic 70, 3) := by decide +kernel
theorem d_W_law_393 : decode m_W_law.2.1 393 = .ok (.istore 5, 2) := by decide +kernel
theorem d_W_law_395 : decode m_W_law.2.1 395 = .ok (.aload_n 2, 1) := by decide +kernel
theorem d_W_law_396 : decode m_W_law.2.1 396 = .ok (.invokevirtual 73, 3) := by decide +kernel
theorem d_W_law_399 : decode m_W_law.2.1 399 = .ok (.istore 6, 2) := by decide +kernel
theorem d_W_law_401 : decode m_W_law.2.1 401 = .ok (.aload_n 2, 1) := by decide +kernel
theorem d_W_law_402 : decode m_W_law.2.1 402 = .ok (.invokevirtual 55, 3) := by decide +kernel
theorem d_W_law_405 : decode m_W_law.2.1 405 = .ok (.iload 5, 2) := by decide +kernel
theorem d_W_law_407 : decode m_W_law.2.1 407 = .ok (.if_icmp .eq 5, 3) := by decide +kernel
theorem d_W_law_410 : decode m_W_law.2.1 410 = .ok (.iconst 0, 1) := by decide +kernel
theorem d_W_law_411 : decode m_W_law.2.1 411 = .ok (.ireturn, 1) := by decide +kernel
theorem d_W_law_412 : decode m_W_law.2.1 412 = .ok (.iload 5, 2) := by decide +kernel
theorem d_W_law_414 : decode m_W_law.2.1 414 = .ok (.ifCond .ne 15, 3) := by decide +kernel
theorem d_W_law_417 : decode m_W_law.2.1 417 = .ok (.aload_n 3, 1) := by decide +kernel
theorem d_W_law_418 : decode m_W_law.2.1 418 = .ok (.iconst 0, 1) := by decide +kernel
theorem d_W_law_419 : decode m_W_law.2.1 419 = .ok (.laload, 1) := by decide +kernel
theorem d_W_law_420 : decode m_W_law.2.1 420 = .ok (.iload 6, 2) := by decide +kernel
theorem d_W_law_422 : decode m_W_law.2.1 422 = .ok (.i2l, 1) := by decide +kernel
theorem d_W_law_423 : decode m_W_law.2.1 423 = .ok (.lcmp, 1) := by decide +kernel
theorem d_W_law_424 : decode m_W_law.2.1 424 = .ok (.ifCond .eq 5, 3) := by decide +kernel
theorem d_W_law_427 : decode m_W_law.2.1 427 = .ok (.iconst 0, 1) := by decide +kernel
theorem d_W_law_428 : decode m_W_law.2.1 428 = .ok (.ireturn, 1) := by decide +kernel
theorem d_W_law_429 : decode m_W_law.2.1 429 = .ok (.goto 407, 3) := by decide +kernel
theorem d_W_law_432 : decode m_W_law.2.1 432 = .ok (.aload_n 1, 1) := by decide +kernel
theorem d_W_law_433 : decode m_W_law.2.1 433 = .ok (.aload_n 0, 1) := by decide +kernel
theorem d_W_law_434 : decode m_W_law.2.1 434 = .ok (.iload 4, 2) := by decide +kernel
theorem d_W_law_436 : decode m_W_law.2.1 436 = .ok (.iconst 1, 1) := by decide +kernel
theorem d_W_law_437 : decode m_W_law.2.1 437 = .ok (.iadd, 1) := by decide +kernel
theorem d_W_law_438 : decode m_W_law.2.1 438 = .ok (.iaload, 1) := by decide +kernel
theorem d_W_law_439 : decode m_W_law.2.1 439 = .ok (.aload_n 0, 1) := by decide +kernel
theorem d_W_law_440 : decode m_W_law.2.1 440 = .ok (.iload 4, 2) := by decide +kernel
theorem d_W_law_442 : decode m_W_law.2.1 442 = .ok (.iconst 2, 1) := by decide +kernel
theorem d_W_law_443 : decode m_W_law.2.1 443 = .ok (.iadd, 1) := by decide +kernel
theorem d_W_law_444 : decode m_W_law.2.1 444 = .ok (.iaload, 1) := by decide +kernel
theorem d_W_law_445 : decode m_W_law.2.1 445 = .ok (.aload_n 3, 1) := by decide +kernel
theorem d_W_law_446 : decode m_W_law.2.1 446 = .ok (.invokestatic 74, 3) := by decide +kernel
theorem d_W_law_449 : decode m_W_law.2.1 449 = .ok (.istore 5, 2) := by decide +kernel
theorem d_W_law_451 : decode m_W_law.2.1 451 = .ok (.aload_n 2, 1) := by decide +kernel
theorem d_W_law_452 : decode m_W_law.2.1 452 = .ok (.aload_n 0, 1) := by decide +kernel
theorem d_W_law_453 : decode m_W_law.2.1 453 = .ok (.iload 4, 2) := by decide +kernel
theorem d_W_law_455 : decode m_W_law.2.1 455 = .ok (.iconst 1, 1) := by decide +kernel
theorem d_W_law_456 : decode m_W_law.2.1 456 = .ok (.iadd, 1) := by decide +kernel
theorem d_W_law_457 : decode m_W_law.2.1 457 = .ok (.iaload, 1) := by decide +kernel
theorem d_W_law_458 : decode m_W_law.2.1 458 = .ok (.aload_n 0, 1) := by decide +kernel
theorem d_W_law_459 : decode m_W_law.2.1 459 = .ok (.iload 4, 2) := by decide +kernel
theorem d_W_law_461 : decode m_W_law.2.1 461 = .ok (.iconst 2, 1) := by decide +kernel
theorem d_W_law_462 : decode m_W_law.2.1 462 = .ok (.iadd, 1) := by decide +kernel
theorem d_W_law_463 : decode m_W_law.2.1 463 = .ok (.iaload, 1) := by decide +kernel
theorem d_W_law_464 : decode m_W_law.2.1 464 = .ok (.invokevirtual 76, 3) := by decide +kernel
theorem d_W_law_467 : decode m_W_law.2.1 467 = .ok (.istore 6, 2) := by decide +kernel
theorem d_W_law_469 : decode m_W_law.2.1 469 = .ok (.aload_n 2, 1) := by decide +kernel
theorem d_W_law_470 : decode m_W_law.2.1 470 = .ok (.invokevirtual 55, 3) := by decide +kernel
theorem d_W_law_473 : decode m_W_law.2.1 473 = .ok (.iload 5, 2) := by decide +kernel
theorem d_W_law_475 : decode m_W_law.2.1 475 = .ok (.if_icmp .eq 5, 3) := by decide +kernel
theorem d_W_law_478 : decode m_W_law.2.1 478 = .ok (.iconst 0, 1) := by decide +kernel
theorem d_W_law_479 : decode m_W_law.2.1 479 = .ok (.ireturn, 1) := by decide +kernel
theorem d_W_law_480 : decode m_W_law.2.1 480 = .ok (.iload 5, 2) := by decide +kernel
theorem d_W_law_482 : decode m_W_law.2.1 482 = .ok (.ifCond .ne 15, 3) := by decide +kernel
theorem d_W_law_485 : decode m_W_law.2.1 485 = .ok (.aload_n 3, 1) := by decide +kernel
theorem d_W_law_486 : decode m_W_law.2.1 486 = .ok (.iconst 0, 1) := by decide +kernel
theorem d_W_law_487 : decode m_W_law.2.1 487 = .ok (.laload, 1) := by decide +kernel
theorem d_W_law_488 : decode m_W_law.2.1 488 = .ok (.iload 6, 2) := by decide +kernel
theorem d_W_law_490 : decode m_W_law.2.1 490 = .ok (.i2l, 1) := by decide +kernel
theorem d_W_law_491 : decode m_W_law.2.1 491 = .ok (.lcmp, 1) := by decide +kernel
theorem d_W_law_492 : decode m_W_law.2.1 492 = .ok (.ifCond .eq 5, 3) := by decide +kernel
theorem d_W_law_495 : decode m_W_law.2.1 495 = .ok (.iconst 0, 1) := by decide +kernel
theorem d_W_law_496 : decode m_W_law.2.1 496 = .ok (.ireturn, 1) := by decide +kernel
theorem d_W_law_497 : decode m_W_law.2.1 497 = .ok (.goto 339, 3) := by decide +kernel
theorem d_W_law_500 : decode m_W_law.2.1 500 = .ok (.aload_n 1, 1) := by decide +kernel
theorem d_W_law_501 : decode m_W_law.2.1 501 = .ok (.aload_n 0, 1) := by decide +kernel
theorem d_W_law_502 : decode m_W_law.2.1 502 = .ok (.iload 4, 2) := by decide +kernel
theorem d_W_law_504 : decode m_W_law.2.1 504 = .ok (.iconst 1, 1) := by decide +kernel
theorem d_W_law_505 : decode m_W_law.2.1 505 = .ok (.iadd, 1) := by decide +kernel
theorem d_W_law_506 : decode m_W_law.2.1 506 = .ok (.iaload, 1) := by decide +kernel
theorem d_W_law_507 : decode m_W_law.2.1 507 = .ok (.aload_n 0, 1) := by decide +kernel
theorem d_W_law_508 : decode m_W_law.2.1 508 = .ok (.iload 4, 2) := by decide +kernel
theorem d_W_law_510 : decode m_W_law.2.1 510 = .ok (.iconst 2, 1) := by decide +kernel
theorem d_W_law_511 : decode m_W_law.2.1 511 = .ok (.iadd, 1) := by decide +kernel
theorem d_W_law_512 : decode m_W_law.2.1 512 = .ok (.iaload, 1) := by decide +kernel
theorem d_W_law_513 : decode m_W_law.2.1 513 = .ok (.invokevirtual 77, 3) := by decide +kernel
theorem d_W_law_516 : decode m_W_law.2.1 516 = .ok (.aload_n 2, 1) := by decide +kernel
theorem d_W_law_517 : decode m_W_law.2.1 517 = .ok (.aload_n 0, 1) := by decide +kernel
theorem d_W_law_518 : decode m_W_law.2.1 518 = .ok (.iload 4, 2) := by decide +kernel
theorem d_W_law_520 : decode m_W_law.2.1 520 = .ok (.iconst 1, 1) := by decide +kernel
theorem d_W_law_521 : decode m_W_law.2.1 521 = .ok (.iadd, 1) := by decide +kernel
theorem d_W_law_522 : decode m_W_law.2.1 522 = .ok (.iaload, 1) := by decide +kernel
theorem d_W_law_523 : decode m_W_law.2.1 523 = .ok (.aload_n 0, 1) := by decide +kernel
theorem d_W_law_524 : decode m_W_law.2.1 524 = .ok (.iload 4, 2) := by decide +kernel
theorem d_W_law_526 : decode m_W_law.2.1 526 = .ok (.iconst 2, 1) := by decide +kernel
theorem d_W_law_527 : decode m_W_law.2.1 527 = .ok (.iadd, 1) := by decide +kernel
theorem d_W_law_528 : decode m_W_law.2.1 528 = .ok (.iaload, 1) := by decide +kernel
theorem d_W_law_529 : decode m_W_law.2.1 529 = .ok (.invokevirtual 80, 3) := by decide +kernel
theorem d_W_law_532 : decode m_W_law.2.1 532 = .ok (.if_icmp .eq 304, 3) := by decide +kernel
theorem d_W_law_535 : decode m_W_law.2.1 535 = .ok (.iconst 0, 1) := by decide +kernel
theorem d_W_law_536 : decode m_W_law.2.1 536 = .ok (.ireturn, 1) := by decide +kernel
theorem d_W_law_537 : decode m_W_law.2.1 537 = .ok (.aload_n 1, 1) := by decide +kernel
theorem d_W_law_538 : decode m_W_law.2.1 538 = .ok (.aload_n 0, 1) := by decide +kernel
theorem d_W_law_539 : decode m_W_law.2.1 539 = .ok (.iload 4, 2) := by decide +kernel
theorem d_W_law_541 : decode m_W_law.2.1 541 = .ok (.iconst 1, 1) := by decide +kernel
theorem d_W_law_542 : decode m_W_law.2.1 542 = .ok (.iadd, 1) := by decide +kernel
theorem d_W_law_543 : decode m_W_law.2.1 543 = .ok (.iaload, 1) := by decide +kernel
theorem d_W_law_544 : decode m_W_law.2.1 544 = .ok (.aload_n 3, 1) := by decide +kernel
theorem d_W_law_545 : decode m_W_law.2.1 545 = .ok (.invokestatic 81, 3) := by decide +kernel
theorem d_W_law_548 : decode m_W_law.2.1 548 = .ok (.istore 5, 2) := by decide +kernel
theorem d_W_law_550 : decode m_W_law.2.1 550 = .ok (.aload_n 2, 1) := by decide +kernel
theorem d_W_law_551 : decode m_W_law.2.1 551 = .ok (.aload_n 0, 1) := by decide +kernel
theorem d_W_law_552 : decode m_W_law.2.1 552 = .ok (.iload 4, 2) := by decide +kernel
theorem d_W_law_554 : decode m_W_law.2.1 554 = .ok (.iconst 1, 1) := by decide +kernel
theorem d_W_law_555 : decode m_W_law.2.1 555 = .ok (.iadd, 1) := by decide +kernel
theorem d_W_law_556 : decode m_W_law.2.1 556 = .ok (.iaload, 1) := by decide +kernel
theorem d_W_law_557 : decode m_W_law.2.1 557 = .ok (.invokevirtual 83, 3) := by decide +kernel
theorem d_W_law_560 : decode m_W_law.2.1 560 = .ok (.istore 6, 2) := by decide +kernel
theorem d_W_law_562 : decode m_W_law.2.1 562 = .ok (.aload_n 2, 1) := by decide +kernel
theorem d_W_law_563 : decode m_W_law.2.1 563 = .ok (.invokevirtual 55, 3) := by decide +kernel
theorem d_W_law_566 : decode m_W_law.2.1 566 = .ok (.iload 5, 2) := by decide +kernel
theorem d_W_law_568 : decode m_W_law.2.1 568 = .ok (.if_icmp .eq 5, 3) := by decide +kernel
theorem d_W_law_571 : decode m_W_law.2.1 571 = .ok (.iconst 0, 1) := by decide +kernel
theorem d_W_law_572 : decode m_W_law.2.1 572 = .ok (.ireturn, 1) := by decide +kernel
theorem d_W_law_573 : decode m_W_law.2.1 573 = .ok (.iload 5, 2) := by decide +kernel
theorem d_W_law_575 : decode m_W_law.2.1 575 = .ok (.ifCond .ne 15, 3) := by decide +kernel
theorem d_W_law_578 : decode m_W_law.2.1 578 = .ok (.aload_n 3, 1) := by decide +kernel
theorem d_W_law_579 : decode m_W_law.2.1 579 = .ok (.iconst 0, 1) := by decide +kernel
theorem d_W_law_580 : decode m_W_law.2.1 580 = .ok (.laload, 1) := by decide +kernel
theorem d_W_law_581 : decode m_W_law.2.1 581 = .ok (.iload 6, 2) := by decide +kernel
theorem d_W_law_583 : decode m_W_law.2.1 583 = .ok (.i2l, 1) := by decide +kernel
theorem d_W_law_584 : decode m_W_law.2.1 584 = .ok (.lcmp, 1) := by decide +kernel
theorem d_W_law_585 : decode m_W_law.2.1 585 = .ok (.ifCond .eq 5, 3) := by decide +kernel
theorem d_W_law_588 : decode m_W_law.2.1 588 = .ok (.iconst 0, 1) := by decide +kernel
theorem d_W_law_589 : decode m_W_law.2.1 589 = .ok (.ireturn, 1) := by decide +kernel
theorem d_W_law_590 : decode m_W_law.2.1 590 = .ok (.goto 246, 3) := by decide +kernel
theorem d_W_law_593 : decode m_W_law.2.1 593 = .ok (.aload_n 1, 1) := by decide +kernel
theorem d_W_law_594 : decode m_W_law.2.1 594 = .ok (.aload_n 0, 1) := by decide +kernel
theorem d_W_law_595 : decode m_W_law.2.1 595 = .ok (.iload 4, 2) := by decide +kernel
theorem d_W_law_597 : decode m_W_law.2.1 597 = .ok (.iconst 1, 1) := by decide +kernel
theorem d_W_law_598 : decode m_W_law.2.1 598 = .ok (.iadd, 1) := by decide +kernel
theorem d_W_law_599 : decode m_W_law.2.1 599 = .ok (.iaload, 1) := by decide +kernel
theorem d_W_law_600 : decode m_W_law.2.1 600 = .ok (.aload_n 0, 1) := by decide +kernel
theorem d_W_law_601 : decode m_W_law.2.1 601 = .ok (.iload 4, 2) := by decide +kernel
theorem d_W_law_603 : decode m_W_law.2.1 603 = .ok (.iconst 2, 1) := by decide +kernel
theorem d_W_law_604 : decode m_W_law.2.1 604 = .ok (.iadd, 1) := by decide +kernel
theorem d_W_law_605 : decode m_W_law.2.1 605 = .ok (.iaload, 1) := by decide +kernel
theorem d_W_law_606 : decode m_W_law.2.1 606 = .ok (.aload_n 0, 1) := by decide +kernel
theorem d_W_law_607 : decode m_W_law.2.1 607 = .ok (.iload 4, 2) := by decide +kernel
theorem d_W_law_609 : decode m_W_law.2.1 609 = .ok (.iconst 3, 1) := by decide +kernel
theorem d_W_law_610 : decode m_W_law.2.1 610 = .ok (.iadd, 1) := by decide +kernel
theorem d_W_law_611 : decode m_W_law.2.1 611 = .ok (.iaload, 1) := by decide +kernel
theorem d_W_law_612 : decode m_W_law.2.1 612 = .ok (.aload_n 0, 1) := by decide +kernel
theorem d_W_law_613 : decode m_W_law.2.1 613 = .ok (.iload 4, 2) := by decide +kernel
theorem d_W_law_615 : decode m_W_law.2.1 615 = .ok (.iconst 4, 1) := by decide +kernel
theorem d_W_law_616 : decode m_W_law.2.1 616 = .ok (.iadd, 1) := by decide +kernel
theorem d_W_law_617 : decode m_W_law.2.1 617 = .ok (.iaload, 1) := by decide +kernel
theorem d_W_law_618 : decode m_W_law.2.1 618 = .ok (.aload_n 0, 1) := by decide +kernel
theorem d_W_law_619 : decode m_W_law.2.1 619 = .ok (.iload 4, 2) := by decide +kernel
theorem d_W_law_621 : decode m_W_law.2.1 621 = .ok (.iconst 5, 1) := by decide +kernel
theorem d_W_law_622 : decode m_W_law.2.1 622 = .ok (.iadd, 1) := by decide +kernel
theorem d_W_law_623 : decode m_W_law.2.1 623 = .ok (.iaload, 1) := by decide +kernel
theorem d_W_law_624 : decode m_W_law.2.1 624 = .ok (.aload_n 3, 1) := by decide +kernel
theorem d_W_law_625 : decode m_W_law.2.1 625 = .ok (.invokestatic 84, 3) := by decide +kernel
theorem d_W_law_628 : decode m_W_law.2.1 628 = .ok (.istore 5, 2) := by decide +kernel
theorem d_W_law_630 : decode m_W_law.2.1 630 = .ok (.aload_n 2, 1) := by decide +kernel
theorem d_W_law_631 : decode m_W_law.2.1 631 = .ok (.aload_n 0, 1) := by decide +kernel
theorem d_W_law_632 : decode m_W_law.2.1 632 = .ok (.iload 4, 2) := by decide +kernel
theorem d_W_law_634 : decode m_W_law.2.1 634 = .ok (.iconst 1, 1) := by decide +kernel
theorem d_W_law_635 : decode m_W_law.2.1 635 = .ok (.iadd, 1) := by decide +kernel
theorem d_W_law_636 : decode m_W_law.2.1 636 = .ok (.iaload, 1) := by decide +kernel
theorem d_W_law_637 : decode m_W_law.2.1 637 = .ok (.aload_n 0, 1) := by decide +kernel
theorem d_W_law_638 : decode m_W_law.2.1 638 = .ok (.iload 4, 2) := by decide +kernel
theorem d_W_law_640 : decode m_W_law.2.1 640 = .ok (.iconst 2, 1) := by decide +kernel
theorem d_W_law_641 : decode m_W_law.2.1 641 = .ok (.iadd, 1) := by decide +kernel
theorem d_W_law_642 : decode m_W_law.2.1 642 = .ok (.iaload, 1) := by decide +kernel
theorem d_W_law_643 : decode m_W_law.2.1 643 = .ok (.aload_n 0, 1) := by decide +kernel
theorem d_W_law_644 : decode m_W_law.2.1 644 = .ok (.iload 4, 2) := by decide +kernel
theorem d_W_law_646 : decode m_W_law.2.1 646 = .ok (.iconst 3, 1) := by decide +kernel
theorem d_W_law_647 : decode m_W_law.2.1 647 = .ok (.iadd, 1) := by decide +kernel
theorem d_W_law_648 : decode m_W_law.2.1 648 = .ok (.iaload, 1) := by decide +kernel
theorem d_W_law_649 : decode m_W_law.2.1 649 = .ok (.aload_n 0, 1) := by decide +kernel
theorem d_W_law_650 : decode m_W_law.2.1 650 = .ok (.iload 4, 2) := by decide +kernel
theorem d_W_law_652 : decode m_W_law.2.1 652 = .ok (.iconst 4, 1) := by decide +kernel
theorem d_W_law_653 : decode m_W_law.2.1 653 = .ok (.iadd, 1) := by decide +kernel
theorem d_W_law_654 : decode m_W_law.2.1 654 = .ok (.iaload, 1) := by decide +kernel
theorem d_W_law_655 : decode m_W_law.2.1 655 = .ok (.aload_n 0, 1) := by decide +kernel
theorem d_W_law_656 : decode m_W_law.2.1 656 = .ok (.iload 4, 2) := by decide +kernel
theorem d_W_law_658 : decode m_W_law.2.1 658 = .ok (.iconst 5, 1) := by decide +kernel
theorem d_W_law_659 : decode m_W_law.2.1 659 = .ok (.iadd, 1) := by decide +kernel
theorem d_W_law_660 : decode m_W_law.2.1 660 = .ok (.iaload, 1) := by decide +kernel
theorem d_W_law_661 : decode m_W_law.2.1 661 = .ok (.invokevirtual 87, 3) := by decide +kernel
theorem d_W_law_664 : decode m_W_law.2.1 664 = .ok (.istore 6, 2) := by decide +kernel
theorem d_W_law_666 : decode m_W_law.2.1 666 = .ok (.aload_n 2, 1) := by decide +kernel
theorem d_W_law_667 : decode m_W_law.2.1 667 = .ok (.invokevirtual 55, 3) := by decide +kernel
theorem d_W_law_670 : decode m_W_law.2.1 670 = .ok (.iload 5, 2) := by decide +kernel
theorem d_W_law_672 : decode m_W_law.2.1 672 = .ok (.if_icmp .eq 5, 3) := by decide +kernel
theorem d_W_law_675 : decode m_W_law.2.1 675 = .ok (.iconst 0, 1) := by decide +kernel
theorem d_W_law_676 : decode m_W_law.2.1 676 = .ok (.ireturn, 1) := by decide +kernel
theorem d_W_law_677 : decode m_W_law.2.1 677 = .ok (.iload 5, 2) := by decide +kernel
theorem d_W_law_679 : decode m_W_law.2.1 679 = .ok (.ifCond .ne 15, 3) := by decide +kernel
theorem d_W_law_682 : decode m_W_law.2.1 682 = .ok (.aload_n 3, 1) := by decide +kernel
theorem d_W_law_683 : decode m_W_law.2.1 683 = .ok (.iconst 0, 1) := by decide +kernel
theorem d_W_law_684 : decode m_W_law.2.1 684 = .ok (.laload, 1) := by decide +kernel
theorem d_W_law_685 : decode m_W_law.2.1 685 = .ok (.iload 6, 2) := by decide +kernel
theorem d_W_law_687 : decode m_W_law.2.1 687 = .ok (.i2l, 1) := by decide +kernel
theorem d_W_law_688 : decode m_W_law.2.1 688 = .ok (.lcmp, 1) := by decide +kernel
theorem d_W_law_689 : decode m_W_law.2.1 689 = .ok (.ifCond .eq 5, 3) := by decide +kernel
theorem d_W_law_692 : decode m_W_law.2.1 692 = .ok (.iconst 0, 1) := by decide +kernel
theorem d_W_law_693 : decode m_W_law.2.1 693 = .ok (.ireturn, 1) := by decide +kernel
theorem d_W_law_694 : decode m_W_law.2.1 694 = .ok (.goto 142, 3) := by decide +kernel
theorem d_W_law_697 : decode m_W_law.2.1 697 = .ok (.aload_n 1, 1) := by decide +kernel
theorem d_W_law_698 : decode m_W_law.2.1 698 = .ok (.invokevirtual 88, 3) := by decide +kernel
theorem d_W_law_701 : decode m_W_law.2.1 701 = .ok (.aload_n 2, 1) := by decide +kernel
theorem d_W_law_702 : decode m_W_law.2.1 702 = .ok (.invokevirtual 91, 3) := by decide +kernel
theorem d_W_law_705 : decode m_W_law.2.1 705 = .ok (.if_icmp .eq 131, 3) := by decide +kernel
theorem d_W_law_708 : decode m_W_law.2.1 708 = .ok (.iconst 0, 1) := by decide +kernel
theorem d_W_law_709 : decode m_W_law.2.1 709 = .ok (.ireturn, 1) := by decide +kernel
theorem d_W_law_710 : decode m_W_law.2.1 710 = .ok (.aload_n 1, 1) := by decide +kernel
theorem d_W_law_711 : decode m_W_law.2.1 711 = .ok (.aload_n 0, 1) := by decide +kernel
theorem d_W_law_712 : decode m_W_law.2.1 712 = .ok (.iload 4, 2) := by decide +kernel
theorem d_W_law_714 : decode m_W_law.2.1 714 = .ok (.iconst 1, 1) := by decide +kernel
theorem d_W_law_715 : decode m_W_law.2.1 715 = .ok (.iadd, 1) := by decide +kernel
theorem d_W_law_716 : decode m_W_law.2.1 716 = .ok (.iaload, 1) := by decide +kernel
theorem d_W_law_717 : decode m_W_law.2.1 717 = .ok (.invokevirtual 92, 3) := by decide +kernel
theorem d_W_law_720 : decode m_W_law.2.1 720 = .ok (.aload_n 2, 1) := by decide +kernel
theorem d_W_law_721 : decode m_W_law.2.1 721 = .ok (.aload_n 0, 1) := by decide +kernel
theorem d_W_law_722 : decode m_W_law.2.1 722 = .ok (.iload 4, 2) := by decide +kernel
theorem d_W_law_724 : decode m_W_law.2.1 724 = .ok (.iconst 1, 1) := by decide +kernel
theorem d_W_law_725 : decode m_W_law.2.1 725 = .ok (.iadd, 1) := by decide +kernel
theorem d_W_law_726 : decode m_W_law.2.1 726 = .ok (.iaload, 1) := by decide +kernel
theorem d_W_law_727 : decode m_W_law.2.1 727 = .ok (.invokevirtual 95, 3) := by decide +kernel
theorem d_W_law_730 : decode m_W_law.2.1 730 = .ok (.if_icmp .eq 106, 3) := by decide +kernel
theorem d_W_law_733 : decode m_W_law.2.1 733 = .ok (.iconst 0, 1) := by decide +kernel
theorem d_W_law_734 : decode m_W_law.2.1 734 = .ok (.ireturn, 1) := by decide +kernel
theorem d_W_law_735 : decode m_W_law.2.1 735 = .ok (.aload_n 1, 1) := by decide +kernel
theorem d_W_law_736 : decode m_W_law.2.1 736 = .ok (.invokevirtual 96, 3) := by decide +kernel
theorem d_W_law_739 : decode m_W_law.2.1 739 = .ok (.aload_n 2, 1) := by decide +kernel
theorem d_W_law_740 : decode m_W_law.2.1 740 = .ok (.invokevirtual 99, 3) := by decide +kernel
theorem d_W_law_743 : decode m_W_law.2.1 743 = .ok (.if_icmp .eq 93, 3) := by decide +kernel
theorem d_W_law_746 : decode m_W_law.2.1 746 = .ok (.iconst 0, 1) := by decide +kernel
theorem d_W_law_747 : decode m_W_law.2.1 747 = .ok (.ireturn, 1) := by decide +kernel
theorem d_W_law_748 : decode m_W_law.2.1 748 = .ok (.aload_n 1, 1) := by decide +kernel
theorem d_W_law_749 : decode m_W_law.2.1 749 = .ok (.aload_n 0, 1) := by decide +kernel
theorem d_W_law_750 : decode m_W_law.2.1 750 = .ok (.iload 4, 2) := by decide +kernel
theorem d_W_law_752 : decode m_W_law.2.1 752 = .ok (.iconst 1, 1) := by decide +kernel
theorem d_W_law_753 : decode m_W_law.2.1 753 = .ok (.iadd, 1) := by decide +kernel
theorem d_W_law_754 : decode m_W_law.2.1 754 = .ok (.iaload, 1) := by decide +kernel
theorem d_W_law_755 : decode m_W_law.2.1 755 = .ok (.invokevirtual 100, 3) := by decide +kernel
theorem d_W_law_758 : decode m_W_law.2.1 758 = .ok (.aload_n 2, 1) := by decide +kernel
theorem d_W_law_759 : decode m_W_law.2.1 759 = .ok (.aload_n 0, 1) := by decide +kernel
theorem d_W_law_760 : decode m_W_law.2.1 760 = .ok (.iload 4, 2) := by decide +kernel
theorem d_W_law_762 : decode m_W_law.2.1 762 = .ok (.iconst 1, 1) := by decide +kernel
theorem d_W_law_763 : decode m_W_law.2.1 763 = .ok (.iadd, 1) := by decide +kernel
theorem d_W_law_764 : decode m_W_law.2.1 764 = .ok (.iaload, 1) := by decide +kernel
theorem d_W_law_765 : decode m_W_law.2.1 765 = .ok (.invokevirtual 103, 3) := by decide +kernel
theorem d_W_law_768 : decode m_W_law.2.1 768 = .ok (.if_icmp .eq 68, 3) := by decide +kernel
theorem d_W_law_771 : decode m_W_law.2.1 771 = .ok (.iconst 0, 1) := by decide +kernel
theorem d_W_law_772 : decode m_W_law.2.1 772 = .ok (.ireturn, 1) := by decide +kernel
theorem d_W_law_773 : decode m_W_law.2.1 773 = .ok (.aload_n 1, 1) := by decide +kernel
theorem d_W_law_774 : decode m_W_law.2.1 774 = .ok (.aload_n 0, 1) := by decide +kernel
theorem d_W_law_775 : decode m_W_law.2.1 775 = .ok (.iload 4, 2) := by decide +kernel
theorem d_W_law_777 : decode m_W_law.2.1 777 = .ok (.iconst 1, 1) := by decide +kernel
theorem d_W_law_778 : decode m_W_law.2.1 778 = .ok (.iadd, 1) := by decide +kernel
theorem d_W_law_779 : decode m_W_law.2.1 779 = .ok (.iaload, 1) := by decide +kernel
theorem d_W_law_780 : decode m_W_law.2.1 780 = .ok (.invokevirtual 104, 3) := by decide +kernel
theorem d_W_law_783 : decode m_W_law.2.1 783 = .ok (.aload_n 2, 1) := by decide +kernel
theorem d_W_law_784 : decode m_W_law.2.1 784 = .ok (.aload_n 0, 1) := by decide +kernel
theorem d_W_law_785 : decode m_W_law.2.1 785 = .ok (.iload 4, 2) := by decide +kernel
theorem d_W_law_787 : decode m_W_law.2.1 787 = .ok (.iconst 1, 1) := by decide +kernel
theorem d_W_law_788 : decode m_W_law.2.1 788 = .ok (.iadd, 1) := by decide +kernel
theorem d_W_law_789 : decode m_W_law.2.1 789 = .ok (.iaload, 1) := by decide +kernel
theorem d_W_law_790 : decode m_W_law.2.1 790 = .ok (.invokevirtual 107, 3) := by decide +kernel
theorem d_W_law_793 : decode m_W_law.2.1 793 = .ok (.if_icmp .eq 43, 3) := by decide +kernel
theorem d_W_law_796 : decode m_W_law.2.1 796 = .ok (.iconst 0, 1) := by decide +kernel
theorem d_W_law_797 : decode m_W_law.2.1 797 = .ok (.ireturn, 1) := by decide +kernel
theorem d_W_law_798 : decode m_W_law.2.1 798 = .ok (.aload_n 1, 1) := by decide +kernel
theorem d_W_law_799 : decode m_W_law.2.1 799 = .ok (.aload_n 0, 1) := by decide +kernel
theorem d_W_law_800 : decode m_W_law.2.1 800 = .ok (.iload 4, 2) := by decide +kernel
theorem d_W_law_802 : decode m_W_law.2.1 802 = .ok (.iconst 1, 1) := by decide +kernel
theorem d_W_law_803 : decode m_W_law.2.1 803 = .ok (.iadd, 1) := by decide +kernel
theorem d_W_law_804 : decode m_W_law.2.1 804 = .ok (.iaload, 1) := by decide +kernel
theorem d_W_law_805 : decode m_W_law.2.1 805 = .ok (.invokevirtual 108, 3) := by decide +kernel
theorem d_W_law_808 : decode m_W_law.2.1 808 = .ok (.aload_n 2, 1) := by decide +kernel
theorem d_W_law_809 : decode m_W_law.2.1 809 = .ok (.aload_n 0, 1) := by decide +kernel
theorem d_W_law_810 : decode m_W_law.2.1 810 = .ok (.iload 4, 2) := by decide +kernel
theorem d_W_law_812 : decode m_W_law.2.1 812 = .ok (.iconst 1, 1) := by decide +kernel
theorem d_W_law_813 : decode m_W_law.2.1 813 = .ok (.iadd, 1) := by decide +kernel
theorem d_W_law_814 : decode m_W_law.2.1 814 = .ok (.iaload, 1) := by decide +kernel
theorem d_W_law_815 : decode m_W_law.2.1 815 = .ok (.invokevirtual 111, 3) := by decide +kernel
theorem d_W_law_818 : decode m_W_law.2.1 818 = .ok (.if_icmp .eq 18, 3) := by decide +kernel
theorem d_W_law_821 : decode m_W_law.2.1 821 = .ok (.iconst 0, 1) := by decide +kernel
theorem d_W_law_822 : decode m_W_law.2.1 822 = .ok (.ireturn, 1) := by decide +kernel
theorem d_W_law_823 : decode m_W_law.2.1 823 = .ok (.aload_n 1, 1) := by decide +kernel
theorem d_W_law_824 : decode m_W_law.2.1 824 = .ok (.invokevirtual 112, 3) := by decide +kernel
theorem d_W_law_827 : decode m_W_law.2.1 827 = .ok (.aload_n 2, 1) := by decide +kernel
theorem d_W_law_828 : decode m_W_law.2.1 828 = .ok (.invokevirtual 115, 3) := by decide +kernel
theorem d_W_law_831 : decode m_W_law.2.1 831 = .ok (.if_icmp .eq 5, 3) := by decide +kernel
theorem d_W_law_834 : decode m_W_law.2.1 834 = .ok (.iconst 0, 1) := by decide +kernel
theorem d_W_law_835 : decode m_W_law.2.1 835 = .ok (.ireturn, 1) := by decide +kernel
theorem d_W_law_836 : decode m_W_law.2.1 836 = .ok (.iinc 4 6, 3) := by decide +kernel
theorem d_W_law_839 : decode m_W_law.2.1 839 = .ok (.goto (-816), 3) := by decide +kernel
theorem d_W_law_842 : decode m_W_law.2.1 842 = .ok (.iconst 1, 1) := by decide +kernel
theorem d_W_law_843 : decode m_W_law.2.1 843 = .ok (.ireturn, 1) := by decide +kernel
