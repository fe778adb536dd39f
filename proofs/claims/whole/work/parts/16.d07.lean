/-! DECODED: written by wip/whole/gen/dec.py -/
theorem d_M_init_0 : decode m_M_init.2.1 0 = .ok (.aload_n 0, 1) := by decide +kernel
theorem d_M_init_1 : decode m_M_init.2.1 1 = .ok (.invokespecial 1, 3) := by decide +kernel
theorem d_M_init_4 : decode m_M_init.2.1 4 = .ok (.aload_n 0, 1) := by decide +kernel
theorem d_M_init_5 : decode m_M_init.2.1 5 = .ok (.bipush 8, 2) := by decide +kernel
theorem d_M_init_7 : decode m_M_init.2.1 7 = .ok (.newarray .int, 2) := by decide +kernel
theorem d_M_init_9 : decode m_M_init.2.1 9 = .ok (.putfield 7, 3) := by decide +kernel
theorem d_M_init_12 : decode m_M_init.2.1 12 = .ok (.aload_n 0, 1) := by decide +kernel
theorem d_M_init_13 : decode m_M_init.2.1 13 = .ok (.bipush 32, 2) := by decide +kernel
theorem d_M_init_15 : decode m_M_init.2.1 15 = .ok (.newarray .int, 2) := by decide +kernel
theorem d_M_init_17 : decode m_M_init.2.1 17 = .ok (.putfield 13, 3) := by decide +kernel
theorem d_M_init_20 : decode m_M_init.2.1 20 = .ok (.aload_n 0, 1) := by decide +kernel
theorem d_M_init_21 : decode m_M_init.2.1 21 = .ok (.bipush 12, 2) := by decide +kernel
theorem d_M_init_23 : decode m_M_init.2.1 23 = .ok (.newarray .int, 2) := by decide +kernel
theorem d_M_init_25 : decode m_M_init.2.1 25 = .ok (.putfield 16, 3) := by decide +kernel
theorem d_M_init_28 : decode m_M_init.2.1 28 = .ok (.aload_n 0, 1) := by decide +kernel
theorem d_M_init_29 : decode m_M_init.2.1 29 = .ok (.bipush 12, 2) := by decide +kernel
theorem d_M_init_31 : decode m_M_init.2.1 31 = .ok (.newarray .int, 2) := by decide +kernel
theorem d_M_init_33 : decode m_M_init.2.1 33 = .ok (.putfield 19, 3) := by decide +kernel
theorem d_M_init_36 : decode m_M_init.2.1 36 = .ok (.aload_n 0, 1) := by decide +kernel
theorem d_M_init_37 : decode m_M_init.2.1 37 = .ok (.sipush 192, 3) := by decide +kernel
theorem d_M_init_40 : decode m_M_init.2.1 40 = .ok (.newarray .int, 2) := by decide +kernel
theorem d_M_init_42 : decode m_M_init.2.1 42 = .ok (.putfield 22, 3) := by decide +kernel
theorem d_M_init_45 : decode m_M_init.2.1 45 = .ok (.aload_n 0, 1) := by decide +kernel
theorem d_M_init_46 : decode m_M_init.2.1 46 = .ok (.bipush 8, 2) := by decide +kernel
theorem d_M_init_48 : decode m_M_init.2.1 48 = .ok (.newarray .int, 2) := by decide +kernel
theorem d_M_init_50 : decode m_M_init.2.1 50 = .ok (.putfield 25, 3) := by decide +kernel
theorem d_M_init_53 : decode m_M_init.2.1 53 = .ok (.aload_n 0, 1) := by decide +kernel
theorem d_M_init_54 : decode m_M_init.2.1 54 = .ok (.bipush 8, 2) := by decide +kernel
theorem d_M_init_56 : decode m_M_init.2.1 56 = .ok (.newarray .int, 2) := by decide +kernel
theorem d_M_init_58 : decode m_M_init.2.1 58 = .ok (.putfield 28, 3) := by decide +kernel
theorem d_M_init_61 : decode m_M_init.2.1 61 = .ok (.aload_n 0, 1) := by decide +kernel
theorem d_M_init_62 : decode m_M_init.2.1 62 = .ok (.bipush 8, 2) := by decide +kernel
theorem d_M_init_64 : decode m_M_init.2.1 64 = .ok (.newarray .int, 2) := by decide +kernel
theorem d_M_init_66 : decode m_M_init.2.1 66 = .ok (.putfield 31, 3) := by decide +kernel
theorem d_M_init_69 : decode m_M_init.2.1 69 = .ok (.aload_n 0, 1) := by decide +kernel
theorem d_M_init_70 : decode m_M_init.2.1 70 = .ok (.bipush 8, 2) := by decide +kernel
theorem d_M_init_72 : decode m_M_init.2.1 72 = .ok (.newarray .int, 2) := by decide +kernel
theorem d_M_init_74 : decode m_M_init.2.1 74 = .ok (.putfield 34, 3) := by decide +kernel
theorem d_M_init_77 : decode m_M_init.2.1 77 = .ok (.aload_n 0, 1) := by decide +kernel
theorem d_M_init_78 : decode m_M_init.2.1 78 = .ok (.bipush 8, 2) := by decide +kernel
theorem d_M_init_80 : decode m_M_init.2.1 80 = .ok (.newarray .boolean, 2) := by decide +kernel
theorem d_M_init_82 : decode m_M_init.2.1 82 = .ok (.putfield 37, 3) := by decide +kernel
theorem d_M_init_85 : decode m_M_init.2.1 85 = .ok (.aload_n 0, 1) := by decide +kernel
theorem d_M_init_86 : decode m_M_init.2.1 86 = .ok (.bipush 8, 2) := by decide +kernel
theorem d_M_init_88 : decode m_M_init.2.1 88 = .ok (.newarray .boolean, 2) := by decide +kernel
theorem d_M_init_90 : decode m_M_init.2.1 90 = .ok (.putfield 41, 3) := by decide +kernel
theorem d_M_init_93 : decode m_M_init.2.1 93 = .ok (.aload_n 0, 1) := by decide +kernel
theorem d_M_init_94 : decode m_M_init.2.1 94 = .ok (.bipush 8, 2) := by decide +kernel
theorem d_M_init_96 : decode m_M_init.2.1 96 = .ok (.newarray .boolean, 2) := by decide +kernel
theorem d_M_init_98 : decode m_M_init.2.1 98 = .ok (.putfield 44, 3) := by decide +kernel
theorem d_M_init_101 : decode m_M_init.2.1 101 = .ok (.aload_n 0, 1) := by decide +kernel
theorem d_M_init_102 : decode m_M_init.2.1 102 = .ok (.bipush 8, 2) := by decide +kernel
theorem d_M_init_104 : decode m_M_init.2.1 104 = .ok (.newarray .int, 2) := by decide +kernel
theorem d_M_init_106 : decode m_M_init.2.1 106 = .ok (.putfield 47, 3) := by decide +kernel
theorem d_M_init_109 : decode m_M_init.2.1 109 = .ok (.aload_n 0, 1) := by decide +kernel
theorem d_M_init_110 : decode m_M_init.2.1 110 = .ok (.bipush 8, 2) := by decide +kernel
theorem d_M_init_112 : decode m_M_init.2.1 112 = .ok (.newarray .int, 2) := by decide +kernel
theorem d_M_init_114 : decode m_M_init.2.1 114 = .ok (.putfield 50, 3) := by decide +kernel
theorem d_M_init_117 : decode m_M_init.2.1 117 = .ok (.aload_n 0, 1) := by decide +kernel
theorem d_M_init_118 : decode m_M_init.2.1 118 = .ok (.bipush 8, 2) := by decide +kernel
theorem d_M_init_120 : decode m_M_init.2.1 120 = .ok (.newarray .int, 2) := by decide +kernel
theorem d_M_init_122 : decode m_M_init.2.1 122 = .ok (.putfield 53, 3) := by decide +kernel
theorem d_M_init_125 : decode m_M_init.2.1 125 = .ok (.aload_n 0, 1) := by decide +kernel
theorem d_M_init_126 : decode m_M_init.2.1 126 = .ok (.bipush 8, 2) := by decide +kernel
theorem d_M_init_128 : decode m_M_init.2.1 128 = .ok (.newarray .int, 2) := by decide +kernel
theorem d_M_init_130 : decode m_M_init.2.1 130 = .ok (.putfield 56, 3) := by decide +kernel
theorem d_M_init_133 : decode m_M_init.2.1 133 = .ok (.aload_n 0, 1) := by decide +kernel
theorem d_M_init_134 : decode m_M_init.2.1 134 = .ok (.bipush 64, 2) := by decide +kernel
theorem d_M_init_136 : decode m_M_init.2.1 136 = .ok (.newarray .int, 2) := by decide +kernel
theorem d_M_init_138 : decode m_M_init.2.1 138 = .ok (.putfield 59, 3) := by decide +kernel
theorem d_M_init_141 : decode m_M_init.2.1 141 = .ok (.aload_n 0, 1) := by decide +kernel
theorem d_M_init_142 : decode m_M_init.2.1 142 = .ok (.bipush 8, 2) := by decide +kernel
theorem d_M_init_144 : decode m_M_init.2.1 144 = .ok (.newarray .int, 2) := by decide +kernel
theorem d_M_init_146 : decode m_M_init.2.1 146 = .ok (.putfield 62, 3) := by decide +kernel
theorem d_M_init_149 : decode m_M_init.2.1 149 = .ok (.aload_n 0, 1) := by decide +kernel
theorem d_M_init_150 : decode m_M_init.2.1 150 = .ok (.bipush 8, 2) := by decide +kernel
theorem d_M_init_152 : decode m_M_init.2.1 152 = .ok (.newarray .int, 2) := by decide +kernel
theorem d_M_init_154 : decode m_M_init.2.1 154 = .ok (.putfield 65, 3) := by decide +kernel
theorem d_M_init_157 : decode m_M_init.2.1 157 = .ok (.aload_n 0, 1) := by decide +kernel
theorem d_M_init_158 : decode m_M_init.2.1 158 = .ok (.bipush 16, 2) := by decide +kernel
theorem d_M_init_160 : decode m_M_init.2.1 160 = .ok (.newarray .int, 2) := by decide +kernel
theorem d_M_init_162 : decode m_M_init.2.1 162 = .ok (.putfield 68, 3) := by decide +kernel
theorem d_M_init_165 : decode m_M_init.2.1 165 = .ok (.aload_n 0, 1) := by decide +kernel
theorem d_M_init_166 : decode m_M_init.2.1 166 = .ok (.bipush 16, 2) := by decide +kernel
theorem d_M_init_168 : decode m_M_init.2.1 168 = .ok (.newarray .int, 2) := by decide +kernel
theorem d_M_init_170 : decode m_M_init.2.1 170 = .ok (.putfield 71, 3) := by decide +kernel
theorem d_M_init_173 : decode m_M_init.2.1 173 = .ok (.aload_n 0, 1) := by decide +kernel
theorem d_M_init_174 : decode m_M_init.2.1 174 = .ok (.bipush 16, 2) := by decide +kernel
theorem d_M_init_176 : decode m_M_init.2.1 176 = .ok (.newarray .int, 2) := by decide +kernel
theorem d_M_init_178 : decode m_M_init.2.1 178 = .ok (.putfield 74, 3) := by decide +kernel
theorem d_M_init_181 : decode m_M_init.2.1 181 = .ok (.aload_n 0, 1) := by decide +kernel
theorem d_M_init_182 : decode m_M_init.2.1 182 = .ok (.sipush 4096, 3) := by decide +kernel
theorem d_M_init_185 : decode m_M_init.2.1 185 = .ok (.newarray .int, 2) := by decide +kernel
theorem d_M_init_187 : decode m_M_init.2.1 187 = .ok (.putfield 77, 3) := by decide +kernel
theorem d_M_init_190 : decode m_M_init.2.1 190 = .ok (.aload_n 0, 1) := by decide +kernel
theorem d_M_init_191 : decode m_M_init.2.1 191 = .ok (.bipush 8, 2) := by decide +kernel
theorem d_M_init_193 : decode m_M_init.2.1 193 = .ok (.newarray .int, 2) := by decide +kernel
theorem d_M_init_195 : decode m_M_init.2.1 195 = .ok (.putfield 80, 3) := by decide +kernel
theorem d_M_init_198 : decode m_M_init.2.1 198 = .ok (.aload_n 0, 1) := by decide +kernel
theorem d_M_init_199 : decode m_M_init.2.1 199 = .ok (.bipush 8, 2) := by decide +kernel
theorem d_M_init_201 : decode m_M_init.2.1 201 = .ok (.newarray .int, 2) := by decide +kernel
theorem d_M_init_203 : decode m_M_init.2.1 203 = .ok (.putfield 83, 3) := by decide +kernel
theorem d_M_init_206 : decode m_M_init.2.1 206 = .ok (.aload_n 0, 1) := by decide +kernel
theorem d_M_init_207 : decode m_M_init.2.1 207 = .ok (.bipush 8, 2) := by decide +kernel
theorem d_M_init_209 : decode m_M_init.2.1 209 = .ok (.newarray .int, 2) := by decide +kernel
theorem d_M_init_211 : decode m_M_init.2.1 211 = .ok (.putfield 86, 3) := by decide +kernel
theorem d_M_init_214 : decode m_M_init.2.1 214 = .ok (.aload_n 0, 1) := by decide +kernel
theorem d_M_init_215 : decode m_M_init.2.1 215 = .ok (.bipush 64, 2) := by decide +kernel
theorem d_M_init_217 : decode m_M_init.2.1 217 = .ok (.newarray .int, 2) := by decide +kernel
theorem d_M_init_219 : decode m_M_init.2.1 219 = .ok (.putfield 89, 3) := by decide +kernel
theorem d_M_init_222 : decode m_M_init.2.1 222 = .ok (.aload_n 0, 1) := by decide +kernel
theorem d_M_init_223 : decode m_M_init.2.1 223 = .ok (.bipush 8, 2) := by decide +kernel
theorem d_M_init_225 : decode m_M_init.2.1 225 = .ok (.newarray .int, 2) := by decide +kernel
theorem d_M_init_227 : decode m_M_init.2.1 227 = .ok (.putfield 92, 3) := by decide +kernel
theorem d_M_init_230 : decode m_M_init.2.1 230 = .ok (.aload_n 0, 1) := by decide +kernel
theorem d_M_init_231 : decode m_M_init.2.1 231 = .ok (.bipush 21, 2) := by decide +kernel
theorem d_M_init_233 : decode m_M_init.2.1 233 = .ok (.newarray .int, 2) := by decide +kernel
theorem d_M_init_235 : decode m_M_init.2.1 235 = .ok (.putfield 95, 3) := by decide +kernel
theorem d_M_init_238 : decode m_M_init.2.1 238 = .ok (.aload_n 0, 1) := by decide +kernel
theorem d_M_init_239 : decode m_M_init.2.1 239 = .ok (.bipush 21, 2) := by decide +kernel
theorem d_M_init_241 : decode m_M_init.2.1 241 = .ok (.newarray .int, 2) := by decide +kernel
theorem d_M_init_243 : decode m_M_init.2.1 243 = .ok (.putfield 98, 3) := by decide +kernel
theorem d_M_init_246 : decode m_M_init.2.1 246 = .ok (.aload_n 0, 1) := by decide +kernel
theorem d_M_init_247 : decode m_M_init.2.1 247 = .ok (.bipush 21, 2) := by decide +kernel
theorem d_M_init_249 : decode m_M_init.2.1 249 = .ok (.newarray .int, 2) := by decide +kernel
theorem d_M_init_251 : decode m_M_init.2.1 251 = .ok (.putfield 101, 3) := by decide +kernel
theorem d_M_init_254 : decode m_M_init.2.1 254 = .ok (.aload_n 0, 1) := by decide +kernel
theorem d_M_init_255 : decode m_M_init.2.1 255 = .ok (.bipush 21, 2) := by decide +kernel
theorem d_M_init_257 : decode m_M_init.2.1 257 = .ok (.newarray .int, 2) := by decide +kernel
theorem d_M_init_259 : decode m_M_init.2.1 259 = .ok (.putfield 104, 3) := by decide +kernel
theorem d_M_init_262 : decode m_M_init.2.1 262 = .ok (.aload_n 0, 1) := by decide +kernel
theorem d_M_init_263 : decode m_M_init.2.1 263 = .ok (.bipush 21, 2) := by decide +kernel
theorem d_M_init_265 : decode m_M_init.2.1 265 = .ok (.newarray .int, 2) := by decide +kernel
theorem d_M_init_267 : decode m_M_init.2.1 267 = .ok (.putfield 107, 3) := by decide +kernel
theorem d_M_init_270 : decode m_M_init.2.1 270 = .ok (.aload_n 0, 1) := by decide +kernel
theorem d_M_init_271 : decode m_M_init.2.1 271 = .ok (.bipush 21, 2) := by decide +kernel
theorem d_M_init_273 : decode m_M_init.2.1 273 = .ok (.newarray .int, 2) := by decide +kernel
theorem d_M_init_275 : decode m_M_init.2.1 275 = .ok (.putfield 110, 3) := by decide +kernel
theorem d_M_init_278 : decode m_M_init.2.1 278 = .ok (.aload_n 0, 1) := by decide +kernel
theorem d_M_init_279 : decode m_M_init.2.1 279 = .ok (.sipush 5376, 3) := by decide +kernel
theorem d_M_init_282 : decode m_M_init.2.1 282 = .ok (.newarray .int, 2) := by decide +kernel
theorem d_M_init_284 : decode m_M_init.2.1 284 = .ok (.putfield 113, 3) := by decide +kernel
theorem d_M_init_287 : decode m_M_init.2.1 287 = .ok (.iconst 0, 1) := by decide +kernel
theorem d_M_init_288 : decode m_M_init.2.1 288 = .ok (.istore_n 1, 1) := by decide +kernel
theorem d_M_init_289 : decode m_M_init.2.1 289 = .ok (.iload_n 1, 1) := by decide +kernel
theorem d_M_init_290 : decode m_M_init.2.1 290 = .ok (.bipush 8, 2) := by decide +kernel
theorem d_M_init_292 : decode m_M_init.2.1 292 = .ok (.if_icmp .ge 30, 3) := by decide +kernel
theorem d_M_init_295 : decode m_M_init.2.1 295 = .ok (.aload_n 0, 1) := by decide +kernel
theorem d_M_init_296 : decode m_M_init.2.1 296 = .ok (.getfield 47, 3) := by decide +kernel
theorem d_M_init_299 : decode m_M_init.2.1 299 = .ok (.iload_n 1, 1) := by decide +kernel
theorem d_M_init_300 : decode m_M_init.2.1 300 = .ok (.iconst (-1), 1) := by decide +kernel
theorem d_M_init_301 : decode m_M_init.2.1 301 = .ok (.iastore, 1) := by decide +kernel
theorem d_M_init_302 : decode m_M_init.2.1 302 = .ok (.aload_n 0, 1) := by decide +kernel
theorem d_M_init_303 : decode m_M_init.2.1 303 = .ok (.getfield 56, 3) := by decide +kernel
theorem d_M_init_306 : decode m_M_init.2.1 306 = .ok (.iload_n 1, 1) := by decide +kernel
theorem d_M_init_307 : decode m_M_init.2.1 307 = .ok (.iconst (-1), 1) := by decide +kernel
theorem d_M_init_308 : decode m_M_init.2.1 308 = .ok (.iastore, 1) := by decide +kernel
theorem d_M_init_309 : decode m_M_init.2.1 309 = .ok (.aload_n 0, 1) := by decide +kernel
theorem d_M_init_310 : decode m_M_init.2.1 310 = .ok (.getfield 28, 3) := by decide +kernel
theorem d_M_init_313 : decode m_M_init.2.1 313 = .ok (.iload_n 1, 1) := by decide +kernel
theorem d_M_init_314 : decode m_M_init.2.1 314 = .ok (.iconst (-1), 1) := by decide +kernel
theorem d_M_init_315 : decode m_M_init.2.1 315 = .ok (.iastore, 1) := by decide +kernel
theorem d_M_init_316 : decode m_M_init.2.1 316 = .ok (.iinc 1 1, 3) := by decide +kernel
theorem d_M_init_319 : decode m_M_init.2.1 319 = .ok (.goto (-30), 3) := by decide +kernel
theorem d_M_init_322 : decode m_M_init.2.1 322 = .ok (.iconst 0, 1) := by decide +kernel
theorem d_M_init_323 : decode m_M_init.2.1 323 = .ok (.istore_n 1, 1) := by decide +kernel
theorem d_M_init_324 : decode m_M_init.2.1 324 = .ok (.iload_n 1, 1) := by decide +kernel
theorem d_M_init_325 : decode m_M_init.2.1 325 = .ok (.bipush 64, 2) := by decide +kernel
theorem d_M_init_327 : decode m_M_init.2.1 327 = .ok (.if_icmp .ge 16, 3) := by decide +kernel
theorem d_M_init_330 : decode m_M_init.2.1 330 = .ok (.aload_n 0, 1) := by decide +kernel
theorem d_M_init_331 : decode m_M_init.2.1 331 = .ok (.getfield 89, 3) := by decide +kernel
theorem d_M_init_334 : decode m_M_init.2.1 334 = .ok (.iload_n 1, 1) := by decide +kernel
theorem d_M_init_335 : decode m_M_init.2.1 335 = .ok (.iconst (-1), 1) := by decide +kernel
theorem d_M_init_336 : decode m_M_init.2.1 336 = .ok (.iastore, 1) := by decide +kernel
theorem d_M_init_337 : decode m_M_init.2.1 337 = .ok (.iinc 1 1, 3) := by decide +kernel
theorem d_M_init_340 : decode m_M_init.2.1 340 = .ok (.goto (-16), 3) := by decide +kernel
theorem d_M_init_343 : decode m_M_init.2.1 343 = .ok (.return_, 1) := by decide +kernel
theorem d_M_thrown_0 : decode m_M_thrown.2.1 0 = .ok (.aload_n 0, 1) := by decide +kernel
theorem d_M_thrown_1 : decode m_M_thrown.2.1 1 = .ok (.getfield 116, 3) := by decide +kernel
theorem d_M_thrown_4 : decode m_M_thrown.2.1 4 = .ok (.ireturn, 1) := by decide +kernel
theorem d_M_agent_0 : decode m_M_agent.2.1 0 = .ok (.aload_n 0, 1) := by decide +kernel
theorem d_M_agent_1 : decode m_M_agent.2.1 1 = .ok (.iload_n 1, 1) := by decide +kernel
theorem d_M_agent_2 : decode m_M_agent.2.1 2 = .ok (.iconst 2, 1) := by decide +kernel
theorem d_M_agent_3 : decode m_M_agent.2.1 3 = .ok (.iconst 4, 1) := by decide +kernel
theorem d_M_agent_4 : decode m_M_agent.2.1 4 = .ok (.invokestatic 127, 3) := by decide +kernel
theorem d_M_agent_7 : decode m_M_agent.2.1 7 = .ok (.ifCond .ne 7, 3) := by decide +kernel
theorem d_M_agent_10 : decode m_M_agent.2.1 10 = .ok (.iconst 1, 1) := by decide +kernel
theorem d_M_agent_11 : decode m_M_agent.2.1 11 = .ok (.goto 24, 3) := by decide +kernel
theorem d_M_agent_14 : decode m_M_agent.2.1 14 = .ok (.aload_n 0, 1) := by decide +kernel
theorem d_M_agent_15 : decode m_M_agent.2.1 15 = .ok (.getfield 135, 3) := by decide +kernel
theorem d_M_agent_18 : decode m_M_agent.2.1 18 = .ok (.ifCond .ne 12, 3) := by decide +kernel
theorem d_M_agent_21 : decode m_M_agent.2.1 21 = .ok (.aload_n 0, 1) := by decide +kernel
theorem d_M_agent_22 : decode m_M_agent.2.1 22 = .ok (.getfield 124, 3) := by decide +kernel
theorem d_M_agent_25 : decode m_M_agent.2.1 25 = .ok (.bipush 8, 2) := by decide +kernel
theorem d_M_agent_27 : decode m_M_agent.2.1 27 = .ok (.if_icmp .ne 7, 3) := by decide +kernel
theorem d_M_agent_30 : decode m_M_agent.2.1 30 = .ok (.iconst 2, 1) := by decide +kernel
theorem d_M_agent_31 : decode m_M_agent.2.1 31 = .ok (.goto 4, 3) := by decide +kernel
theorem d_M_agent_34 : decode m_M_agent.2.1 34 = .ok (.iconst 0, 1) := by decide +kernel
theorem d_M_agent_35 : decode m_M_agent.2.1 35 = .ok (.putfield 116, 3) := by decide +kernel
theorem d_M_agent_38 : decode m_M_agent.2.1 38 = .ok (.aload_n 0, 1) := by decide +kernel
theorem d_M_agent_39 : decode m_M_agent.2.1 39 = .ok (.getfield 116, 3) := by decide +kernel
theorem d_M_agent_42 : decode m_M_agent.2.1 42 = .ok (.ifCond .le 5, 3) := by decide +kernel
theorem d_M_agent_45 : decode m_M_agent.2.1 45 = .ok (.iconst 0, 1) := by decide +kernel
theorem d_M_agent_46 : decode m_M_agent.2.1 46 = .ok (.ireturn, 1) := by decide +kernel
theorem d_M_agent_47 : decode m_M_agent.2.1 47 = .ok (.aload_n 0, 1) := by decide +kernel
theorem d_M_agent_48 : decode m_M_agent.2.1 48 = .ok (.getfield 7, 3) := by decide +kernel
theorem d_M_agent_51 : decode m_M_agent.2.1 51 = .ok (.aload_n 0, 1) := by decide +kernel
theorem d_M_agent_52 : decode m_M_agent.2.1 52 = .ok (.getfield 124, 3) := by decide +kernel
theorem d_M_agent_55 : decode m_M_agent.2.1 55 = .ok (.iload_n 1, 1) := by decide +kernel
theorem d_M_agent_56 : decode m_M_agent.2.1 56 = .ok (.iastore, 1) := by decide +kernel
theorem d_M_agent_57 : decode m_M_agent.2.1 57 = .ok (.aload_n 0, 1) := by decide +kernel
theorem d_M_agent_58 : decode m_M_agent.2.1 58 = .ok (.dup, 1) := by decide +kernel
theorem d_M_agent_59 : decode m_M_agent.2.1 59 = .ok (.getfield 124, 3) := by decide +kernel
theorem d_M_agent_62 : decode m_M_agent.2.1 62 = .ok (.iconst 1, 1) := by decide +kernel
theorem d_M_agent_63 : decode m_M_agent.2.1 63 = .ok (.iadd, 1) := by decide +kernel
theorem d_M_agent_64 : decode m_M_agent.2.1 64 = .ok (.putfield 124, 3) := by decide +kernel
theorem d_M_agent_67 : decode m_M_agent.2.1 67 = .ok (.aload_n 0, 1) := by decide +kernel
theorem d_M_agent_68 : decode m_M_agent.2.1 68 = .ok (.getfield 124, 3) := by decide +kernel
theorem d_M_agent_71 : decode m_M_agent.2.1 71 = .ok (.iconst 1, 1) := by decide +kernel
theorem d_M_agent_72 : decode m_M_agent.2.1 72 = .ok (.isub, 1) := by decide +kernel
theorem d_M_agent_73 : decode m_M_agent.2.1 73 = .ok (.ireturn, 1) := by decide +kernel
theorem d_M_within_0 : decode m_M_within.2.1 0 = .ok (.iload_n 0, 1) := by decide +kernel
theorem d_M_within_1 : decode m_M_within.2.1 1 = .ok (.iload_n 1, 1) := by decide +kernel
theorem d_M_within_2 : decode m_M_within.2.1 2 = .ok (.if_icmp .lt 12, 3) := by decide +kernel
theorem d_M_within_5 : decode m_M_within.2.1 5 = .ok (.iload_n 0, 1) := by decide +kernel
theorem d_M_within_6 : decode m_M_within.2.1 6 = .ok (.iload_n 2, 1) := by decide +kernel
theorem d_M_within_7 : decode m_M_within.2.1 7 = .ok (.if_icmp .gt 7, 3) := by decide +kernel
theorem d_M_within_10 : decode m_M_within.2.1 10 = .ok (.iconst 1, 1) := by decide +kernel
theorem d_M_within_11 : decode m_M_within.2.1 11 = .ok (.goto 4, 3) := by decide +kernel
theorem d_M_within_14 : decode m_M_within.2.1 14 = .ok (.iconst 0, 1) := by decide +kernel
theorem d_M_within_15 : decode m_M_within.2.1 15 = .ok (.ireturn, 1) := by decide +kernel
theorem d_M_own_0 : decode m_M_own.2.1 0 = .ok (.aload_n 0, 1) := by decide +kernel
theorem d_M_own_1 : decode m_M_own.2.1 1 = .ok (.aload_n 0, 1) := by decide +kernel
theorem d_M_own_2 : decode m_M_own.2.1 2 = .ok (.iload_n 1, 1) := by decide +kernel
theorem d_M_own_3 : decode m_M_own.2.1 3 = .ok (.iload_n 2, 1) := by decide +kernel
theorem d_M_own_4 : decode m_M_own.2.1 4 = .ok (.invokevirtual 139, 3) := by decide +kernel
theorem d_M_own_7 : decode m_M_own.2.1 7 = .ok (.ifCond .eq 10, 3) := by decide +kernel
theorem d_M_own_10 : decode m_M_own.2.1 10 = .ok (.iload_n 3, 1) := by decide +kernel
theorem d_M_own_11 : decode m_M_own.2.1 11 = .ok (.invokestatic 142, 3) := by decide +kernel
theorem d_M_own_14 : decode m_M_own.2.1 14 = .ok (.ifCond .ne 7, 3) := by decide +kernel
theorem d_M_own_17 : decode m_M_own.2.1 17 = .ok (.iconst 1, 1) := by decide +kernel
theorem d_M_own_18 : decode m_M_own.2.1 18 = .ok (.goto 15, 3) := by decide +kernel
theorem d_M_own_21 : decode m_M_own.2.1 21 = .ok (.aload_n 0, 1) := by decide +kernel
theorem d_M_own_22 : decode m_M_own.2.1 22 = .ok (.getfield 135, 3) := by decide +kernel
theorem d_M_own_25 : decode m_M_own.2.1 25 = .ok (.ifCond .eq 7, 3) := by decide +kernel
theorem d_M_own_28 : decode m_M_own.2.1 28 = .ok (.iconst 2, 1) := by decide +kernel
theorem d_M_own_29 : decode m_M_own.2.1 29 = .ok (.goto 4, 3) := by decide +kernel
theorem d_M_own_32 : decode m_M_own.2.1 32 = .ok (.iconst 0, 1) := by decide +kernel
theorem d_M_own_33 : decode m_M_own.2.1 33 = .ok (.putfield 116, 3) := by decide +kernel
theorem d_M_own_36 : decode m_M_own.2.1 36 = .ok (.aload_n 0, 1) := by decide +kernel
theorem d_M_own_37 : decode m_M_own.2.1 37 = .ok (.getfield 116, 3) := by decide +kernel
theorem d_M_own_40 : decode m_M_own.2.1 40 = .ok (.ifCond .ne 25, 3) := by decide +kernel
theorem d_M_own_43 : decode m_M_own.2.1 43 = .ok (.aload_n 0, 1) := by decide +kernel
theorem d_M_own_44 : decode m_M_own.2.1 44 = .ok (.getfield 13, 3) := by decide +kernel
theorem d_M_own_47 : decode m_M_own.2.1 47 = .ok (.iconst 4, 1) := by decide +kernel
theorem d_M_own_48 : decode m_M_own.2.1 48 = .ok (.iload_n 1, 1) := by decide +kernel
theorem d_M_own_49 : decode m_M_own.2.1 49 = .ok (.imul, 1) := by decide +kernel
theorem d_M_own_50 : decode m_M_own.2.1 50 = .ok (.iload_n 2, 1) := by decide +kernel
theorem d_M_own_51 : decode m_M_own.2.1 51 = .ok (.iadd, 1) := by decide +kernel
theorem d_M_own_52 : decode m_M_own.2.1 52 = .ok (.iload_n 3, 1) := by decide +kernel
theorem d_M_own_53 : decode m_M_own.2.1 53 = .ok (.bipush (-2), 2) := by decide +kernel
theorem d_M_own_55 : decode m_M_own.2.1 55 = .ok (.if_icmp .ne 8, 3) := by decide +kernel
theorem d_M_own_58 : decode m_M_own.2.1 58 = .ok (.ldc 145, 2) := by decide +kernel
theorem d_M_own_60 : decode m_M_own.2.1 60 = .ok (.goto 4, 3) := by decide +kernel
theorem d_M_own_63 : decode m_M_own.2.1 63 = .ok (.iload_n 3, 1) := by decide +kernel
theorem d_M_own_64 : decode m_M_own.2.1 64 = .ok (.iastore, 1) := by decide +kernel
theorem d_M_own_65 : decode m_M_own.2.1 65 = .ok (.return_, 1) := by decide +kernel
theorem d_M_isValue_0 : decode m_M_isValue.2.1 0 = .ok (.aload_n 0, 1) := by decide +kernel
theorem d_M_isValue_1 : decode m_M_isValue.2.1 1 = .ok (.iload_n 1, 1) := by decide +kernel
theorem d_M_isValue_2 : decode m_M_isValue.2.1 2 = .ok (.invokevirtual 131, 3) := by decide +kernel
theorem d_M_isValue_5 : decode m_M_isValue.2.1 5 = .ok (.ifCond .eq 23, 3) := by decide +kernel
theorem d_M_isValue_8 : decode m_M_isValue.2.1 8 = .ok (.iload_n 2, 1) := by decide +kernel
theorem d_M_isValue_9 : decode m_M_isValue.2.1 9 = .ok (.iconst 0, 1) := by decide +kernel
theorem d_M_isValue_10 : decode m_M_isValue.2.1 10 = .ok (.aload_n 0, 1) := by decide +kernel
theorem d_M_isValue_11 : decode m_M_isValue.2.1 11 = .ok (.getfield 7, 3) := by decide +kernel
theorem d_M_isValue_14 : decode m_M_isValue.2.1 14 = .ok (.iload_n 1, 1) := by decide +kernel
theorem d_M_isValue_15 : decode m_M_isValue.2.1 15 = .ok (.iaload, 1) := by decide +kernel
theorem d_M_isValue_16 : decode m_M_isValue.2.1 16 = .ok (.iconst 1, 1) := by decide +kernel
theorem d_M_isValue_17 : decode m_M_isValue.2.1 17 = .ok (.isub, 1) := by decide +kernel
theorem d_M_isValue_18 : decode m_M_isValue.2.1 18 = .ok (.invokestatic 127, 3) := by decide +kernel
theorem d_M_isValue_21 : decode m_M_isValue.2.1 21 = .ok (.ifCond .eq 7, 3) := by decide +kernel
theorem d_M_isValue_24 : decode m_M_isValue.2.1 24 = .ok (.iconst 1, 1) := by decide +kernel
theorem d_M_isValue_25 : decode m_M_isValue.2.1 25 = .ok (.goto 4, 3) := by decide +kernel
theorem d_M_isValue_28 : decode m_M_isValue.2.1 28 = .ok (.iconst 0, 1) := by decide +kernel
theorem d_M_isValue_29 : decode m_M_isValue.2.1 29 = .ok (.ireturn, 1) := by decide +kernel
theorem d_M_isAgent_0 : decode m_M_isAgent.2.1 0 = .ok (.iload_n 1, 1) := by decide +kernel
theorem d_M_isAgent_1 : decode m_M_isAgent.2.1 1 = .ok (.iconst 0, 1) := by decide +kernel
theorem d_M_isAgent_2 : decode m_M_isAgent.2.1 2 = .ok (.aload_n 0, 1) := by decide +kernel
theorem d_M_isAgent_3 : decode m_M_isAgent.2.1 3 = .ok (.getfield 124, 3) := by decide +kernel
theorem d_M_isAgent_6 : decode m_M_isAgent.2.1 6 = .ok (.iconst 1, 1) := by decide +kernel
theorem d_M_isAgent_7 : decode m_M_isAgent.2.1 7 = .ok (.isub, 1) := by decide +kernel
theorem d_M_isAgent_8 : decode m_M_isAgent.2.1 8 = .ok (.invokestatic 127, 3) := by decide +kernel
theorem d_M_isAgent_11 : decode m_M_isAgent.2.1 11 = .ok (.ireturn, 1) := by decide +kernel
theorem d_M_isCost_0 : decode m_M_isCost.2.1 0 = .ok (.iload_n 0, 1) := by decide +kernel
theorem d_M_isCost_1 : decode m_M_isCost.2.1 1 = .ok (.iconst 0, 1) := by decide +kernel
theorem d_M_isCost_2 : decode m_M_isCost.2.1 2 = .ok (.sipush 999, 3) := by decide +kernel
theorem d_M_isCost_5 : decode m_M_isCost.2.1 5 = .ok (.invokestatic 127, 3) := by decide +kernel
theorem d_M_isCost_8 : decode m_M_isCost.2.1 8 = .ok (.ifCond .ne 9, 3) := by decide +kernel
theorem d_M_isCost_11 : decode m_M_isCost.2.1 11 = .ok (.iload_n 0, 1) := by decide +kernel
theorem d_M_isCost_12 : decode m_M_isCost.2.1 12 = .ok (.bipush (-2), 2) := by decide +kernel
theorem d_M_isCost_14 : decode m_M_isCost.2.1 14 = .ok (.if_icmp .ne 7, 3) := by decide +kernel
theorem d_M_isCost_17 : decode m_M_isCost.2.1 17 = .ok (.iconst 1, 1) := by decide +kernel
theorem d_M_isCost_18 : decode m_M_isCost.2.1 18 = .ok (.goto 4, 3) := by decide +kernel
theorem d_M_isCost_21 : decode m_M_isCost.2.1 21 = .ok (.iconst 0, 1) := by decide +kernel
theorem d_M_isCost_22 : decode m_M_isCost.2.1 22 = .ok (.ireturn, 1) := by decide +kernel
theorem d_M_pair_0 : decode m_M_pair.2.1 0 = .ok (.aload_n 0, 1) := by decide +kernel
theorem d_M_pair_1 : decode m_M_pair.2.1 1 = .ok (.aload_n 0, 1) := by decide +kernel
theorem d_M_pair_2 : decode m_M_pair.2.1 2 = .ok (.iload_n 1, 1) := by decide +kernel
theorem d_M_pair_3 : decode m_M_pair.2.1 3 = .ok (.invokevirtual 131, 3) := by decide +kernel
theorem d_M_pair_6 : decode m_M_pair.2.1 6 = .ok (.ifCond .eq 16, 3) := by decide +kernel
theorem d_M_pair_9 : decode m_M_pair.2.1 9 = .ok (.aload_n 0, 1) := by decide +kernel
theorem d_M_pair_10 : decode m_M_pair.2.1 10 = .ok (.iload_n 2, 1) := by decide +kernel
theorem d_M_pair_11 : decode m_M_pair.2.1 11 = .ok (.invokevirtual 131, 3) := by decide +kernel
theorem d_M_pair_14 : decode m_M_pair.2.1 14 = .ok (.ifCond .eq 8, 3) := by decide +kernel
theorem d_M_pair_17 : decode m_M_pair.2.1 17 = .ok (.iload_n 1, 1) := by decide +kernel
theorem d_M_pair_18 : decode m_M_pair.2.1 18 = .ok (.iload_n 2, 1) := by decide +kernel
theorem d_M_pair_19 : decode m_M_pair.2.1 19 = .ok (.if_icmp .ne 7, 3) := by decide +kernel
theorem d_M_pair_22 : decode m_M_pair.2.1 22 = .ok (.iconst 1, 1) := by decide +kernel
theorem d_M_pair_23 : decode m_M_pair.2.1 23 = .ok (.goto 33, 3) := by decide +kernel
theorem d_M_pair_26 : decode m_M_pair.2.1 26 = .ok (.aload_n 0, 1) := by decide +kernel
theorem d_M_pair_27 : decode m_M_pair.2.1 27 = .ok (.getfield 135, 3) := by decide +kernel
theorem d_M_pair_30 : decode m_M_pair.2.1 30 = .ok (.ifCond .ne 21, 3) := by decide +kernel
theorem d_M_pair_33 : decode m_M_pair.2.1 33 = .ok (.aload_n 0, 1) := by decide +kernel
theorem d_M_pair_34 : decode m_M_pair.2.1 34 = .ok (.iload_n 1, 1) := by decide +kernel
theorem d_M_pair_35 : decode m_M_pair.2.1 35 = .ok (.iload_n 2, 1) := by decide +kernel
theorem d_M_pair_36 : decode m_M_pair.2.1 36 = .ok (.invokevirtual 149, 3) := by decide +kernel
theorem d_M_pair_39 : decode m_M_pair.2.1 39 = .ok (.ifCond .ge 12, 3) := by decide +kernel
theorem d_M_pair_42 : decode m_M_pair.2.1 42 = .ok (.aload_n 0, 1) := by decide +kernel
theorem d_M_pair_43 : decode m_M_pair.2.1 43 = .ok (.getfield 146, 3) := by decide +kernel
theorem d_M_pair_46 : decode m_M_pair.2.1 46 = .ok (.bipush 12, 2) := by decide +kernel
theorem d_M_pair_48 : decode m_M_pair.2.1 48 = .ok (.if_icmp .ne 7, 3) := by decide +kernel
theorem d_M_pair_51 : decode m_M_pair.2.1 51 = .ok (.iconst 2, 1) := by decide +kernel
theorem d_M_pair_52 : decode m_M_pair.2.1 52 = .ok (.goto 4, 3) := by decide +kernel
theorem d_M_pair_55 : decode m_M_pair.2.1 55 = .ok (.iconst 0, 1) := by decide +kernel
theorem d_M_pair_56 : decode m_M_pair.2.1 56 = .ok (.putfield 116, 3) := by decide +kernel
theorem d_M_pair_59 : decode m_M_pair.2.1 59 = .ok (.aload_n 0, 1) := by decide +kernel
theorem d_M_pair_60 : decode m_M_pair.2.1 60 = .ok (.getfield 116, 3) := by decide +kernel
theorem d_M_pair_63 : decode m_M_pair.2.1 63 = .ok (.ifCond .le 5, 3) := by decide +kernel
theorem d_M_pair_66 : decode m_M_pair.2.1 66 = .ok (.iconst 0, 1) := by decide +kernel
theorem d_M_pair_67 : decode m_M_pair.2.1 67 = .ok (.ireturn, 1) := by decide +kernel
theorem d_M_pair_68 : decode m_M_pair.2.1 68 = .ok (.aload_n 0, 1) := by decide +kernel
theorem d_M_pair_69 : decode m_M_pair.2.1 69 = .ok (.getfield 16, 3) := by decide +kernel
theorem d_M_pair_72 : decode m_M_pair.2.1 72 = .ok (.aload_n 0, 1) := by decide +kernel
theorem d_M_pair_73 : decode m_M_pair.2.1 73 = .ok (.getfield 146, 3) := by decide +kernel
theorem d_M_pair_76 : decode m_M_pair.2.1 76 = .ok (.iload_n 1, 1) := by decide +kernel
theorem d_M_pair_77 : decode m_M_pair.2.1 77 = .ok (.iastore, 1) := by decide +kernel
theorem d_M_pair_78 : decode m_M_pair.2.1 78 = .ok (.aload_n 0, 1) := by decide +kernel
theorem d_M_pair_79 : decode m_M_pair.2.1 79 = .ok (.getfield 19, 3) := by decide +kernel
theorem d_M_pair_82 : decode m_M_pair.2.1 82 = .ok (.aload_n 0, 1) := by decide +kernel
theorem d_M_pair_83 : decode m_M_pair.2.1 83 = .ok (.getfield 146, 3) := by decide +kernel
theorem d_M_pair_86 : decode m_M_pair.2.1 86 = .ok (.iload_n 2, 1) := by decide +kernel
theorem d_M_pair_87 : decode m_M_pair.2.1 87 = .ok (.iastore, 1) := by decide +kernel
theorem d_M_pair_88 : decode m_M_pair.2.1 88 = .ok (.aload_n 0, 1) := by decide +kernel
theorem d_M_pair_89 : decode m_M_pair.2.1 89 = .ok (.dup, 1) := by decide +kernel
theorem d_M_pair_90 : decode m_M_pair.2.1 90 = .ok (.getfield 146, 3) := by decide +kernel
theorem d_M_pair_93 : decode m_M_pair.2.1 93 = .ok (.iconst 1, 1) := by decide +kernel
theorem d_M_pair_94 : decode m_M_pair.2.1 94 = .ok (.iadd, 1) := by decide +kernel
theorem d_M_pair_95 : decode m_M_pair.2.1 95 = .ok (.putfield 146, 3) := by decide +kernel
theorem d_M_pair_98 : decode m_M_pair.2.1 98 = .ok (.aload_n 0, 1) := by decide +kernel
theorem d_M_pair_99 : decode m_M_pair.2.1 99 = .ok (.getfield 25, 3) := by decide +kernel
theorem d_M_pair_102 : decode m_M_pair.2.1 102 = .ok (.iload_n 1, 1) := by decide +kernel
theorem d_M_pair_103 : decode m_M_pair.2.1 103 = .ok (.aload_n 0, 1) := by decide +kernel
theorem d_M_pair_104 : decode m_M_pair.2.1 104 = .ok (.getfield 25, 3) := by decide +kernel
theorem d_M_pair_107 : decode m_M_pair.2.1 107 = .ok (.iload_n 1, 1) := by decide +kernel
theorem d_M_pair_108 : decode m_M_pair.2.1 108 = .ok (.iaload, 1) := by decide +kernel
theorem d_M_pair_109 : decode m_M_pair.2.1 109 = .ok (.iconst 1, 1) := by decide +kernel
theorem d_M_pair_110 : decode m_M_pair.2.1 110 = .ok (.iload_n 2, 1) := by decide +kernel
theorem d_M_pair_111 : decode m_M_pair.2.1 111 = .ok (.ishl, 1) := by decide +kernel
theorem d_M_pair_112 : decode m_M_pair.2.1 112 = .ok (.ior, 1) := by decide +kernel
theorem d_M_pair_113 : decode m_M_pair.2.1 113 = .ok (.iastore, 1) := by decide +kernel
theorem d_M_pair_114 : decode m_M_pair.2.1 114 = .ok (.aload_n 0, 1) := by decide +kernel
theorem d_M_pair_115 : decode m_M_pair.2.1 115 = .ok (.getfield 25, 3) := by decide +kernel
theorem d_M_pair_118 : decode m_M_pair.2.1 118 = .ok (.iload_n 2, 1) := by decide +kernel
theorem d_M_pair_119 : decode m_M_pair.2.1 119 = .ok (.aload_n 0, 1) := by decide +kernel
theorem d_M_pair_120 : decode m_M_pair.2.1 120 = .ok (.getfield 25, 3) := by decide +kernel
theorem d_M_pair_123 : decode m_M_pair.2.1 123 = .ok (.iload_n 2, 1) := by decide +kernel
theorem d_M_pair_124 : decode m_M_pair.2.1 124 = .ok (.iaload, 1) := by decide +kernel
theorem d_M_pair_125 : decode m_M_pair.2.1 125 = .ok (.iconst 1, 1) := by decide +kernel
theorem d_M_pair_126 : decode m_M_pair.2.1 126 = .ok (.iload_n 1, 1) := by decide +kernel
theorem d_M_pair_127 : decode m_M_pair.2.1 127 = .ok (.ishl, 1) := by decide +kernel
theorem d_M_pair_128 : decode m_M_pair.2.1 128 = .ok (.ior, 1) := by decide +kernel
theorem d_M_pair_129 : decode m_M_pair.2.1 129 = .ok (.iastore, 1) := by decide +kernel
theorem d_M_pair_130 : decode m_M_pair.2.1 130 = .ok (.aload_n 0, 1) := by decide +kernel
theorem d_M_pair_131 : decode m_M_pair.2.1 131 = .ok (.getfield 146, 3) := by decide +kernel
theorem d_M_pair_134 : decode m_M_pair.2.1 134 = .ok (.ireturn, 1) := by decide +kernel
