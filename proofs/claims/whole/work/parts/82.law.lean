theorem cx_hd {q : wz_Q} {ax n k : Nat} {sg tu : Nat → Nat → Nat} {od : Nat → Nat} {sa gl : Nat} {F : cx_F} {WX : wz_G} (h : cx q ax n k sg tu od sa gl F WX) : ∃ fs, WX.flatten[0]? = some (ax, .inr (4, fs)) := by
  obtain ⟨as9, ab, ac, ak, ag, am, b, rl, rt, fo, M, rw, bg, sx, ro, ln, wz, G, st, sl, L, f1, w1, e1, z1, y1, d1, m1, c1, f2, w2, e2, z2, y2, d2, m2, c2, f3, w3, e3, z3, y3, d3, m3, c3, rfl, _⟩ := h
  exact ⟨_, rfl⟩
theorem d_L_law_0 : decode code 0 = .ok (.new 7, 3) := by decide +kernel
theorem d_L_law_3 : decode code 3 = .ok (.dup, 1) := by decide +kernel
theorem d_L_law_4 : decode code 4 = .ok (.aload_n 0, 1) := by decide +kernel
theorem d_L_law_5 : decode code 5 = .ok (.iconst 0, 1) := by decide +kernel
theorem d_L_law_6 : decode code 6 = .ok (.invokestatic 9, 3) := by decide +kernel
theorem d_L_law_9 : decode code 9 = .ok (.invokespecial 15, 3) := by decide +kernel
theorem d_L_law_12 : decode code 12 = .ok (.astore_n 1, 1) := by decide +kernel
theorem d_L_law_13 : decode code 13 = .ok (.new 18, 3) := by decide +kernel
theorem d_L_law_16 : decode code 16 = .ok (.dup, 1) := by decide +kernel
theorem d_L_law_17 : decode code 17 = .ok (.aload_n 0, 1) := by decide +kernel
theorem d_L_law_18 : decode code 18 = .ok (.iconst 0, 1) := by decide +kernel
theorem d_L_law_19 : decode code 19 = .ok (.invokestatic 9, 3) := by decide +kernel
theorem d_L_law_22 : decode code 22 = .ok (.invokespecial 20, 3) := by decide +kernel
theorem d_L_law_25 : decode code 25 = .ok (.astore_n 2, 1) := by decide +kernel
theorem d_L_law_26 : decode code 26 = .ok (.iconst 1, 1) := by decide +kernel
theorem d_L_law_27 : decode code 27 = .ok (.istore_n 3, 1) := by decide +kernel
theorem d_L_law_28 : decode code 28 = .ok (.iload_n 3, 1) := by decide +kernel
theorem d_L_law_29 : decode code 29 = .ok (.aload_n 0, 1) := by decide +kernel
theorem d_L_law_30 : decode code 30 = .ok (.arraylength, 1) := by decide +kernel
theorem d_L_law_31 : decode code 31 = .ok (.iconst 4, 1) := by decide +kernel
theorem d_L_law_32 : decode code 32 = .ok (.isub, 1) := by decide +kernel
theorem d_L_law_33 : decode code 33 = .ok (.if_icmp .gt 427, 3) := by decide +kernel
theorem d_L_law_36 : decode code 36 = .ok (.aload_n 0, 1) := by decide +kernel
theorem d_L_law_37 : decode code 37 = .ok (.iload_n 3, 1) := by decide +kernel
theorem d_L_law_38 : decode code 38 = .ok (.iaload, 1) := by decide +kernel
theorem d_L_law_39 : decode code 39 = .ok (.bipush 15, 2) := by decide +kernel
theorem d_L_law_41 : decode code 41 = .ok (.iand, 1) := by decide +kernel
theorem d_L_law_42 : decode code 42 = .ok (.tableswitch 412 0 10 #[58, 71, 114, 137, 196, 229, 278, 292, 325, 348, 401], 58) := by decide +kernel
theorem d_L_law_100 : decode code 100 = .ok (.aload_n 1, 1) := by decide +kernel
theorem d_L_law_101 : decode code 101 = .ok (.invokevirtual 21, 3) := by decide +kernel
theorem d_L_law_104 : decode code 104 = .ok (.aload_n 2, 1) := by decide +kernel
theorem d_L_law_105 : decode code 105 = .ok (.invokevirtual 25, 3) := by decide +kernel
theorem d_L_law_108 : decode code 108 = .ok (.if_icmp .eq 346, 3) := by decide +kernel
theorem d_L_law_111 : decode code 111 = .ok (.iconst 0, 1) := by decide +kernel
theorem d_L_law_112 : decode code 112 = .ok (.ireturn, 1) := by decide +kernel
theorem d_L_law_113 : decode code 113 = .ok (.aload_n 1, 1) := by decide +kernel
theorem d_L_law_114 : decode code 114 = .ok (.aload_n 0, 1) := by decide +kernel
theorem d_L_law_115 : decode code 115 = .ok (.iload_n 3, 1) := by decide +kernel
theorem d_L_law_116 : decode code 116 = .ok (.iconst 1, 1) := by decide +kernel
theorem d_L_law_117 : decode code 117 = .ok (.iadd, 1) := by decide +kernel
theorem d_L_law_118 : decode code 118 = .ok (.iaload, 1) := by decide +kernel
theorem d_L_law_119 : decode code 119 = .ok (.aload_n 0, 1) := by decide +kernel
theorem d_L_law_120 : decode code 120 = .ok (.iload_n 3, 1) := by decide +kernel
theorem d_L_law_121 : decode code 121 = .ok (.iconst 2, 1) := by decide +kernel
theorem d_L_law_122 : decode code 122 = .ok (.iadd, 1) := by decide +kernel
theorem d_L_law_123 : decode code 123 = .ok (.iaload, 1) := by decide +kernel
theorem d_L_law_124 : decode code 124 = .ok (.aload_n 0, 1) := by decide +kernel
theorem d_L_law_125 : decode code 125 = .ok (.iload_n 3, 1) := by decide +kernel
theorem d_L_law_126 : decode code 126 = .ok (.iconst 3, 1) := by decide +kernel
theorem d_L_law_127 : decode code 127 = .ok (.iadd, 1) := by decide +kernel
theorem d_L_law_128 : decode code 128 = .ok (.iaload, 1) := by decide +kernel
theorem d_L_law_129 : decode code 129 = .ok (.invokevirtual 26, 3) := by decide +kernel
theorem d_L_law_132 : decode code 132 = .ok (.aload_n 2, 1) := by decide +kernel
theorem d_L_law_133 : decode code 133 = .ok (.aload_n 0, 1) := by decide +kernel
theorem d_L_law_134 : decode code 134 = .ok (.iload_n 3, 1) := by decide +kernel
theorem d_L_law_135 : decode code 135 = .ok (.iconst 1, 1) := by decide +kernel
theorem d_L_law_136 : decode code 136 = .ok (.iadd, 1) := by decide +kernel
theorem d_L_law_137 : decode code 137 = .ok (.iaload, 1) := by decide +kernel
theorem d_L_law_138 : decode code 138 = .ok (.aload_n 0, 1) := by decide +kernel
theorem d_L_law_139 : decode code 139 = .ok (.iload_n 3, 1) := by decide +kernel
theorem d_L_law_140 : decode code 140 = .ok (.iconst 2, 1) := by decide +kernel
theorem d_L_law_141 : decode code 141 = .ok (.iadd, 1) := by decide +kernel
theorem d_L_law_142 : decode code 142 = .ok (.iaload, 1) := by decide +kernel
theorem d_L_law_143 : decode code 143 = .ok (.aload_n 0, 1) := by decide +kernel
theorem d_L_law_144 : decode code 144 = .ok (.iload_n 3, 1) := by decide +kernel
theorem d_L_law_145 : decode code 145 = .ok (.iconst 3, 1) := by decide +kernel
theorem d_L_law_146 : decode code 146 = .ok (.iadd, 1) := by decide +kernel
theorem d_L_law_147 : decode code 147 = .ok (.iaload, 1) := by decide +kernel
theorem d_L_law_148 : decode code 148 = .ok (.invokevirtual 30, 3) := by decide +kernel
theorem d_L_law_151 : decode code 151 = .ok (.if_icmp .eq 303, 3) := by decide +kernel
theorem d_L_law_154 : decode code 154 = .ok (.iconst 0, 1) := by decide +kernel
theorem d_L_law_155 : decode code 155 = .ok (.ireturn, 1) := by decide +kernel
theorem d_L_law_156 : decode code 156 = .ok (.aload_n 1, 1) := by decide +kernel
theorem d_L_law_157 : decode code 157 = .ok (.aload_n 0, 1) := by decide +kernel
theorem d_L_law_158 : decode code 158 = .ok (.iload_n 3, 1) := by decide +kernel
theorem d_L_law_159 : decode code 159 = .ok (.iconst 1, 1) := by decide +kernel
theorem d_L_law_160 : decode code 160 = .ok (.iadd, 1) := by decide +kernel
theorem d_L_law_161 : decode code 161 = .ok (.iaload, 1) := by decide +kernel
theorem d_L_law_162 : decode code 162 = .ok (.invokevirtual 31, 3) := by decide +kernel
theorem d_L_law_165 : decode code 165 = .ok (.aload_n 2, 1) := by decide +kernel
theorem d_L_law_166 : decode code 166 = .ok (.aload_n 0, 1) := by decide +kernel
theorem d_L_law_167 : decode code 167 = .ok (.iload_n 3, 1) := by decide +kernel
theorem d_L_law_168 : decode code 168 = .ok (.iconst 1, 1) := by decide +kernel
theorem d_L_law_169 : decode code 169 = .ok (.iadd, 1) := by decide +kernel
theorem d_L_law_170 : decode code 170 = .ok (.iaload, 1) := by decide +kernel
theorem d_L_law_171 : decode code 171 = .ok (.invokevirtual 35, 3) := by decide +kernel
theorem d_L_law_174 : decode code 174 = .ok (.if_icmp .eq 280, 3) := by decide +kernel
theorem d_L_law_177 : decode code 177 = .ok (.iconst 0, 1) := by decide +kernel
theorem d_L_law_178 : decode code 178 = .ok (.ireturn, 1) := by decide +kernel
theorem d_L_law_179 : decode code 179 = .ok (.aload_n 1, 1) := by decide +kernel
theorem d_L_law_180 : decode code 180 = .ok (.aload_n 0, 1) := by decide +kernel
theorem d_L_law_181 : decode code 181 = .ok (.iload_n 3, 1) := by decide +kernel
theorem d_L_law_182 : decode code 182 = .ok (.iconst 1, 1) := by decide +kernel
theorem d_L_law_183 : decode code 183 = .ok (.iadd, 1) := by decide +kernel
theorem d_L_law_184 : decode code 184 = .ok (.iaload, 1) := by decide +kernel
theorem d_L_law_185 : decode code 185 = .ok (.ifCond .eq 7, 3) := by decide +kernel
theorem d_L_law_188 : decode code 188 = .ok (.iconst 1, 1) := by decide +kernel
theorem d_L_law_189 : decode code 189 = .ok (.goto 4, 3) := by decide +kernel
theorem d_L_law_192 : decode code 192 = .ok (.iconst 0, 1) := by decide +kernel
theorem d_L_law_193 : decode code 193 = .ok (.aload_n 0, 1) := by decide +kernel
theorem d_L_law_194 : decode code 194 = .ok (.iload_n 3, 1) := by decide +kernel
theorem d_L_law_195 : decode code 195 = .ok (.iconst 2, 1) := by decide +kernel
theorem d_L_law_196 : decode code 196 = .ok (.iadd, 1) := by decide +kernel
theorem d_L_law_197 : decode code 197 = .ok (.iaload, 1) := by decide +kernel
theorem d_L_law_198 : decode code 198 = .ok (.aload_n 0, 1) := by decide +kernel
theorem d_L_law_199 : decode code 199 = .ok (.iload_n 3, 1) := by decide +kernel
theorem d_L_law_200 : decode code 200 = .ok (.iconst 3, 1) := by decide +kernel
theorem d_L_law_201 : decode code 201 = .ok (.iadd, 1) := by decide +kernel
theorem d_L_law_202 : decode code 202 = .ok (.iaload, 1) := by decide +kernel
theorem d_L_law_203 : decode code 203 = .ok (.invokevirtual 36, 3) := by decide +kernel
theorem d_L_law_206 : decode code 206 = .ok (.aload_n 2, 1) := by decide +kernel
theorem d_L_law_207 : decode code 207 = .ok (.aload_n 0, 1) := by decide +kernel
theorem d_L_law_208 : decode code 208 = .ok (.iload_n 3, 1) := by decide +kernel
theorem d_L_law_209 : decode code 209 = .ok (.iconst 1, 1) := by decide +kernel
theorem d_L_law_210 : decode code 210 = .ok (.iadd, 1) := by decide +kernel
theorem d_L_law_211 : decode code 211 = .ok (.iaload, 1) := by decide +kernel
theorem d_L_law_212 : decode code 212 = .ok (.ifCond .eq 7, 3) := by decide +kernel
theorem d_L_law_215 : decode code 215 = .ok (.iconst 1, 1) := by decide +kernel
theorem d_L_law_216 : decode code 216 = .ok (.goto 4, 3) := by decide +kernel
theorem d_L_law_219 : decode code 219 = .ok (.iconst 0, 1) := by decide +kernel
theorem d_L_law_220 : decode code 220 = .ok (.aload_n 0, 1) := by decide +kernel
theorem d_L_law_221 : decode code 221 = .ok (.iload_n 3, 1) := by decide +kernel
theorem d_L_law_222 : decode code 222 = .ok (.iconst 2, 1) := by decide +kernel
theorem d_L_law_223 : decode code 223 = .ok (.iadd, 1) := by decide +kernel
theorem d_L_law_224 : decode code 224 = .ok (.iaload, 1) := by decide +kernel
theorem d_L_law_225 : decode code 225 = .ok (.aload_n 0, 1) := by decide +kernel
theorem d_L_law_226 : decode code 226 = .ok (.iload_n 3, 1) := by decide +kernel
theorem d_L_law_227 : decode code 227 = .ok (.iconst 3, 1) := by decide +kernel
theorem d_L_law_228 : decode code 228 = .ok (.iadd, 1) := by decide +kernel
theorem d_L_law_229 : decode code 229 = .ok (.iaload, 1) := by decide +kernel
theorem d_L_law_230 : decode code 230 = .ok (.invokevirtual 40, 3) := by decide +kernel
theorem d_L_law_233 : decode code 233 = .ok (.if_icmp .eq 221, 3) := by decide +kernel
theorem d_L_law_236 : decode code 236 = .ok (.iconst 0, 1) := by decide +kernel
theorem d_L_law_237 : decode code 237 = .ok (.ireturn, 1) := by decide +kernel
theorem d_L_law_238 : decode code 238 = .ok (.aload_n 1, 1) := by decide +kernel
theorem d_L_law_239 : decode code 239 = .ok (.aload_n 0, 1) := by decide +kernel
theorem d_L_law_240 : decode code 240 = .ok (.iload_n 3, 1) := by decide +kernel
theorem d_L_law_241 : decode code 241 = .ok (.iconst 1, 1) := by decide +kernel
theorem d_L_law_242 : decode code 242 = .ok (.iadd, 1) := by decide +kernel
theorem d_L_law_243 : decode code 243 = .ok (.iaload, 1) := by decide +kernel
theorem d_L_law_244 : decode code 244 = .ok (.aload_n 0, 1) := by decide +kernel
theorem d_L_law_245 : decode code 245 = .ok (.iload_n 3, 1) := by decide +kernel
theorem d_L_law_246 : decode code 246 = .ok (.iconst 2, 1) := by decide +kernel
theorem d_L_law_247 : decode code 247 = .ok (.iadd, 1) := by decide +kernel
theorem d_L_law_248 : decode code 248 = .ok (.iaload, 1) := by decide +kernel
theorem d_L_law_249 : decode code 249 = .ok (.invokevirtual 41, 3) := by decide +kernel
theorem d_L_law_252 : decode code 252 = .ok (.aload_n 2, 1) := by decide +kernel
theorem d_L_law_253 : decode code 253 = .ok (.aload_n 0, 1) := by decide +kernel
theorem d_L_law_254 : decode code 254 = .ok (.iload_n 3, 1) := by decide +kernel
theorem d_L_law_255 : decode code 255 = .ok (.iconst 1, 1) := by decide +kernel
theorem d_L_law_256 : decode code 256 = .ok (.iadd, 1) := by decide +kernel
theorem d_L_law_257 : decode code 257 = .ok (.iaload, 1) := by decide +kernel
theorem d_L_law_258 : decode code 258 = .ok (.aload_n 0, 1) := by decide +kernel
theorem d_L_law_259 : decode code 259 = .ok (.iload_n 3, 1) := by decide +kernel
theorem d_L_law_260 : decode code 260 = .ok (.iconst 2, 1) := by decide +kernel
theorem d_L_law_261 : decode code 261 = .ok (.iadd, 1) := by decide +kernel
theorem d_L_law_262 : decode code 262 = .ok (.iaload, 1) := by decide +kernel
theorem d_L_law_263 : decode code 263 = .ok (.invokevirtual 45, 3) := by decide +kernel
theorem d_L_law_266 : decode code 266 = .ok (.if_icmp .eq 188, 3) := by decide +kernel
theorem d_L_law_269 : decode code 269 = .ok (.iconst 0, 1) := by decide +kernel
theorem d_L_law_270 : decode code 270 = .ok (.ireturn, 1) := by decide +kernel
theorem d_L_law_271 : decode code 271 = .ok (.aload_n 1, 1) := by decide +kernel
theorem d_L_law_272 : decode code 272 = .ok (.aload_n 0, 1) := by decide +kernel
theorem d_L_law_273 : decode code 273 = .ok (.iload_n 3, 1) := by decide +kernel
theorem d_L_law_274 : decode code 274 = .ok (.iconst 1, 1) := by decide +kernel
theorem d_L_law_275 : decode code 275 = .ok (.iadd, 1) := by decide +kernel
theorem d_L_law_276 : decode code 276 = .ok (.iaload, 1) := by decide +kernel
theorem d_L_law_277 : decode code 277 = .ok (.aload_n 0, 1) := by decide +kernel
theorem d_L_law_278 : decode code 278 = .ok (.iload_n 3, 1) := by decide +kernel
theorem d_L_law_279 : decode code 279 = .ok (.iconst 2, 1) := by decide +kernel
theorem d_L_law_280 : decode code 280 = .ok (.iadd, 1) := by decide +kernel
theorem d_L_law_281 : decode code 281 = .ok (.iaload, 1) := by decide +kernel
theorem d_L_law_282 : decode code 282 = .ok (.ifCond .eq 7, 3) := by decide +kernel
theorem d_L_law_285 : decode code 285 = .ok (.iconst 1, 1) := by decide +kernel
theorem d_L_law_286 : decode code 286 = .ok (.goto 4, 3) := by decide +kernel
theorem d_L_law_289 : decode code 289 = .ok (.iconst 0, 1) := by decide +kernel
theorem d_L_law_290 : decode code 290 = .ok (.invokevirtual 46, 3) := by decide +kernel
theorem d_L_law_293 : decode code 293 = .ok (.aload_n 2, 1) := by decide +kernel
theorem d_L_law_294 : decode code 294 = .ok (.aload_n 0, 1) := by decide +kernel
theorem d_L_law_295 : decode code 295 = .ok (.iload_n 3, 1) := by decide +kernel
theorem d_L_law_296 : decode code 296 = .ok (.iconst 1, 1) := by decide +kernel
theorem d_L_law_297 : decode code 297 = .ok (.iadd, 1) := by decide +kernel
theorem d_L_law_298 : decode code 298 = .ok (.iaload, 1) := by decide +kernel
theorem d_L_law_299 : decode code 299 = .ok (.aload_n 0, 1) := by decide +kernel
theorem d_L_law_300 : decode code 300 = .ok (.iload_n 3, 1) := by decide +kernel
theorem d_L_law_301 : decode code 301 = .ok (.iconst 2, 1) := by decide +kernel
theorem d_L_law_302 : decode code 302 = .ok (.iadd, 1) := by decide +kernel
theorem d_L_law_303 : decode code 303 = .ok (.iaload, 1) := by decide +kernel
theorem d_L_law_304 : decode code 304 = .ok (.ifCond .eq 7, 3) := by decide +kernel
theorem d_L_law_307 : decode code 307 = .ok (.iconst 1, 1) := by decide +kernel
theorem d_L_law_308 : decode code 308 = .ok (.goto 4, 3) := by decide +kernel
theorem d_L_law_311 : decode code 311 = .ok (.iconst 0, 1) := by decide +kernel
theorem d_L_law_312 : decode code 312 = .ok (.invokevirtual 50, 3) := by decide +kernel
theorem d_L_law_315 : decode code 315 = .ok (.if_icmp .eq 139, 3) := by decide +kernel
theorem d_L_law_318 : decode code 318 = .ok (.iconst 0, 1) := by decide +kernel
theorem d_L_law_319 : decode code 319 = .ok (.ireturn, 1) := by decide +kernel
theorem d_L_law_320 : decode code 320 = .ok (.aload_n 1, 1) := by decide +kernel
theorem d_L_law_321 : decode code 321 = .ok (.invokevirtual 51, 3) := by decide +kernel
theorem d_L_law_324 : decode code 324 = .ok (.aload_n 2, 1) := by decide +kernel
theorem d_L_law_325 : decode code 325 = .ok (.invokevirtual 55, 3) := by decide +kernel
theorem d_L_law_328 : decode code 328 = .ok (.lcmp, 1) := by decide +kernel
theorem d_L_law_329 : decode code 329 = .ok (.ifCond .eq 125, 3) := by decide +kernel
theorem d_L_law_332 : decode code 332 = .ok (.iconst 0, 1) := by decide +kernel
theorem d_L_law_333 : decode code 333 = .ok (.ireturn, 1) := by decide +kernel
theorem d_L_law_334 : decode code 334 = .ok (.aload_n 1, 1) := by decide +kernel
theorem d_L_law_335 : decode code 335 = .ok (.aload_n 0, 1) := by decide +kernel
theorem d_L_law_336 : decode code 336 = .ok (.iload_n 3, 1) := by decide +kernel
theorem d_L_law_337 : decode code 337 = .ok (.iconst 1, 1) := by decide +kernel
theorem d_L_law_338 : decode code 338 = .ok (.iadd, 1) := by decide +kernel
theorem d_L_law_339 : decode code 339 = .ok (.iaload, 1) := by decide +kernel
theorem d_L_law_340 : decode code 340 = .ok (.aload_n 0, 1) := by decide +kernel
theorem d_L_law_341 : decode code 341 = .ok (.iload_n 3, 1) := by decide +kernel
theorem d_L_law_342 : decode code 342 = .ok (.iconst 2, 1) := by decide +kernel
theorem d_L_law_343 : decode code 343 = .ok (.iadd, 1) := by decide +kernel
theorem d_L_law_344 : decode code 344 = .ok (.iaload, 1) := by decide +kernel
theorem d_L_law_345 : decode code 345 = .ok (.invokevirtual 56, 3) := by decide +kernel
theorem d_L_law_348 : decode code 348 = .ok (.aload_n 2, 1) := by decide +kernel
theorem d_L_law_349 : decode code 349 = .ok (.aload_n 0, 1) := by decide +kernel
theorem d_L_law_350 : decode code 350 = .ok (.iload_n 3, 1) := by decide +kernel
theorem d_L_law_351 : decode code 351 = .ok (.iconst 1, 1) := by decide +kernel
theorem d_L_law_352 : decode code 352 = .ok (.iadd, 1) := by decide +kernel
theorem d_L_law_353 : decode code 353 = .ok (.iaload, 1) := by decide +kernel
theorem d_L_law_354 : decode code 354 = .ok (.aload_n 0, 1) := by decide +kernel
theorem d_L_law_355 : decode code 355 = .ok (.iload_n 3, 1) := by decide +kernel
theorem d_L_law_356 : decode code 356 = .ok (.iconst 2, 1) := by decide +kernel
theorem d_L_law_357 : decode code 357 = .ok (.iadd, 1) := by decide +kernel
theorem d_L_law_358 : decode code 358 = .ok (.iaload, 1) := by decide +kernel
theorem d_L_law_359 : decode code 359 = .ok (.invokevirtual 59, 3) := by decide +kernel
theorem d_L_law_362 : decode code 362 = .ok (.if_icmp .eq 92, 3) := by decide +kernel
theorem d_L_law_365 : decode code 365 = .ok (.iconst 0, 1) := by decide +kernel
theorem d_L_law_366 : decode code 366 = .ok (.ireturn, 1) := by decide +kernel
theorem d_L_law_367 : decode code 367 = .ok (.aload_n 1, 1) := by decide +kernel
theorem d_L_law_368 : decode code 368 = .ok (.aload_n 0, 1) := by decide +kernel
theorem d_L_law_369 : decode code 369 = .ok (.iload_n 3, 1) := by decide +kernel
theorem d_L_law_370 : decode code 370 = .ok (.iconst 1, 1) := by decide +kernel
theorem d_L_law_371 : decode code 371 = .ok (.iadd, 1) := by decide +kernel
theorem d_L_law_372 : decode code 372 = .ok (.iaload, 1) := by decide +kernel
theorem d_L_law_373 : decode code 373 = .ok (.invokevirtual 60, 3) := by decide +kernel
theorem d_L_law_376 : decode code 376 = .ok (.aload_n 2, 1) := by decide +kernel
theorem d_L_law_377 : decode code 377 = .ok (.aload_n 0, 1) := by decide +kernel
theorem d_L_law_378 : decode code 378 = .ok (.iload_n 3, 1) := by decide +kernel
theorem d_L_law_379 : decode code 379 = .ok (.iconst 1, 1) := by decide +kernel
theorem d_L_law_380 : decode code 380 = .ok (.iadd, 1) := by decide +kernel
theorem d_L_law_381 : decode code 381 = .ok (.iaload, 1) := by decide +kernel
theorem d_L_law_382 : decode code 382 = .ok (.invokevirtual 63, 3) := by decide +kernel
theorem d_L_law_385 : decode code 385 = .ok (.if_icmp .eq 69, 3) := by decide +kernel
theorem d_L_law_388 : decode code 388 = .ok (.iconst 0, 1) := by decide +kernel
theorem d_L_law_389 : decode code 389 = .ok (.ireturn, 1) := by decide +kernel
theorem d_L_law_390 : decode code 390 = .ok (.aload_n 1, 1) := by decide +kernel
theorem d_L_law_391 : decode code 391 = .ok (.aload_n 0, 1) := by decide +kernel
theorem d_L_law_392 : decode code 392 = .ok (.iload_n 3, 1) := by decide +kernel
theorem d_L_law_393 : decode code 393 = .ok (.iconst 1, 1) := by decide +kernel
theorem d_L_law_394 : decode code 394 = .ok (.iadd, 1) := by decide +kernel
theorem d_L_law_395 : decode code 395 = .ok (.iaload, 1) := by decide +kernel
theorem d_L_law_396 : decode code 396 = .ok (.i2l, 1) := by decide +kernel
theorem d_L_law_397 : decode code 397 = .ok (.bipush 32, 2) := by decide +kernel
theorem d_L_law_399 : decode code 399 = .ok (.lshl, 1) := by decide +kernel
theorem d_L_law_400 : decode code 400 = .ok (.aload_n 0, 1) := by decide +kernel
theorem d_L_law_401 : decode code 401 = .ok (.iload_n 3, 1) := by decide +kernel
theorem d_L_law_402 : decode code 402 = .ok (.iconst 2, 1) := by decide +kernel
theorem d_L_law_403 : decode code 403 = .ok (.iadd, 1) := by decide +kernel
theorem d_L_law_404 : decode code 404 = .ok (.iaload, 1) := by decide +kernel
theorem d_L_law_405 : decode code 405 = .ok (.i2l, 1) := by decide +kernel
theorem d_L_law_406 : decode code 406 = .ok (.ldc2_w 64, 3) := by decide +kernel
theorem d_L_law_409 : decode code 409 = .ok (.land, 1) := by decide +kernel
theorem d_L_law_410 : decode code 410 = .ok (.lor, 1) := by decide +kernel
theorem d_L_law_411 : decode code 411 = .ok (.invokevirtual 66, 3) := by decide +kernel
theorem d_L_law_414 : decode code 414 = .ok (.aload_n 2, 1) := by decide +kernel
theorem d_L_law_415 : decode code 415 = .ok (.aload_n 0, 1) := by decide +kernel
theorem d_L_law_416 : decode code 416 = .ok (.iload_n 3, 1) := by decide +kernel
theorem d_L_law_417 : decode code 417 = .ok (.iconst 1, 1) := by decide +kernel
theorem d_L_law_418 : decode code 418 = .ok (.iadd, 1) := by decide +kernel
theorem d_L_law_419 : decode code 419 = .ok (.iaload, 1) := by decide +kernel
theorem d_L_law_420 : decode code 420 = .ok (.i2l, 1) := by decide +kernel
theorem d_L_law_421 : decode code 421 = .ok (.bipush 32, 2) := by decide +kernel
theorem d_L_law_423 : decode code 423 = .ok (.lshl, 1) := by decide +kernel
theorem d_L_law_424 : decode code 424 = .ok (.aload_n 0, 1) := by decide +kernel
theorem d_L_law_425 : decode code 425 = .ok (.iload_n 3, 1) := by decide +kernel
theorem d_L_law_426 : decode code 426 = .ok (.iconst 2, 1) := by decide +kernel
theorem d_L_law_427 : decode code 427 = .ok (.iadd, 1) := by decide +kernel
theorem d_L_law_428 : decode code 428 = .ok (.iaload, 1) := by decide +kernel
theorem d_L_law_429 : decode code 429 = .ok (.i2l, 1) := by decide +kernel
theorem d_L_law_430 : decode code 430 = .ok (.ldc2_w 64, 3) := by decide +kernel
theorem d_L_law_433 : decode code 433 = .ok (.land, 1) := by decide +kernel
theorem d_L_law_434 : decode code 434 = .ok (.lor, 1) := by decide +kernel
theorem d_L_law_435 : decode code 435 = .ok (.invokevirtual 70, 3) := by decide +kernel
theorem d_L_law_438 : decode code 438 = .ok (.if_icmp .eq 16, 3) := by decide +kernel
theorem d_L_law_441 : decode code 441 = .ok (.iconst 0, 1) := by decide +kernel
theorem d_L_law_442 : decode code 442 = .ok (.ireturn, 1) := by decide +kernel
theorem d_L_law_443 : decode code 443 = .ok (.aload_n 1, 1) := by decide +kernel
theorem d_L_law_444 : decode code 444 = .ok (.invokevirtual 71, 3) := by decide +kernel
theorem d_L_law_447 : decode code 447 = .ok (.aload_n 2, 1) := by decide +kernel
theorem d_L_law_448 : decode code 448 = .ok (.invokevirtual 74, 3) := by decide +kernel
theorem d_L_law_451 : decode code 451 = .ok (.goto 3, 3) := by decide +kernel
theorem d_L_law_454 : decode code 454 = .ok (.iinc 3 4, 3) := by decide +kernel
theorem d_L_law_457 : decode code 457 = .ok (.goto (-429), 3) := by decide +kernel
theorem d_L_law_460 : decode code 460 = .ok (.iconst 1, 1) := by decide +kernel
theorem d_L_law_461 : decode code 461 = .ok (.ireturn, 1) := by decide +kernel
theorem kw_226 : (Cond.methodLink "TwoEndSearchLaw" 21 ⟨"TwoEndSearch", "move", "()I"⟩ : Cond) ∈ bigW := bigW_of 226 (by decide +kernel) (by decide +kernel)
theorem kw_227 : (Cond.instanceMethod ⟨"TwoEndSearch", "move", "()I"⟩ : Cond) ∈ bigW := bigW_of 227 (by decide +kernel) (by decide +kernel)
theorem kw_228 : (Cond.selects "TwoEndSearch" ⟨"TwoEndSearch", "move", "()I"⟩ ⟨"TwoEndSearch", "move", "()I"⟩ : Cond) ∈ bigW := bigW_of 228 (by decide +kernel) (by decide +kernel)
theorem kw_229 : (Cond.code ⟨"TwoEndSearch", "move", "()I"⟩ prog_1_method_2_code 2 (some .int) : Cond) ∈ bigW := bigW_of 229 (by decide +kernel) (by decide +kernel)
theorem kw_271 : (Cond.methodLink "TwoEndSearchLaw" 31 ⟨"TwoEndSearch", "order", "(I)I"⟩ : Cond) ∈ bigW := bigW_of 271 (by decide +kernel) (by decide +kernel)
theorem kw_272 : (Cond.instanceMethod ⟨"TwoEndSearch", "order", "(I)I"⟩ : Cond) ∈ bigW := bigW_of 272 (by decide +kernel) (by decide +kernel)
theorem kw_273 : (Cond.selects "TwoEndSearch" ⟨"TwoEndSearch", "order", "(I)I"⟩ ⟨"TwoEndSearch", "order", "(I)I"⟩ : Cond) ∈ bigW := bigW_of 273 (by decide +kernel) (by decide +kernel)
theorem kw_274 : (Cond.code ⟨"TwoEndSearch", "order", "(I)I"⟩ prog_1_method_4_code 2 (some .int) : Cond) ∈ bigW := bigW_of 274 (by decide +kernel) (by decide +kernel)
theorem kw_531 : (Cond.methodLink "TwoEndSearchLaw" 25 ⟨"TwoEndSearchModel", "move", "()I"⟩ : Cond) ∈ bigW := bigW_of 531 (by decide +kernel) (by decide +kernel)
theorem kw_532 : (Cond.instanceMethod ⟨"TwoEndSearchModel", "move", "()I"⟩ : Cond) ∈ bigW := bigW_of 532 (by decide +kernel) (by decide +kernel)
theorem kw_533 : (Cond.selects "TwoEndSearchModel" ⟨"TwoEndSearchModel", "move", "()I"⟩ ⟨"TwoEndSearchModel", "move", "()I"⟩ : Cond) ∈ bigW := bigW_of 533 (by decide +kernel) (by decide +kernel)
theorem kw_534 : (Cond.code ⟨"TwoEndSearchModel", "move", "()I"⟩ prog_7_method_8_code 2 (some .int) : Cond) ∈ bigW := bigW_of 534 (by decide +kernel) (by decide +kernel)
theorem kw_551 : (Cond.methodLink "TwoEndSearchLaw" 35 ⟨"TwoEndSearchModel", "order", "(I)I"⟩ : Cond) ∈ bigW := bigW_of 551 (by decide +kernel) (by decide +kernel)
theorem kw_552 : (Cond.instanceMethod ⟨"TwoEndSearchModel", "order", "(I)I"⟩ : Cond) ∈ bigW := bigW_of 552 (by decide +kernel) (by decide +kernel)
theorem kw_553 : (Cond.selects "TwoEndSearchModel" ⟨"TwoEndSearchModel", "order", "(I)I"⟩ ⟨"TwoEndSearchModel", "order", "(I)I"⟩ : Cond) ∈ bigW := bigW_of 553 (by decide +kernel) (by decide +kernel)
theorem kw_554 : (Cond.code ⟨"TwoEndSearchModel", "order", "(I)I"⟩ prog_7_method_11_code 2 (some .int) : Cond) ∈ bigW := bigW_of 554 (by decide +kernel) (by decide +kernel)
set_option maxHeartbeats 4000000 in
set_option maxRecDepth 100000 in
/-- the law, call 0 -/
theorem lw_case_0 {p : Program} {l : Launch} {e : Env} {s : State} {m : MethodId} {below : List Frame} {meth : Method} {c : Code} {D : va_G} {q : wz_Q} {bs L : Nat} {xs : Nat → Int32} (hx : p.tables.exec = Jvm.exec) (hb : c.code = code) (hml : c.maxLocals = 4) (hown : s.vm.findClass "TwoEndSearchLaw" = some m.cls) (hts : ∀ w ∈ bigW, w.before #[Value.ref bs] s = true) (hN : wz_N wz_L s) (hK : va_K D vwCl (wz_ty q) s) (hX : va_X bs L xs s s.heap) (hbl : bs < s.heap.size) (hL : L ≤ 2049) {ax n i : Nat} {az : Nat → Nat} (hi : i + 4 ≤ L) (hk9 : ∀ (k : Nat) (sg tu : Nat → Nat → Nat) (od : Nat → Nat) (sa gl : Nat) (F : cx_F) (WX : wz_G) (th kn bk : Int32) (sz : Nat) (fd : Int32) (ln : Nat) (fm : Int32) (fw : Int64) (to fo sb gb st sp : Nat → Int32) (wy : Nat → Int64) (se ms ts r1 r2 : Nat → Int32), cx q ax n k sg tu od sa gl F WX → cz_h n k sg tu od sa gl F kn bk sz fd ln fw to fo sb gb st sp wy se ms ts → ∀ (H : Heap) (locs : List Loc) (ls : Array Slot), va_P D vwCl ([WX.flatten, zo_W q az th n k kn bk sz fd ln fm fw, zt_W q az to fo, zs_W q az sb gb, zb_W q az st sp wy se, zf_W q az ms ts, zq_W q az r1 r2] : wz_G).flatten H → va_D (fun k9 : Nat => s.heap.size ≤ k9) ([WX.flatten, zo_W q az th n k kn bk sz fd ln fm fw, zt_W q az to fo, zs_W q az sb gb, zb_W q az st sp wy se, zf_W q az ms ts, zq_W q az r1 r2] : wz_G).flatten → va_S (fun k9 : Nat => s.heap.size ≤ k9) s.heap H locs → lv_has ls 4 [(0, .ref bs), (1, .ref ax), (2, .ref (az 0)), (3, .int (nI i))] → W p l e room_1 s m #[Value.ref bs] below meth c H locs 600000 7302250 (lw_Z below #[Value.ref bs] s) (F0 m 454 ls [])) : ∀ (k : Nat) (sg tu : Nat → Nat → Nat) (od : Nat → Nat) (sa gl : Nat) (F : cx_F) (WX : wz_G) (th kn bk : Int32) (sz : Nat) (fd : Int32) (ln : Nat) (fm : Int32) (fw : Int64) (to fo sb gb st sp : Nat → Int32) (wy : Nat → Int64) (se ms ts r1 r2 : Nat → Int32), cx q ax n k sg tu od sa gl F WX → cz_h n k sg tu od sa gl F kn bk sz fd ln fw to fo sb gb st sp wy se ms ts → ∀ (H : Heap) (locs : List Loc) (ls : Array Slot), va_P D vwCl ([WX.flatten, zo_W q az th n k kn bk sz fd ln fm fw, zt_W q az to fo, zs_W q az sb gb, zb_W q az st sp wy se, zf_W q az ms ts, zq_W q az r1 r2] : wz_G).flatten H → va_D (fun k9 : Nat => s.heap.size ≤ k9) ([WX.flatten, zo_W q az th n k kn bk sz fd ln fm fw, zt_W q az to fo, zs_W q az sb gb, zb_W q az st sp wy se, zf_W q az ms ts, zq_W q az r1 r2] : wz_G).flatten → va_S (fun k9 : Nat => s.heap.size ≤ k9) s.heap H locs → lv_has ls 4 [(0, .ref bs), (1, .ref ax), (2, .ref (az 0)), (3, .int (nI i))] → W p l e room_1 s m #[Value.ref bs] below meth c H locs 600000 7302250 (lw_Z below #[Value.ref bs] s) (F0 m 100 ls []) := by
  intro k sg tu od sa gl F WX th kn bk sz fd ln fm fw to fo sb gb st sp wy se ms ts r1 r2 hcx hcz H locs ls hP hD hS hl
  obtain ⟨⟨hn1, hn, hk⟩, hzm, hzs, hzg, hzl, hkn, hfd⟩ := hcz
  have hA : ∀ k9 : Nat, s.heap.size ≤ k9 → (fun k9 : Nat => s.heap.size ≤ k9) k9 := fun _ h => h
  have hbA : ¬ (fun k9 : Nat => s.heap.size ≤ k9) bs := Nat.not_le.mpr hbl
  refine lv_aload_n hx hb d_L_law_100 rfl (lv_at hl 1 rfl) ?_
  obtain ⟨fs, hfs⟩ := cx_hd hcx
  have hQ := wz_split (n := 7) (gc := [WX.flatten]) (gr := [zo_W q az th n k kn bk sz fd ln fm fw, zt_W q az to fo, zs_W q az sb gb, zb_W q az st sp wy se, zf_W q az ms ts, zq_W q az r1 r2]) [0] [1, 2, 3, 4, 5, 6] rfl (by decide) rfl rfl hP hD
  refine wz_calli (va_runV (As := []) (rest := []) ⟨hx, hb, hml, hown, hts⟩ (wz_flat_Mi (c_X_move l D q ax n k sg tu od sa gl F WX hcx) _) (cwV 0 hts (wz_goodV kw_226 kw_227 kw_228 kw_30 kw_229) rfl rfl rfl (by decide +kernel) ⟨Nat.le_of_ble_eq_true rfl, Nat.le_of_ble_eq_true rfl⟩) (wz_preV (gi := 0) (k := 0) hN hK hQ wz_L_ok rfl hfs rfl) rfl rfl hl.1 rfl (lv_room (Nat.le_of_ble_eq_true rfl)) d_L_law_101 ⟨Nat.le_of_ble_eq_true rfl, Nat.le_of_ble_eq_true rfl⟩) hQ hS hA (fun v_101 gx H locs hp hP hD hS => ?_)
  obtain ⟨WY, rfl, hpx⟩ := hp
  obtain ⟨hP, hD⟩ := wz_ord (n := 7) (gs' := [WY.flatten, zo_W q az th n k kn bk sz fd ln fm fw, zt_W q az to fo, zs_W q az sb gb, zb_W q az st sp wy se, zf_W q az ms ts, zq_W q az r1 r2]) [0, 1, 2, 3, 4, 5, 6] rfl (by decide) rfl hP hD
  refine lv_aload_n hx hb d_L_law_104 rfl (lv_at hl 2 rfl) ?_
  have hQ := wz_split (n := 7) (gc := [zo_W q az th n k kn bk sz fd ln fm fw, zt_W q az to fo]) (gr := [WY.flatten, zs_W q az sb gb, zb_W q az st sp wy se, zf_W q az ms ts, zq_W q az r1 r2]) [1, 2] [0, 3, 4, 5, 6] rfl (by decide) rfl rfl hP hD
  refine wz_calli (va_runV (As := []) (rest := [.int v_101]) ⟨hx, hb, hml, hown, hts⟩ (c_Z_move l D q az th n k kn bk sz fd ln fm fw to fo hk _) (cwV 0 hts (wz_goodV kw_531 kw_532 kw_533 kw_37 kw_534) rfl rfl rfl (by decide +kernel) ⟨Nat.le_of_ble_eq_true rfl, Nat.le_of_ble_eq_true rfl⟩) (wz_preV (gi := 0) (k := 0) hN hK hQ wz_L_ok rfl rfl rfl) rfl rfl hl.1 rfl (lv_room (Nat.le_of_ble_eq_true rfl)) d_L_law_105 ⟨Nat.le_of_ble_eq_true rfl, Nat.le_of_ble_eq_true rfl⟩) hQ hS hA (fun v_105 gx H locs hpz hP hD hS => ?_)
  rcases hpx with ⟨hk6, hvx, hcx'⟩ | ⟨hk6, hvx, hcx'⟩
  · skip
    obtain ⟨_, hvz, rfl⟩ := hpz.resolve_right (fun q => by have := q.1; omega)
    subst hvx
    subst hvz
    obtain ⟨hP, hD⟩ := wz_ord (n := 7) (gs' := [WY.flatten, zo_W q az (nI 0) n k kn bk sz fd ln fm fw, zt_W q az to fo, zs_W q az sb gb, zb_W q az st sp wy se, zf_W q az ms ts, zq_W q az r1 r2]) [2, 0, 1, 3, 4, 5, 6] rfl (by decide) rfl hP hD
    refine lv_icmp_eq (tgt := 454) hx hb d_L_law_108 (by decide) (fun hc => ?_) (fun hc => ?_)
    · skip
      exact hk9 k sg tu od sa gl F WY (nI 0) kn bk sz fd ln fm fw to fo sb gb st sp wy se ms ts r1 r2 hcx' ⟨⟨hn1, hn, hk⟩, hzm, hzs, hzg, hzl, hkn, hfd⟩ _ _ _ hP hD hS (lv_sub hl [0, 1, 2, 3] rfl)
    · skip
      exact absurd rfl hc
  · skip
    obtain ⟨_, hvz, to', rfl, h1, h2⟩ := hpz.resolve_left (fun q => by have := q.1; omega)
    subst hvx
    subst hvz
    obtain ⟨hP, hD⟩ := wz_ord (n := 7) (gs' := [WY.flatten, zo_W q az (nI 0) n (k + 1) (-1) bk sz (nI 0) ln fm fw, zt_W q az to' (upd fo k (nI 1)), zs_W q az sb gb, zb_W q az st sp wy se, zf_W q az ms ts, zq_W q az r1 r2]) [2, 0, 1, 3, 4, 5, 6] rfl (by decide) rfl hP hD
    refine lv_icmp_eq (tgt := 454) hx hb d_L_law_108 (by decide) (fun hc => ?_) (fun hc => ?_)
    · skip
      exact hk9 (k + 1) (pz_up sg k (fun p => p)) (pz_up tu k (fun p => p)) (pz_up od k 1) sa gl none WY (nI 0) (-1) bk sz (nI 0) ln fm fw to' (upd fo k (nI 1)) sb gb st sp wy se ms ts r1 r2 hcx' ⟨⟨hn1, hn, hk6⟩, zm_ok_add hn hzm h1 h2, hzs, hzg, hzl, (fun mu hm h => (cz_new h hm).elim), rfl⟩ _ _ _ hP hD hS (lv_sub hl [0, 1, 2, 3] rfl)
    · skip
      exact absurd rfl hc
set_option maxHeartbeats 4000000 in
set_option maxRecDepth 100000 in
/-- the law, call 2 -/
theorem lw_case_2 {p : Program} {l : Launch} {e : Env} {s : State} {m : MethodId} {below : List Frame} {meth : Method} {c : Code} {D : va_G} {q : wz_Q} {bs L : Nat} {xs : Nat → Int32} (hx : p.tables.exec = Jvm.exec) (hb : c.code = code) (hml : c.maxLocals = 4) (hown : s.vm.findClass "TwoEndSearchLaw" = some m.cls) (hts : ∀ w ∈ bigW, w.before #[Value.ref bs] s = true) (hN : wz_N wz_L s) (hK : va_K D vwCl (wz_ty q) s) (hX : va_X bs L xs s s.heap) (hbl : bs < s.heap.size) (hL : L ≤ 2049) {ax n i : Nat} {az : Nat → Nat} (hi : i + 4 ≤ L) (hk9 : ∀ (k : Nat) (sg tu : Nat → Nat → Nat) (od : Nat → Nat) (sa gl : Nat) (F : cx_F) (WX : wz_G) (th kn bk : Int32) (sz : Nat) (fd : Int32) (ln : Nat) (fm : Int32) (fw : Int64) (to fo sb gb st sp : Nat → Int32) (wy : Nat → Int64) (se ms ts r1 r2 : Nat → Int32), cx q ax n k sg tu od sa gl F WX → cz_h n k sg tu od sa gl F kn bk sz fd ln fw to fo sb gb st sp wy se ms ts → ∀ (H : Heap) (locs : List Loc) (ls : Array Slot), va_P D vwCl ([WX.flatten, zo_W q az th n k kn bk sz fd ln fm fw, zt_W q az to fo, zs_W q az sb gb, zb_W q az st sp wy se, zf_W q az ms ts, zq_W q az r1 r2] : wz_G).flatten H → va_D (fun k9 : Nat => s.heap.size ≤ k9) ([WX.flatten, zo_W q az th n k kn bk sz fd ln fm fw, zt_W q az to fo, zs_W q az sb gb, zb_W q az st sp wy se, zf_W q az ms ts, zq_W q az r1 r2] : wz_G).flatten → va_S (fun k9 : Nat => s.heap.size ≤ k9) s.heap H locs → lv_has ls 4 [(0, .ref bs), (1, .ref ax), (2, .ref (az 0)), (3, .int (nI i))] → W p l e room_1 s m #[Value.ref bs] below meth c H locs 600000 7302250 (lw_Z below #[Value.ref bs] s) (F0 m 454 ls [])) : ∀ (k : Nat) (sg tu : Nat → Nat → Nat) (od : Nat → Nat) (sa gl : Nat) (F : cx_F) (WX : wz_G) (th kn bk : Int32) (sz : Nat) (fd : Int32) (ln : Nat) (fm : Int32) (fw : Int64) (to fo sb gb st sp : Nat → Int32) (wy : Nat → Int64) (se ms ts r1 r2 : Nat → Int32), cx q ax n k sg tu od sa gl F WX → cz_h n k sg tu od sa gl F kn bk sz fd ln fw to fo sb gb st sp wy se ms ts → ∀ (H : Heap) (locs : List Loc) (ls : Array Slot), va_P D vwCl ([WX.flatten, zo_W q az th n k kn bk sz fd ln fm fw, zt_W q az to fo, zs_W q az sb gb, zb_W q az st sp wy se, zf_W q az ms ts, zq_W q az r1 r2] : wz_G).flatten H → va_D (fun k9 : Nat => s.heap.size ≤ k9) ([WX.flatten, zo_W q az th n k kn bk sz fd ln fm fw, zt_W q az to fo, zs_W q az sb gb, zb_W q az st sp wy se, zf_W q az ms ts, zq_W q az r1 r2] : wz_G).flatten → va_S (fun k9 : Nat => s.heap.size ≤ k9) s.heap H locs → lv_has ls 4 [(0, .ref bs), (1, .ref ax), (2, .ref (az 0)), (3, .int (nI i))] → W p l e room_1 s m #[Value.ref bs] below meth c H locs 600000 7302250 (lw_Z below #[Value.ref bs] s) (F0 m 156 ls []) := by
  intro k sg tu od sa gl F WX th kn bk sz fd ln fm fw to fo sb gb st sp wy se ms ts r1 r2 hcx hcz H locs ls hP hD hS hl
  obtain ⟨⟨hn1, hn, hk⟩, hzm, hzs, hzg, hzl, hkn, hfd⟩ := hcz
  have hA : ∀ k9 : Nat, s.heap.size ≤ k9 → (fun k9 : Nat => s.heap.size ≤ k9) k9 := fun _ h => h
  have hbA : ¬ (fun k9 : Nat => s.heap.size ≤ k9) bs := Nat.not_le.mpr hbl
  refine lv_aload_n hx hb d_L_law_156 rfl (lv_at hl 1 rfl) ?_
  refine lv_aload_n hx hb d_L_law_157 rfl (lv_at hl 0 rfl) ?_
  refine lv_iload_n hx hb d_L_law_158 rfl (lv_at hl 3 rfl) ?_
  refine lv_iconst (v := nI 1) hx hb d_L_law_159 (by decide) ?_
  refine lv_iadd hx hb d_L_law_160 ?_
  refine wz_topi (y := nI (i + 1)) (nI_add i 1) ?_
  refine va_sld hx hb hX hbl hbA hS (vp_in_nI (n := (i + 1)) (N := L) (by omega) (by omega)) d_L_law_161 ?_
  refine wz_topi (y := xs (i + 1)) (congrArg xs (nI_clamp (by omega))) ?_
  obtain ⟨fs, hfs⟩ := cx_hd hcx
  have hQ := wz_split (n := 7) (gc := [WX.flatten]) (gr := [zo_W q az th n k kn bk sz fd ln fm fw, zt_W q az to fo, zs_W q az sb gb, zb_W q az st sp wy se, zf_W q az ms ts, zq_W q az r1 r2]) [0] [1, 2, 3, 4, 5, 6] rfl (by decide) rfl rfl hP hD
  refine wz_calli (va_runV (As := [.int (xs (i + 1))]) (rest := []) ⟨hx, hb, hml, hown, hts⟩ (wz_flat_Mi (c_X_order l D q ax n k sg tu od sa gl F (xs (i + 1)) WX hcx) _) (cwV 1 hts (wz_goodV kw_271 kw_272 kw_273 kw_30 kw_274) rfl rfl rfl (by decide +kernel) ⟨Nat.le_of_ble_eq_true rfl, Nat.le_of_ble_eq_true rfl⟩) (wz_preV (gi := 0) (k := 0) hN hK hQ wz_L_ok rfl hfs rfl) rfl rfl hl.1 rfl (lv_room (Nat.le_of_ble_eq_true rfl)) d_L_law_162 ⟨Nat.le_of_ble_eq_true rfl, Nat.le_of_ble_eq_true rfl⟩) hQ hS hA (fun v_162 gx H locs hp hP hD hS => ?_)
  obtain ⟨WY, rfl, hpx⟩ := hp
  obtain ⟨hP, hD⟩ := wz_ord (n := 7) (gs' := [WY.flatten, zo_W q az th n k kn bk sz fd ln fm fw, zt_W q az to fo, zs_W q az sb gb, zb_W q az st sp wy se, zf_W q az ms ts, zq_W q az r1 r2]) [0, 1, 2, 3, 4, 5, 6] rfl (by decide) rfl hP hD
  obtain ⟨hcx', hvx⟩ := hpx
  refine lv_aload_n hx hb d_L_law_165 rfl (lv_at hl 2 rfl) ?_
  refine lv_aload_n hx hb d_L_law_166 rfl (lv_at hl 0 rfl) ?_
  refine lv_iload_n hx hb d_L_law_167 rfl (lv_at hl 3 rfl) ?_
  refine lv_iconst (v := nI 1) hx hb d_L_law_168 (by decide) ?_
  refine lv_iadd hx hb d_L_law_169 ?_
  refine wz_topi (y := nI (i + 1)) (nI_add i 1) ?_
  refine va_sld hx hb hX hbl hbA hS (vp_in_nI (n := (i + 1)) (N := L) (by omega) (by omega)) d_L_law_170 ?_
  refine wz_topi (y := xs (i + 1)) (congrArg xs (nI_clamp (by omega))) ?_
  have hQ := wz_split (n := 7) (gc := [zo_W q az th n k kn bk sz fd ln fm fw, zt_W q az to fo]) (gr := [WY.flatten, zs_W q az sb gb, zb_W q az st sp wy se, zf_W q az ms ts, zq_W q az r1 r2]) [1, 2] [0, 3, 4, 5, 6] rfl (by decide) rfl rfl hP hD
  refine wz_calli (va_runV (As := [.int (xs (i + 1))]) (rest := [.int v_162]) ⟨hx, hb, hml, hown, hts⟩ (c_Z_order l D q az th n k kn bk sz fd ln fm fw to fo (xs (i + 1)) hk _) (cwV 1 hts (wz_goodV kw_551 kw_552 kw_553 kw_37 kw_554) rfl rfl rfl (by decide +kernel) ⟨Nat.le_of_ble_eq_true rfl, Nat.le_of_ble_eq_true rfl⟩) (wz_preV (gi := 0) (k := 0) hN hK hQ wz_L_ok rfl rfl rfl) rfl rfl hl.1 rfl (lv_room (Nat.le_of_ble_eq_true rfl)) d_L_law_171 ⟨Nat.le_of_ble_eq_true rfl, Nat.le_of_ble_eq_true rfl⟩) hQ hS hA (fun v_171 gx H locs hpz hP hD hS => ?_)
  obtain ⟨rfl, hvz⟩ := hpz
  obtain ⟨hP, hD⟩ := wz_ord (n := 7) (gs' := [WY.flatten, zo_W q az (nI 0) n k kn bk sz fd ln fm fw, zt_W q az to fo, zs_W q az sb gb, zb_W q az st sp wy se, zf_W q az ms ts, zq_W q az r1 r2]) [2, 0, 1, 3, 4, 5, 6] rfl (by decide) rfl hP hD
  refine lv_icmp_eq (tgt := 454) hx hb d_L_law_174 (by decide) (fun hc => ?_) (fun hc => ?_)
  · skip
    exact hk9 k sg tu od sa gl F WY (nI 0) kn bk sz fd ln fm fw to fo sb gb st sp wy se ms ts r1 r2 hcx' ⟨⟨hn1, hn, hk⟩, hzm, hzs, hzg, hzl, hkn, hfd⟩ _ _ _ hP hD hS (lv_sub hl [0, 1, 2, 3] rfl)
  · skip
    exact absurd (by
      rcases hvx with ⟨j, hj, e1, e2⟩ | ⟨h1, e2⟩
      · rcases hvz with ⟨j', hj', e1', e2'⟩ | ⟨h1', _⟩
        · have hjj : j = j' := (nI_eq (by omega) (by omega)).mp (e1.symm.trans e1')
          subst hjj
          rw [e2, e2', (hzm j hj).2.2.1]
        · exact absurd ⟨j, hj, e1⟩ h1'
      · rcases hvz with ⟨j', hj', e1', _⟩ | ⟨_, e2'⟩
        · exact absurd ⟨j', hj', e1'⟩ h1
        · rw [e2, e2']) hc
