theorem d_LW_law_0 : decode code 0 = .ok (.new 7, 3) := by decide +kernel
theorem d_LW_law_3 : decode code 3 = .ok (.dup, 1) := by decide +kernel
theorem d_LW_law_4 : decode code 4 = .ok (.invokespecial 9, 3) := by decide +kernel
theorem d_LW_law_7 : decode code 7 = .ok (.astore_n 1, 1) := by decide +kernel
theorem d_LW_law_8 : decode code 8 = .ok (.new 10, 3) := by decide +kernel
theorem d_LW_law_11 : decode code 11 = .ok (.dup, 1) := by decide +kernel
theorem d_LW_law_12 : decode code 12 = .ok (.invokespecial 12, 3) := by decide +kernel
theorem d_LW_law_15 : decode code 15 = .ok (.astore_n 2, 1) := by decide +kernel
theorem d_LW_law_16 : decode code 16 = .ok (.iconst 0, 1) := by decide +kernel
theorem d_LW_law_17 : decode code 17 = .ok (.istore_n 3, 1) := by decide +kernel
theorem d_LW_law_18 : decode code 18 = .ok (.iload_n 3, 1) := by decide +kernel
theorem d_LW_law_19 : decode code 19 = .ok (.aload_n 0, 1) := by decide +kernel
theorem d_LW_law_20 : decode code 20 = .ok (.arraylength, 1) := by decide +kernel
theorem d_LW_law_21 : decode code 21 = .ok (.iconst 5, 1) := by decide +kernel
theorem d_LW_law_22 : decode code 22 = .ok (.isub, 1) := by decide +kernel
theorem d_LW_law_23 : decode code 23 = .ok (.if_icmp .gt 714, 3) := by decide +kernel
theorem d_LW_law_26 : decode code 26 = .ok (.aload_n 0, 1) := by decide +kernel
theorem d_LW_law_27 : decode code 27 = .ok (.iload_n 3, 1) := by decide +kernel
theorem d_LW_law_28 : decode code 28 = .ok (.iaload, 1) := by decide +kernel
theorem d_LW_law_29 : decode code 29 = .ok (.bipush 31, 2) := by decide +kernel
theorem d_LW_law_31 : decode code 31 = .ok (.iand, 1) := by decide +kernel
theorem d_LW_law_32 : decode code 32 = .ok (.tableswitch 699 0 18 #[92, 115, 128, 141, 174, 217, 240, 273, 316, 349, 372, 415, 448, 481, 514, 557, 610, 643, 676], 92) := by decide +kernel
theorem d_LW_law_124 : decode code 124 = .ok (.aload_n 1, 1) := by decide +kernel
theorem d_LW_law_125 : decode code 125 = .ok (.aload_n 0, 1) := by decide +kernel
theorem d_LW_law_126 : decode code 126 = .ok (.iload_n 3, 1) := by decide +kernel
theorem d_LW_law_127 : decode code 127 = .ok (.iconst 1, 1) := by decide +kernel
theorem d_LW_law_128 : decode code 128 = .ok (.iadd, 1) := by decide +kernel
theorem d_LW_law_129 : decode code 129 = .ok (.iaload, 1) := by decide +kernel
theorem d_LW_law_130 : decode code 130 = .ok (.invokevirtual 13, 3) := by decide +kernel
theorem d_LW_law_133 : decode code 133 = .ok (.aload_n 2, 1) := by decide +kernel
theorem d_LW_law_134 : decode code 134 = .ok (.aload_n 0, 1) := by decide +kernel
theorem d_LW_law_135 : decode code 135 = .ok (.iload_n 3, 1) := by decide +kernel
theorem d_LW_law_136 : decode code 136 = .ok (.iconst 1, 1) := by decide +kernel
theorem d_LW_law_137 : decode code 137 = .ok (.iadd, 1) := by decide +kernel
theorem d_LW_law_138 : decode code 138 = .ok (.iaload, 1) := by decide +kernel
theorem d_LW_law_139 : decode code 139 = .ok (.invokevirtual 17, 3) := by decide +kernel
theorem d_LW_law_142 : decode code 142 = .ok (.if_icmp .eq 589, 3) := by decide +kernel
theorem d_LW_law_145 : decode code 145 = .ok (.iconst 0, 1) := by decide +kernel
theorem d_LW_law_146 : decode code 146 = .ok (.ireturn, 1) := by decide +kernel
theorem d_LW_law_147 : decode code 147 = .ok (.aload_n 1, 1) := by decide +kernel
theorem d_LW_law_148 : decode code 148 = .ok (.invokevirtual 18, 3) := by decide +kernel
theorem d_LW_law_151 : decode code 151 = .ok (.aload_n 2, 1) := by decide +kernel
theorem d_LW_law_152 : decode code 152 = .ok (.invokevirtual 22, 3) := by decide +kernel
theorem d_LW_law_155 : decode code 155 = .ok (.if_icmp .eq 576, 3) := by decide +kernel
theorem d_LW_law_158 : decode code 158 = .ok (.iconst 0, 1) := by decide +kernel
theorem d_LW_law_159 : decode code 159 = .ok (.ireturn, 1) := by decide +kernel
theorem d_LW_law_160 : decode code 160 = .ok (.aload_n 1, 1) := by decide +kernel
theorem d_LW_law_161 : decode code 161 = .ok (.invokevirtual 23, 3) := by decide +kernel
theorem d_LW_law_164 : decode code 164 = .ok (.aload_n 2, 1) := by decide +kernel
theorem d_LW_law_165 : decode code 165 = .ok (.invokevirtual 26, 3) := by decide +kernel
theorem d_LW_law_168 : decode code 168 = .ok (.if_icmp .eq 563, 3) := by decide +kernel
theorem d_LW_law_171 : decode code 171 = .ok (.iconst 0, 1) := by decide +kernel
theorem d_LW_law_172 : decode code 172 = .ok (.ireturn, 1) := by decide +kernel
theorem d_LW_law_173 : decode code 173 = .ok (.aload_n 1, 1) := by decide +kernel
theorem d_LW_law_174 : decode code 174 = .ok (.aload_n 0, 1) := by decide +kernel
theorem d_LW_law_175 : decode code 175 = .ok (.iload_n 3, 1) := by decide +kernel
theorem d_LW_law_176 : decode code 176 = .ok (.iconst 1, 1) := by decide +kernel
theorem d_LW_law_177 : decode code 177 = .ok (.iadd, 1) := by decide +kernel
theorem d_LW_law_178 : decode code 178 = .ok (.iaload, 1) := by decide +kernel
theorem d_LW_law_179 : decode code 179 = .ok (.aload_n 0, 1) := by decide +kernel
theorem d_LW_law_180 : decode code 180 = .ok (.iload_n 3, 1) := by decide +kernel
theorem d_LW_law_181 : decode code 181 = .ok (.iconst 2, 1) := by decide +kernel
theorem d_LW_law_182 : decode code 182 = .ok (.iadd, 1) := by decide +kernel
theorem d_LW_law_183 : decode code 183 = .ok (.iaload, 1) := by decide +kernel
theorem d_LW_law_184 : decode code 184 = .ok (.invokevirtual 27, 3) := by decide +kernel
theorem d_LW_law_187 : decode code 187 = .ok (.aload_n 2, 1) := by decide +kernel
theorem d_LW_law_188 : decode code 188 = .ok (.aload_n 0, 1) := by decide +kernel
theorem d_LW_law_189 : decode code 189 = .ok (.iload_n 3, 1) := by decide +kernel
theorem d_LW_law_190 : decode code 190 = .ok (.iconst 1, 1) := by decide +kernel
theorem d_LW_law_191 : decode code 191 = .ok (.iadd, 1) := by decide +kernel
theorem d_LW_law_192 : decode code 192 = .ok (.iaload, 1) := by decide +kernel
theorem d_LW_law_193 : decode code 193 = .ok (.aload_n 0, 1) := by decide +kernel
theorem d_LW_law_194 : decode code 194 = .ok (.iload_n 3, 1) := by decide +kernel
theorem d_LW_law_195 : decode code 195 = .ok (.iconst 2, 1) := by decide +kernel
theorem d_LW_law_196 : decode code 196 = .ok (.iadd, 1) := by decide +kernel
theorem d_LW_law_197 : decode code 197 = .ok (.iaload, 1) := by decide +kernel
theorem d_LW_law_198 : decode code 198 = .ok (.invokevirtual 31, 3) := by decide +kernel
theorem d_LW_law_201 : decode code 201 = .ok (.if_icmp .eq 530, 3) := by decide +kernel
theorem d_LW_law_204 : decode code 204 = .ok (.iconst 0, 1) := by decide +kernel
theorem d_LW_law_205 : decode code 205 = .ok (.ireturn, 1) := by decide +kernel
theorem d_LW_law_206 : decode code 206 = .ok (.aload_n 1, 1) := by decide +kernel
theorem d_LW_law_207 : decode code 207 = .ok (.aload_n 0, 1) := by decide +kernel
theorem d_LW_law_208 : decode code 208 = .ok (.iload_n 3, 1) := by decide +kernel
theorem d_LW_law_209 : decode code 209 = .ok (.iconst 1, 1) := by decide +kernel
theorem d_LW_law_210 : decode code 210 = .ok (.iadd, 1) := by decide +kernel
theorem d_LW_law_211 : decode code 211 = .ok (.iaload, 1) := by decide +kernel
theorem d_LW_law_212 : decode code 212 = .ok (.aload_n 0, 1) := by decide +kernel
theorem d_LW_law_213 : decode code 213 = .ok (.iload_n 3, 1) := by decide +kernel
theorem d_LW_law_214 : decode code 214 = .ok (.iconst 2, 1) := by decide +kernel
theorem d_LW_law_215 : decode code 215 = .ok (.iadd, 1) := by decide +kernel
theorem d_LW_law_216 : decode code 216 = .ok (.iaload, 1) := by decide +kernel
theorem d_LW_law_217 : decode code 217 = .ok (.aload_n 0, 1) := by decide +kernel
theorem d_LW_law_218 : decode code 218 = .ok (.iload_n 3, 1) := by decide +kernel
theorem d_LW_law_219 : decode code 219 = .ok (.iconst 3, 1) := by decide +kernel
theorem d_LW_law_220 : decode code 220 = .ok (.iadd, 1) := by decide +kernel
theorem d_LW_law_221 : decode code 221 = .ok (.iaload, 1) := by decide +kernel
theorem d_LW_law_222 : decode code 222 = .ok (.invokevirtual 32, 3) := by decide +kernel
theorem d_LW_law_225 : decode code 225 = .ok (.aload_n 2, 1) := by decide +kernel
theorem d_LW_law_226 : decode code 226 = .ok (.aload_n 0, 1) := by decide +kernel
theorem d_LW_law_227 : decode code 227 = .ok (.iload_n 3, 1) := by decide +kernel
theorem d_LW_law_228 : decode code 228 = .ok (.iconst 1, 1) := by decide +kernel
theorem d_LW_law_229 : decode code 229 = .ok (.iadd, 1) := by decide +kernel
theorem d_LW_law_230 : decode code 230 = .ok (.iaload, 1) := by decide +kernel
theorem d_LW_law_231 : decode code 231 = .ok (.aload_n 0, 1) := by decide +kernel
theorem d_LW_law_232 : decode code 232 = .ok (.iload_n 3, 1) := by decide +kernel
theorem d_LW_law_233 : decode code 233 = .ok (.iconst 2, 1) := by decide +kernel
theorem d_LW_law_234 : decode code 234 = .ok (.iadd, 1) := by decide +kernel
theorem d_LW_law_235 : decode code 235 = .ok (.iaload, 1) := by decide +kernel
theorem d_LW_law_236 : decode code 236 = .ok (.aload_n 0, 1) := by decide +kernel
theorem d_LW_law_237 : decode code 237 = .ok (.iload_n 3, 1) := by decide +kernel
theorem d_LW_law_238 : decode code 238 = .ok (.iconst 3, 1) := by decide +kernel
theorem d_LW_law_239 : decode code 239 = .ok (.iadd, 1) := by decide +kernel
theorem d_LW_law_240 : decode code 240 = .ok (.iaload, 1) := by decide +kernel
theorem d_LW_law_241 : decode code 241 = .ok (.invokevirtual 36, 3) := by decide +kernel
theorem d_LW_law_244 : decode code 244 = .ok (.if_icmp .eq 487, 3) := by decide +kernel
theorem d_LW_law_247 : decode code 247 = .ok (.iconst 0, 1) := by decide +kernel
theorem d_LW_law_248 : decode code 248 = .ok (.ireturn, 1) := by decide +kernel
theorem d_LW_law_249 : decode code 249 = .ok (.aload_n 1, 1) := by decide +kernel
theorem d_LW_law_250 : decode code 250 = .ok (.aload_n 0, 1) := by decide +kernel
theorem d_LW_law_251 : decode code 251 = .ok (.iload_n 3, 1) := by decide +kernel
theorem d_LW_law_252 : decode code 252 = .ok (.iconst 1, 1) := by decide +kernel
theorem d_LW_law_253 : decode code 253 = .ok (.iadd, 1) := by decide +kernel
theorem d_LW_law_254 : decode code 254 = .ok (.iaload, 1) := by decide +kernel
theorem d_LW_law_255 : decode code 255 = .ok (.invokevirtual 37, 3) := by decide +kernel
theorem d_LW_law_258 : decode code 258 = .ok (.aload_n 2, 1) := by decide +kernel
theorem d_LW_law_259 : decode code 259 = .ok (.aload_n 0, 1) := by decide +kernel
theorem d_LW_law_260 : decode code 260 = .ok (.iload_n 3, 1) := by decide +kernel
theorem d_LW_law_261 : decode code 261 = .ok (.iconst 1, 1) := by decide +kernel
theorem d_LW_law_262 : decode code 262 = .ok (.iadd, 1) := by decide +kernel
theorem d_LW_law_263 : decode code 263 = .ok (.iaload, 1) := by decide +kernel
theorem d_LW_law_264 : decode code 264 = .ok (.invokevirtual 41, 3) := by decide +kernel
theorem d_LW_law_267 : decode code 267 = .ok (.if_icmp .eq 464, 3) := by decide +kernel
theorem d_LW_law_270 : decode code 270 = .ok (.iconst 0, 1) := by decide +kernel
theorem d_LW_law_271 : decode code 271 = .ok (.ireturn, 1) := by decide +kernel
theorem d_LW_law_272 : decode code 272 = .ok (.aload_n 1, 1) := by decide +kernel
theorem d_LW_law_273 : decode code 273 = .ok (.aload_n 0, 1) := by decide +kernel
theorem d_LW_law_274 : decode code 274 = .ok (.iload_n 3, 1) := by decide +kernel
theorem d_LW_law_275 : decode code 275 = .ok (.iconst 1, 1) := by decide +kernel
theorem d_LW_law_276 : decode code 276 = .ok (.iadd, 1) := by decide +kernel
theorem d_LW_law_277 : decode code 277 = .ok (.iaload, 1) := by decide +kernel
theorem d_LW_law_278 : decode code 278 = .ok (.aload_n 0, 1) := by decide +kernel
theorem d_LW_law_279 : decode code 279 = .ok (.iload_n 3, 1) := by decide +kernel
theorem d_LW_law_280 : decode code 280 = .ok (.iconst 2, 1) := by decide +kernel
theorem d_LW_law_281 : decode code 281 = .ok (.iadd, 1) := by decide +kernel
theorem d_LW_law_282 : decode code 282 = .ok (.iaload, 1) := by decide +kernel
theorem d_LW_law_283 : decode code 283 = .ok (.invokevirtual 42, 3) := by decide +kernel
theorem d_LW_law_286 : decode code 286 = .ok (.aload_n 2, 1) := by decide +kernel
theorem d_LW_law_287 : decode code 287 = .ok (.aload_n 0, 1) := by decide +kernel
theorem d_LW_law_288 : decode code 288 = .ok (.iload_n 3, 1) := by decide +kernel
theorem d_LW_law_289 : decode code 289 = .ok (.iconst 1, 1) := by decide +kernel
theorem d_LW_law_290 : decode code 290 = .ok (.iadd, 1) := by decide +kernel
theorem d_LW_law_291 : decode code 291 = .ok (.iaload, 1) := by decide +kernel
theorem d_LW_law_292 : decode code 292 = .ok (.aload_n 0, 1) := by decide +kernel
theorem d_LW_law_293 : decode code 293 = .ok (.iload_n 3, 1) := by decide +kernel
theorem d_LW_law_294 : decode code 294 = .ok (.iconst 2, 1) := by decide +kernel
theorem d_LW_law_295 : decode code 295 = .ok (.iadd, 1) := by decide +kernel
theorem d_LW_law_296 : decode code 296 = .ok (.iaload, 1) := by decide +kernel
theorem d_LW_law_297 : decode code 297 = .ok (.invokevirtual 46, 3) := by decide +kernel
theorem d_LW_law_300 : decode code 300 = .ok (.if_icmp .eq 431, 3) := by decide +kernel
theorem d_LW_law_303 : decode code 303 = .ok (.iconst 0, 1) := by decide +kernel
theorem d_LW_law_304 : decode code 304 = .ok (.ireturn, 1) := by decide +kernel
theorem d_LW_law_305 : decode code 305 = .ok (.aload_n 1, 1) := by decide +kernel
theorem d_LW_law_306 : decode code 306 = .ok (.aload_n 0, 1) := by decide +kernel
theorem d_LW_law_307 : decode code 307 = .ok (.iload_n 3, 1) := by decide +kernel
theorem d_LW_law_308 : decode code 308 = .ok (.iconst 1, 1) := by decide +kernel
theorem d_LW_law_309 : decode code 309 = .ok (.iadd, 1) := by decide +kernel
theorem d_LW_law_310 : decode code 310 = .ok (.iaload, 1) := by decide +kernel
theorem d_LW_law_311 : decode code 311 = .ok (.aload_n 0, 1) := by decide +kernel
theorem d_LW_law_312 : decode code 312 = .ok (.iload_n 3, 1) := by decide +kernel
theorem d_LW_law_313 : decode code 313 = .ok (.iconst 2, 1) := by decide +kernel
theorem d_LW_law_314 : decode code 314 = .ok (.iadd, 1) := by decide +kernel
theorem d_LW_law_315 : decode code 315 = .ok (.iaload, 1) := by decide +kernel
theorem d_LW_law_316 : decode code 316 = .ok (.aload_n 0, 1) := by decide +kernel
theorem d_LW_law_317 : decode code 317 = .ok (.iload_n 3, 1) := by decide +kernel
theorem d_LW_law_318 : decode code 318 = .ok (.iconst 3, 1) := by decide +kernel
theorem d_LW_law_319 : decode code 319 = .ok (.iadd, 1) := by decide +kernel
theorem d_LW_law_320 : decode code 320 = .ok (.iaload, 1) := by decide +kernel
theorem d_LW_law_321 : decode code 321 = .ok (.invokevirtual 47, 3) := by decide +kernel
theorem d_LW_law_324 : decode code 324 = .ok (.aload_n 2, 1) := by decide +kernel
theorem d_LW_law_325 : decode code 325 = .ok (.aload_n 0, 1) := by decide +kernel
theorem d_LW_law_326 : decode code 326 = .ok (.iload_n 3, 1) := by decide +kernel
theorem d_LW_law_327 : decode code 327 = .ok (.iconst 1, 1) := by decide +kernel
theorem d_LW_law_328 : decode code 328 = .ok (.iadd, 1) := by decide +kernel
theorem d_LW_law_329 : decode code 329 = .ok (.iaload, 1) := by decide +kernel
theorem d_LW_law_330 : decode code 330 = .ok (.aload_n 0, 1) := by decide +kernel
theorem d_LW_law_331 : decode code 331 = .ok (.iload_n 3, 1) := by decide +kernel
theorem d_LW_law_332 : decode code 332 = .ok (.iconst 2, 1) := by decide +kernel
theorem d_LW_law_333 : decode code 333 = .ok (.iadd, 1) := by decide +kernel
theorem d_LW_law_334 : decode code 334 = .ok (.iaload, 1) := by decide +kernel
theorem d_LW_law_335 : decode code 335 = .ok (.aload_n 0, 1) := by decide +kernel
theorem d_LW_law_336 : decode code 336 = .ok (.iload_n 3, 1) := by decide +kernel
theorem d_LW_law_337 : decode code 337 = .ok (.iconst 3, 1) := by decide +kernel
theorem d_LW_law_338 : decode code 338 = .ok (.iadd, 1) := by decide +kernel
theorem d_LW_law_339 : decode code 339 = .ok (.iaload, 1) := by decide +kernel
theorem d_LW_law_340 : decode code 340 = .ok (.invokevirtual 51, 3) := by decide +kernel
theorem d_LW_law_343 : decode code 343 = .ok (.if_icmp .eq 388, 3) := by decide +kernel
theorem d_LW_law_346 : decode code 346 = .ok (.iconst 0, 1) := by decide +kernel
theorem d_LW_law_347 : decode code 347 = .ok (.ireturn, 1) := by decide +kernel
theorem d_LW_law_348 : decode code 348 = .ok (.aload_n 1, 1) := by decide +kernel
theorem d_LW_law_349 : decode code 349 = .ok (.aload_n 0, 1) := by decide +kernel
theorem d_LW_law_350 : decode code 350 = .ok (.iload_n 3, 1) := by decide +kernel
theorem d_LW_law_351 : decode code 351 = .ok (.iconst 1, 1) := by decide +kernel
theorem d_LW_law_352 : decode code 352 = .ok (.iadd, 1) := by decide +kernel
theorem d_LW_law_353 : decode code 353 = .ok (.iaload, 1) := by decide +kernel
theorem d_LW_law_354 : decode code 354 = .ok (.aload_n 0, 1) := by decide +kernel
theorem d_LW_law_355 : decode code 355 = .ok (.iload_n 3, 1) := by decide +kernel
theorem d_LW_law_356 : decode code 356 = .ok (.iconst 2, 1) := by decide +kernel
theorem d_LW_law_357 : decode code 357 = .ok (.iadd, 1) := by decide +kernel
theorem d_LW_law_358 : decode code 358 = .ok (.iaload, 1) := by decide +kernel
theorem d_LW_law_359 : decode code 359 = .ok (.invokevirtual 52, 3) := by decide +kernel
theorem d_LW_law_362 : decode code 362 = .ok (.aload_n 2, 1) := by decide +kernel
theorem d_LW_law_363 : decode code 363 = .ok (.aload_n 0, 1) := by decide +kernel
theorem d_LW_law_364 : decode code 364 = .ok (.iload_n 3, 1) := by decide +kernel
theorem d_LW_law_365 : decode code 365 = .ok (.iconst 1, 1) := by decide +kernel
theorem d_LW_law_366 : decode code 366 = .ok (.iadd, 1) := by decide +kernel
theorem d_LW_law_367 : decode code 367 = .ok (.iaload, 1) := by decide +kernel
theorem d_LW_law_368 : decode code 368 = .ok (.aload_n 0, 1) := by decide +kernel
theorem d_LW_law_369 : decode code 369 = .ok (.iload_n 3, 1) := by decide +kernel
theorem d_LW_law_370 : decode code 370 = .ok (.iconst 2, 1) := by decide +kernel
theorem d_LW_law_371 : decode code 371 = .ok (.iadd, 1) := by decide +kernel
theorem d_LW_law_372 : decode code 372 = .ok (.iaload, 1) := by decide +kernel
theorem d_LW_law_373 : decode code 373 = .ok (.invokevirtual 55, 3) := by decide +kernel
theorem d_LW_law_376 : decode code 376 = .ok (.if_icmp .eq 355, 3) := by decide +kernel
theorem d_LW_law_379 : decode code 379 = .ok (.iconst 0, 1) := by decide +kernel
theorem d_LW_law_380 : decode code 380 = .ok (.ireturn, 1) := by decide +kernel
theorem d_LW_law_381 : decode code 381 = .ok (.aload_n 1, 1) := by decide +kernel
theorem d_LW_law_382 : decode code 382 = .ok (.aload_n 0, 1) := by decide +kernel
theorem d_LW_law_383 : decode code 383 = .ok (.iload_n 3, 1) := by decide +kernel
theorem d_LW_law_384 : decode code 384 = .ok (.iconst 1, 1) := by decide +kernel
theorem d_LW_law_385 : decode code 385 = .ok (.iadd, 1) := by decide +kernel
theorem d_LW_law_386 : decode code 386 = .ok (.iaload, 1) := by decide +kernel
theorem d_LW_law_387 : decode code 387 = .ok (.invokevirtual 56, 3) := by decide +kernel
theorem d_LW_law_390 : decode code 390 = .ok (.aload_n 2, 1) := by decide +kernel
theorem d_LW_law_391 : decode code 391 = .ok (.aload_n 0, 1) := by decide +kernel
theorem d_LW_law_392 : decode code 392 = .ok (.iload_n 3, 1) := by decide +kernel
theorem d_LW_law_393 : decode code 393 = .ok (.iconst 1, 1) := by decide +kernel
theorem d_LW_law_394 : decode code 394 = .ok (.iadd, 1) := by decide +kernel
theorem d_LW_law_395 : decode code 395 = .ok (.iaload, 1) := by decide +kernel
theorem d_LW_law_396 : decode code 396 = .ok (.invokevirtual 59, 3) := by decide +kernel
theorem d_LW_law_399 : decode code 399 = .ok (.if_icmp .eq 332, 3) := by decide +kernel
theorem d_LW_law_402 : decode code 402 = .ok (.iconst 0, 1) := by decide +kernel
theorem d_LW_law_403 : decode code 403 = .ok (.ireturn, 1) := by decide +kernel
theorem d_LW_law_404 : decode code 404 = .ok (.aload_n 1, 1) := by decide +kernel
theorem d_LW_law_405 : decode code 405 = .ok (.aload_n 0, 1) := by decide +kernel
theorem d_LW_law_406 : decode code 406 = .ok (.iload_n 3, 1) := by decide +kernel
theorem d_LW_law_407 : decode code 407 = .ok (.iconst 1, 1) := by decide +kernel
theorem d_LW_law_408 : decode code 408 = .ok (.iadd, 1) := by decide +kernel
theorem d_LW_law_409 : decode code 409 = .ok (.iaload, 1) := by decide +kernel
theorem d_LW_law_410 : decode code 410 = .ok (.aload_n 0, 1) := by decide +kernel
theorem d_LW_law_411 : decode code 411 = .ok (.iload_n 3, 1) := by decide +kernel
theorem d_LW_law_412 : decode code 412 = .ok (.iconst 2, 1) := by decide +kernel
theorem d_LW_law_413 : decode code 413 = .ok (.iadd, 1) := by decide +kernel
theorem d_LW_law_414 : decode code 414 = .ok (.iaload, 1) := by decide +kernel
theorem d_LW_law_415 : decode code 415 = .ok (.aload_n 0, 1) := by decide +kernel
theorem d_LW_law_416 : decode code 416 = .ok (.iload_n 3, 1) := by decide +kernel
theorem d_LW_law_417 : decode code 417 = .ok (.iconst 3, 1) := by decide +kernel
theorem d_LW_law_418 : decode code 418 = .ok (.iadd, 1) := by decide +kernel
theorem d_LW_law_419 : decode code 419 = .ok (.iaload, 1) := by decide +kernel
theorem d_LW_law_420 : decode code 420 = .ok (.invokevirtual 60, 3) := by decide +kernel
theorem d_LW_law_423 : decode code 423 = .ok (.aload_n 2, 1) := by decide +kernel
