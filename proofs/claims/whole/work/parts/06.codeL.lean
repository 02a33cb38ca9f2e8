theorem dL_law_0 : decode mL_law.2.1 0 = .ok (.new 7, 3) := by decide +kernel
theorem dL_law_3 : decode mL_law.2.1 3 = .ok (.dup, 1) := by decide +kernel
theorem dL_law_4 : decode mL_law.2.1 4 = .ok (.invokespecial 9, 3) := by decide +kernel
theorem dL_law_7 : decode mL_law.2.1 7 = .ok (.astore_n 1, 1) := by decide +kernel
theorem dL_law_8 : decode mL_law.2.1 8 = .ok (.new 10, 3) := by decide +kernel
theorem dL_law_11 : decode mL_law.2.1 11 = .ok (.dup, 1) := by decide +kernel
theorem dL_law_12 : decode mL_law.2.1 12 = .ok (.invokespecial 12, 3) := by decide +kernel
theorem dL_law_15 : decode mL_law.2.1 15 = .ok (.astore_n 2, 1) := by decide +kernel
theorem dL_law_16 : decode mL_law.2.1 16 = .ok (.iconst 0, 1) := by decide +kernel
theorem dL_law_17 : decode mL_law.2.1 17 = .ok (.istore_n 3, 1) := by decide +kernel
theorem dL_law_18 : decode mL_law.2.1 18 = .ok (.iload_n 3, 1) := by decide +kernel
theorem dL_law_19 : decode mL_law.2.1 19 = .ok (.aload_n 0, 1) := by decide +kernel
theorem dL_law_20 : decode mL_law.2.1 20 = .ok (.arraylength, 1) := by decide +kernel
theorem dL_law_21 : decode mL_law.2.1 21 = .ok (.iconst 3, 1) := by decide +kernel
theorem dL_law_22 : decode mL_law.2.1 22 = .ok (.isub, 1) := by decide +kernel
theorem dL_law_23 : decode mL_law.2.1 23 = .ok (.if_icmp .gt 649, 3) := by decide +kernel
theorem dL_law_26 : decode mL_law.2.1 26 = .ok (.aload_n 0, 1) := by decide +kernel
theorem dL_law_27 : decode mL_law.2.1 27 = .ok (.iload_n 3, 1) := by decide +kernel
theorem dL_law_28 : decode mL_law.2.1 28 = .ok (.iaload, 1) := by decide +kernel
theorem dL_law_29 : decode mL_law.2.1 29 = .ok (.bipush 31, 2) := by decide +kernel
theorem dL_law_31 : decode mL_law.2.1 31 = .ok (.iand, 1) := by decide +kernel
theorem dL_law_32 : decode mL_law.2.1 32 = .ok (.tableswitch 634 0 23 #[112, 135, 148, 161, 184, 217, 240, 253, 276, 289, 322, 345, 358, 381, 404, 427, 450, 473, 506, 529, 552, 565, 588, 611], 112) := by decide +kernel
theorem dL_law_144 : decode mL_law.2.1 144 = .ok (.aload_n 1, 1) := by decide +kernel
theorem dL_law_145 : decode mL_law.2.1 145 = .ok (.aload_n 0, 1) := by decide +kernel
theorem dL_law_146 : decode mL_law.2.1 146 = .ok (.iload_n 3, 1) := by decide +kernel
theorem dL_law_147 : decode mL_law.2.1 147 = .ok (.iconst 1, 1) := by decide +kernel
theorem dL_law_148 : decode mL_law.2.1 148 = .ok (.iadd, 1) := by decide +kernel
theorem dL_law_149 : decode mL_law.2.1 149 = .ok (.iaload, 1) := by decide +kernel
theorem dL_law_150 : decode mL_law.2.1 150 = .ok (.invokevirtual 13, 3) := by decide +kernel
theorem dL_law_153 : decode mL_law.2.1 153 = .ok (.aload_n 2, 1) := by decide +kernel
theorem dL_law_154 : decode mL_law.2.1 154 = .ok (.aload_n 0, 1) := by decide +kernel
theorem dL_law_155 : decode mL_law.2.1 155 = .ok (.iload_n 3, 1) := by decide +kernel
theorem dL_law_156 : decode mL_law.2.1 156 = .ok (.iconst 1, 1) := by decide +kernel
theorem dL_law_157 : decode mL_law.2.1 157 = .ok (.iadd, 1) := by decide +kernel
theorem dL_law_158 : decode mL_law.2.1 158 = .ok (.iaload, 1) := by decide +kernel
theorem dL_law_159 : decode mL_law.2.1 159 = .ok (.invokevirtual 17, 3) := by decide +kernel
theorem dL_law_162 : decode mL_law.2.1 162 = .ok (.if_icmp .eq 504, 3) := by decide +kernel
theorem dL_law_165 : decode mL_law.2.1 165 = .ok (.iconst 0, 1) := by decide +kernel
theorem dL_law_166 : decode mL_law.2.1 166 = .ok (.ireturn, 1) := by decide +kernel
theorem dL_law_167 : decode mL_law.2.1 167 = .ok (.aload_n 1, 1) := by decide +kernel
theorem dL_law_168 : decode mL_law.2.1 168 = .ok (.invokevirtual 18, 3) := by decide +kernel
theorem dL_law_171 : decode mL_law.2.1 171 = .ok (.aload_n 2, 1) := by decide +kernel
theorem dL_law_172 : decode mL_law.2.1 172 = .ok (.invokevirtual 22, 3) := by decide +kernel
theorem dL_law_175 : decode mL_law.2.1 175 = .ok (.if_icmp .eq 491, 3) := by decide +kernel
theorem dL_law_178 : decode mL_law.2.1 178 = .ok (.iconst 0, 1) := by decide +kernel
theorem dL_law_179 : decode mL_law.2.1 179 = .ok (.ireturn, 1) := by decide +kernel
theorem dL_law_180 : decode mL_law.2.1 180 = .ok (.aload_n 1, 1) := by decide +kernel
theorem dL_law_181 : decode mL_law.2.1 181 = .ok (.invokevirtual 23, 3) := by decide +kernel
theorem dL_law_184 : decode mL_law.2.1 184 = .ok (.aload_n 2, 1) := by decide +kernel
theorem dL_law_185 : decode mL_law.2.1 185 = .ok (.invokevirtual 26, 3) := by decide +kernel
theorem dL_law_188 : decode mL_law.2.1 188 = .ok (.if_icmp .eq 478, 3) := by decide +kernel
theorem dL_law_191 : decode mL_law.2.1 191 = .ok (.iconst 0, 1) := by decide +kernel
theorem dL_law_192 : decode mL_law.2.1 192 = .ok (.ireturn, 1) := by decide +kernel
theorem dL_law_193 : decode mL_law.2.1 193 = .ok (.aload_n 1, 1) := by decide +kernel
theorem dL_law_194 : decode mL_law.2.1 194 = .ok (.aload_n 0, 1) := by decide +kernel
theorem dL_law_195 : decode mL_law.2.1 195 = .ok (.iload_n 3, 1) := by decide +kernel
theorem dL_law_196 : decode mL_law.2.1 196 = .ok (.iconst 1, 1) := by decide +kernel
theorem dL_law_197 : decode mL_law.2.1 197 = .ok (.iadd, 1) := by decide +kernel
theorem dL_law_198 : decode mL_law.2.1 198 = .ok (.iaload, 1) := by decide +kernel
theorem dL_law_199 : decode mL_law.2.1 199 = .ok (.invokevirtual 27, 3) := by decide +kernel
theorem dL_law_202 : decode mL_law.2.1 202 = .ok (.aload_n 2, 1) := by decide +kernel
theorem dL_law_203 : decode mL_law.2.1 203 = .ok (.aload_n 0, 1) := by decide +kernel
theorem dL_law_204 : decode mL_law.2.1 204 = .ok (.iload_n 3, 1) := by decide +kernel
theorem dL_law_205 : decode mL_law.2.1 205 = .ok (.iconst 1, 1) := by decide +kernel
theorem dL_law_206 : decode mL_law.2.1 206 = .ok (.iadd, 1) := by decide +kernel
theorem dL_law_207 : decode mL_law.2.1 207 = .ok (.iaload, 1) := by decide +kernel
theorem dL_law_208 : decode mL_law.2.1 208 = .ok (.invokevirtual 30, 3) := by decide +kernel
theorem dL_law_211 : decode mL_law.2.1 211 = .ok (.if_icmp .eq 455, 3) := by decide +kernel
theorem dL_law_214 : decode mL_law.2.1 214 = .ok (.iconst 0, 1) := by decide +kernel
theorem dL_law_215 : decode mL_law.2.1 215 = .ok (.ireturn, 1) := by decide +kernel
theorem dL_law_216 : decode mL_law.2.1 216 = .ok (.aload_n 1, 1) := by decide +kernel
theorem dL_law_217 : decode mL_law.2.1 217 = .ok (.aload_n 0, 1) := by decide +kernel
theorem dL_law_218 : decode mL_law.2.1 218 = .ok (.iload_n 3, 1) := by decide +kernel
theorem dL_law_219 : decode mL_law.2.1 219 = .ok (.iconst 1, 1) := by decide +kernel
theorem dL_law_220 : decode mL_law.2.1 220 = .ok (.iadd, 1) := by decide +kernel
theorem dL_law_221 : decode mL_law.2.1 221 = .ok (.iaload, 1) := by decide +kernel
theorem dL_law_222 : decode mL_law.2.1 222 = .ok (.aload_n 0, 1) := by decide +kernel
theorem dL_law_223 : decode mL_law.2.1 223 = .ok (.iload_n 3, 1) := by decide +kernel
theorem dL_law_224 : decode mL_law.2.1 224 = .ok (.iconst 2, 1) := by decide +kernel
theorem dL_law_225 : decode mL_law.2.1 225 = .ok (.iadd, 1) := by decide +kernel
theorem dL_law_226 : decode mL_law.2.1 226 = .ok (.iaload, 1) := by decide +kernel
theorem dL_law_227 : decode mL_law.2.1 227 = .ok (.invokevirtual 31, 3) := by decide +kernel
theorem dL_law_230 : decode mL_law.2.1 230 = .ok (.aload_n 2, 1) := by decide +kernel
theorem dL_law_231 : decode mL_law.2.1 231 = .ok (.aload_n 0, 1) := by decide +kernel
theorem dL_law_232 : decode mL_law.2.1 232 = .ok (.iload_n 3, 1) := by decide +kernel
theorem dL_law_233 : decode mL_law.2.1 233 = .ok (.iconst 1, 1) := by decide +kernel
theorem dL_law_234 : decode mL_law.2.1 234 = .ok (.iadd, 1) := by decide +kernel
theorem dL_law_235 : decode mL_law.2.1 235 = .ok (.iaload, 1) := by decide +kernel
theorem dL_law_236 : decode mL_law.2.1 236 = .ok (.aload_n 0, 1) := by decide +kernel
theorem dL_law_237 : decode mL_law.2.1 237 = .ok (.iload_n 3, 1) := by decide +kernel
theorem dL_law_238 : decode mL_law.2.1 238 = .ok (.iconst 2, 1) := by decide +kernel
theorem dL_law_239 : decode mL_law.2.1 239 = .ok (.iadd, 1) := by decide +kernel
theorem dL_law_240 : decode mL_law.2.1 240 = .ok (.iaload, 1) := by decide +kernel
theorem dL_law_241 : decode mL_law.2.1 241 = .ok (.invokevirtual 35, 3) := by decide +kernel
theorem dL_law_244 : decode mL_law.2.1 244 = .ok (.if_icmp .eq 422, 3) := by decide +kernel
theorem dL_law_247 : decode mL_law.2.1 247 = .ok (.iconst 0, 1) := by decide +kernel
theorem dL_law_248 : decode mL_law.2.1 248 = .ok (.ireturn, 1) := by decide +kernel
theorem dL_law_249 : decode mL_law.2.1 249 = .ok (.aload_n 1, 1) := by decide +kernel
theorem dL_law_250 : decode mL_law.2.1 250 = .ok (.aload_n 0, 1) := by decide +kernel
theorem dL_law_251 : decode mL_law.2.1 251 = .ok (.iload_n 3, 1) := by decide +kernel
theorem dL_law_252 : decode mL_law.2.1 252 = .ok (.iconst 1, 1) := by decide +kernel
theorem dL_law_253 : decode mL_law.2.1 253 = .ok (.iadd, 1) := by decide +kernel
theorem dL_law_254 : decode mL_law.2.1 254 = .ok (.iaload, 1) := by decide +kernel
theorem dL_law_255 : decode mL_law.2.1 255 = .ok (.invokevirtual 36, 3) := by decide +kernel
theorem dL_law_258 : decode mL_law.2.1 258 = .ok (.aload_n 2, 1) := by decide +kernel
theorem dL_law_259 : decode mL_law.2.1 259 = .ok (.aload_n 0, 1) := by decide +kernel
theorem dL_law_260 : decode mL_law.2.1 260 = .ok (.iload_n 3, 1) := by decide +kernel
theorem dL_law_261 : decode mL_law.2.1 261 = .ok (.iconst 1, 1) := by decide +kernel
theorem dL_law_262 : decode mL_law.2.1 262 = .ok (.iadd, 1) := by decide +kernel
theorem dL_law_263 : decode mL_law.2.1 263 = .ok (.iaload, 1) := by decide +kernel
theorem dL_law_264 : decode mL_law.2.1 264 = .ok (.invokevirtual 39, 3) := by decide +kernel
theorem dL_law_267 : decode mL_law.2.1 267 = .ok (.if_icmp .eq 399, 3) := by decide +kernel
theorem dL_law_270 : decode mL_law.2.1 270 = .ok (.iconst 0, 1) := by decide +kernel
theorem dL_law_271 : decode mL_law.2.1 271 = .ok (.ireturn, 1) := by decide +kernel
theorem dL_law_272 : decode mL_law.2.1 272 = .ok (.aload_n 1, 1) := by decide +kernel
theorem dL_law_273 : decode mL_law.2.1 273 = .ok (.invokevirtual 40, 3) := by decide +kernel
theorem dL_law_276 : decode mL_law.2.1 276 = .ok (.aload_n 2, 1) := by decide +kernel
theorem dL_law_277 : decode mL_law.2.1 277 = .ok (.invokevirtual 43, 3) := by decide +kernel
theorem dL_law_280 : decode mL_law.2.1 280 = .ok (.if_icmp .eq 386, 3) := by decide +kernel
theorem dL_law_283 : decode mL_law.2.1 283 = .ok (.iconst 0, 1) := by decide +kernel
theorem dL_law_284 : decode mL_law.2.1 284 = .ok (.ireturn, 1) := by decide +kernel
theorem dL_law_285 : decode mL_law.2.1 285 = .ok (.aload_n 1, 1) := by decide +kernel
theorem dL_law_286 : decode mL_law.2.1 286 = .ok (.aload_n 0, 1) := by decide +kernel
theorem dL_law_287 : decode mL_law.2.1 287 = .ok (.iload_n 3, 1) := by decide +kernel
theorem dL_law_288 : decode mL_law.2.1 288 = .ok (.iconst 1, 1) := by decide +kernel
theorem dL_law_289 : decode mL_law.2.1 289 = .ok (.iadd, 1) := by decide +kernel
theorem dL_law_290 : decode mL_law.2.1 290 = .ok (.iaload, 1) := by decide +kernel
theorem dL_law_291 : decode mL_law.2.1 291 = .ok (.invokevirtual 44, 3) := by decide +kernel
theorem dL_law_294 : decode mL_law.2.1 294 = .ok (.aload_n 2, 1) := by decide +kernel
theorem dL_law_295 : decode mL_law.2.1 295 = .ok (.aload_n 0, 1) := by decide +kernel
theorem dL_law_296 : decode mL_law.2.1 296 = .ok (.iload_n 3, 1) := by decide +kernel
theorem dL_law_297 : decode mL_law.2.1 297 = .ok (.iconst 1, 1) := by decide +kernel
theorem dL_law_298 : decode mL_law.2.1 298 = .ok (.iadd, 1) := by decide +kernel
theorem dL_law_299 : decode mL_law.2.1 299 = .ok (.iaload, 1) := by decide +kernel
theorem dL_law_300 : decode mL_law.2.1 300 = .ok (.invokevirtual 47, 3) := by decide +kernel
theorem dL_law_303 : decode mL_law.2.1 303 = .ok (.if_icmp .eq 363, 3) := by decide +kernel
theorem dL_law_306 : decode mL_law.2.1 306 = .ok (.iconst 0, 1) := by decide +kernel
theorem dL_law_307 : decode mL_law.2.1 307 = .ok (.ireturn, 1) := by decide +kernel
theorem dL_law_308 : decode mL_law.2.1 308 = .ok (.aload_n 1, 1) := by decide +kernel
theorem dL_law_309 : decode mL_law.2.1 309 = .ok (.invokevirtual 48, 3) := by decide +kernel
theorem dL_law_312 : decode mL_law.2.1 312 = .ok (.aload_n 2, 1) := by decide +kernel
theorem dL_law_313 : decode mL_law.2.1 313 = .ok (.invokevirtual 51, 3) := by decide +kernel
theorem dL_law_316 : decode mL_law.2.1 316 = .ok (.if_icmp .eq 350, 3) := by decide +kernel
theorem dL_law_319 : decode mL_law.2.1 319 = .ok (.iconst 0, 1) := by decide +kernel
theorem dL_law_320 : decode mL_law.2.1 320 = .ok (.ireturn, 1) := by decide +kernel
theorem dL_law_321 : decode mL_law.2.1 321 = .ok (.aload_n 1, 1) := by decide +kernel
theorem dL_law_322 : decode mL_law.2.1 322 = .ok (.aload_n 0, 1) := by decide +kernel
theorem dL_law_323 : decode mL_law.2.1 323 = .ok (.iload_n 3, 1) := by decide +kernel
theorem dL_law_324 : decode mL_law.2.1 324 = .ok (.iconst 1, 1) := by decide +kernel
theorem dL_law_325 : decode mL_law.2.1 325 = .ok (.iadd, 1) := by decide +kernel
theorem dL_law_326 : decode mL_law.2.1 326 = .ok (.iaload, 1) := by decide +kernel
theorem dL_law_327 : decode mL_law.2.1 327 = .ok (.aload_n 0, 1) := by decide +kernel
theorem dL_law_328 : decode mL_law.2.1 328 = .ok (.iload_n 3, 1) := by decide +kernel
theorem dL_law_329 : decode mL_law.2.1 329 = .ok (.iconst 2, 1) := by decide +kernel
theorem dL_law_330 : decode mL_law.2.1 330 = .ok (.iadd, 1) := by decide +kernel
theorem dL_law_331 : decode mL_law.2.1 331 = .ok (.iaload, 1) := by decide +kernel
theorem dL_law_332 : decode mL_law.2.1 332 = .ok (.invokevirtual 52, 3) := by decide +kernel
theorem dL_law_335 : decode mL_law.2.1 335 = .ok (.aload_n 2, 1) := by decide +kernel
theorem dL_law_336 : decode mL_law.2.1 336 = .ok (.aload_n 0, 1) := by decide +kernel
theorem dL_law_337 : decode mL_law.2.1 337 = .ok (.iload_n 3, 1) := by decide +kernel
theorem dL_law_338 : decode mL_law.2.1 338 = .ok (.iconst 1, 1) := by decide +kernel
theorem dL_law_339 : decode mL_law.2.1 339 = .ok (.iadd, 1) := by decide +kernel
theorem dL_law_340 : decode mL_law.2.1 340 = .ok (.iaload, 1) := by decide +kernel
theorem dL_law_341 : decode mL_law.2.1 341 = .ok (.aload_n 0, 1) := by decide +kernel
theorem dL_law_342 : decode mL_law.2.1 342 = .ok (.iload_n 3, 1) := by decide +kernel
theorem dL_law_343 : decode mL_law.2.1 343 = .ok (.iconst 2, 1) := by decide +kernel
theorem dL_law_344 : decode mL_law.2.1 344 = .ok (.iadd, 1) := by decide +kernel
theorem dL_law_345 : decode mL_law.2.1 345 = .ok (.iaload, 1) := by decide +kernel
theorem dL_law_346 : decode mL_law.2.1 346 = .ok (.invokevirtual 55, 3) := by decide +kernel
theorem dL_law_349 : decode mL_law.2.1 349 = .ok (.if_icmp .eq 317, 3) := by decide +kernel
theorem dL_law_352 : decode mL_law.2.1 352 = .ok (.iconst 0, 1) := by decide +kernel
theorem dL_law_353 : decode mL_law.2.1 353 = .ok (.ireturn, 1) := by decide +kernel
theorem dL_law_354 : decode mL_law.2.1 354 = .ok (.aload_n 1, 1) := by decide +kernel
theorem dL_law_355 : decode mL_law.2.1 355 = .ok (.aload_n 0, 1) := by decide +kernel
theorem dL_law_356 : decode mL_law.2.1 356 = .ok (.iload_n 3, 1) := by decide +kernel
theorem dL_law_357 : decode mL_law.2.1 357 = .ok (.iconst 1, 1) := by decide +kernel
theorem dL_law_358 : decode mL_law.2.1 358 = .ok (.iadd, 1) := by decide +kernel
theorem dL_law_359 : decode mL_law.2.1 359 = .ok (.iaload, 1) := by decide +kernel
theorem dL_law_360 : decode mL_law.2.1 360 = .ok (.invokevirtual 56, 3) := by decide +kernel
theorem dL_law_363 : decode mL_law.2.1 363 = .ok (.aload_n 2, 1) := by decide +kernel
theorem dL_law_364 : decode mL_law.2.1 364 = .ok (.aload_n 0, 1) := by decide +kernel
theorem dL_law_365 : decode mL_law.2.1 365 = .ok (.iload_n 3, 1) := by decide +kernel
theorem dL_law_366 : decode mL_law.2.1 366 = .ok (.iconst 1, 1) := by decide +kernel
theorem dL_law_367 : decode mL_law.2.1 367 = .ok (.iadd, 1) := by decide +kernel
theorem dL_law_368 : decode mL_law.2.1 368 = .ok (.iaload, 1) := by decide +kernel
theorem dL_law_369 : decode mL_law.2.1 369 = .ok (.invokevirtual 59, 3) := by decide +kernel
theorem dL_law_372 : decode mL_law.2.1 372 = .ok (.if_icmp .eq 294, 3) := by decide +kernel
theorem dL_law_375 : decode mL_law.2.1 375 = .ok (.iconst 0, 1) := by decide +kernel
theorem dL_law_376 : decode mL_law.2.1 376 = .ok (.ireturn, 1) := by decide +kernel
theorem dL_law_377 : decode mL_law.2.1 377 = .ok (.aload_n 1, 1) := by decide +kernel
theorem dL_law_378 : decode mL_law.2.1 378 = .ok (.invokevirtual 60, 3) := by decide +kernel
theorem dL_law_381 : decode mL_law.2.1 381 = .ok (.aload_n 2, 1) := by decide +kernel
theorem dL_law_382 : decode mL_law.2.1 382 = .ok (.invokevirtual 63, 3) := by decide +kernel
theorem dL_law_385 : decode mL_law.2.1 385 = .ok (.if_icmp .eq 281, 3) := by decide +kernel
theorem dL_law_388 : decode mL_law.2.1 388 = .ok (.iconst 0, 1) := by decide +kernel
theorem dL_law_389 : decode mL_law.2.1 389 = .ok (.ireturn, 1) := by decide +kernel
theorem dL_law_390 : decode mL_law.2.1 390 = .ok (.aload_n 1, 1) := by decide +kernel
theorem dL_law_391 : decode mL_law.2.1 391 = .ok (.aload_n 0, 1) := by decide +kernel
theorem dL_law_392 : decode mL_law.2.1 392 = .ok (.iload_n 3, 1) := by decide +kernel
theorem dL_law_393 : decode mL_law.2.1 393 = .ok (.iconst 1, 1) := by decide +kernel
theorem dL_law_394 : decode mL_law.2.1 394 = .ok (.iadd, 1) := by decide +kernel
theorem dL_law_395 : decode mL_law.2.1 395 = .ok (.iaload, 1) := by decide +kernel
theorem dL_law_396 : decode mL_law.2.1 396 = .ok (.invokevirtual 64, 3) := by decide +kernel
theorem dL_law_399 : decode mL_law.2.1 399 = .ok (.aload_n 2, 1) := by decide +kernel
theorem dL_law_400 : decode mL_law.2.1 400 = .ok (.aload_n 0, 1) := by decide +kernel
theorem dL_law_401 : decode mL_law.2.1 401 = .ok (.iload_n 3, 1) := by decide +kernel
theorem dL_law_402 : decode mL_law.2.1 402 = .ok (.iconst 1, 1) := by decide +kernel
theorem dL_law_403 : decode mL_law.2.1 403 = .ok (.iadd, 1) := by decide +kernel
theorem dL_law_404 : decode mL_law.2.1 404 = .ok (.iaload, 1) := by decide +kernel
theorem dL_law_405 : decode mL_law.2.1 405 = .ok (.invokevirtual 67, 3) := by decide +kernel
theorem dL_law_408 : decode mL_law.2.1 408 = .ok (.if_icmp .eq 258, 3) := by decide +kernel
theorem dL_law_411 : decode mL_law.2.1 411 = .ok (.iconst 0, 1) := by decide +kernel
theorem dL_law_412 : decode mL_law.2.1 412 = .ok (.ireturn, 1) := by decide +kernel
theorem dL_law_413 : decode mL_law.2.1 413 = .ok (.aload_n 1, 1) := by decide +kernel
theorem dL_law_414 : decode mL_law.2.1 414 = .ok (.aload_n 0, 1) := by decide +kernel
theorem dL_law_415 : decode mL_law.2.1 415 = .ok (.iload_n 3, 1) := by decide +kernel
theorem dL_law_416 : decode mL_law.2.1 416 = .ok (.iconst 1, 1) := by decide +kernel
theorem dL_law_417 : decode mL_law.2.1 417 = .ok (.iadd, 1) := by decide +kernel
theorem dL_law_418 : decode mL_law.2.1 418 = .ok (.iaload, 1) := by decide +kernel
theorem dL_law_419 : decode mL_law.2.1 419 = .ok (.invokevirtual 68, 3) := by decide +kernel
theorem dL_law_422 : decode mL_law.2.1 422 = .ok (.aload_n 2, 1) := by decide +kernel
theorem dL_law_423 : decode mL_law.2.1 423 = .ok (.aload_n 0, 1) := by decide +kernel
theorem dL_law_424 : decode mL_law.2.1 424 = .ok (.iload_n 3, 1) := by decide +kernel
theorem dL_law_425 : decode mL_law.2.1 425 = .ok (.iconst 1, 1) := by decide +kernel
theorem dL_law_426 : decode mL_law.2.1 426 = .ok (.iadd, 1) := by decide +kernel
theorem dL_law_427 : decode mL_law.2.1 427 = .ok (.iaload, 1) := by decide +kernel
theorem dL_law_428 : decode mL_law.2.1 428 = .ok (.invokevirtual 71, 3) := by decide +kernel
theorem dL_law_431 : decode mL_law.2.1 431 = .ok (.if_icmp .eq 235, 3) := by decide +kernel
theorem dL_law_434 : decode mL_law.2.1 434 = .ok (.iconst 0, 1) := by decide +kernel
theorem dL_law_435 : decode mL_law.2.1 435 = .ok (.ireturn, 1) := by decide +kernel
theorem dL_law_436 : decode mL_law.2.1 436 = .ok (.aload_n 1, 1) := by decide +kernel
theorem dL_law_437 : decode mL_law.2.1 437 = .ok (.aload_n 0, 1) := by decide +kernel
theorem dL_law_438 : decode mL_law.2.1 438 = .ok (.iload_n 3, 1) := by decide +kernel
theorem dL_law_439 : decode mL_law.2.1 439 = .ok (.iconst 1, 1) := by decide +kernel
theorem dL_law_440 : decode mL_law.2.1 440 = .ok (.iadd, 1) := by decide +kernel
theorem dL_law_441 : decode mL_law.2.1 441 = .ok (.iaload, 1) := by decide +kernel
theorem dL_law_442 : decode mL_law.2.1 442 = .ok (.invokevirtual 72, 3) := by decide +kernel
theorem dL_law_445 : decode mL_law.2.1 445 = .ok (.aload_n 2, 1) := by decide +kernel
theorem dL_law_446 : decode mL_law.2.1 446 = .ok (.aload_n 0, 1) := by decide +kernel
theorem dL_law_447 : decode mL_law.2.1 447 = .ok (.iload_n 3, 1) := by decide +kernel
theorem dL_law_448 : decode mL_law.2.1 448 = .ok (.iconst 1, 1) := by decide +kernel
theorem dL_law_449 : decode mL_law.2.1 449 = .ok (.iadd, 1) := by decide +kernel
theorem dL_law_450 : decode mL_law.2.1 450 = .ok (.iaload, 1) := by decide +kernel
theorem dL_law_451 : decode mL_law.2.1 451 = .ok (.invokevirtual 75, 3) := by decide +kernel
theorem dL_law_454 : decode mL_law.2.1 454 = .ok (.if_icmp .eq 212, 3) := by decide +kernel
theorem dL_law_457 : decode mL_law.2.1 457 = .ok (.iconst 0, 1) := by decide +kernel
theorem dL_law_458 : decode mL_law.2.1 458 = .ok (.ireturn, 1) := by decide +kernel
theorem dL_law_459 : decode mL_law.2.1 459 = .ok (.aload_n 1, 1) := by decide +kernel
theorem dL_law_460 : decode mL_law.2.1 460 = .ok (.aload_n 0, 1) := by decide +kernel
theorem dL_law_461 : decode mL_law.2.1 461 = .ok (.iload_n 3, 1) := by decide +kernel
theorem dL_law_462 : decode mL_law.2.1 462 = .ok (.iconst 1, 1) := by decide +kernel
theorem dL_law_463 : decode mL_law.2.1 463 = .ok (.iadd, 1) := by decide +kernel
theorem dL_law_464 : decode mL_law.2.1 464 = .ok (.iaload, 1) := by decide +kernel
theorem dL_law_465 : decode mL_law.2.1 465 = .ok (.invokevirtual 76, 3) := by decide +kernel
theorem dL_law_468 : decode mL_law.2.1 468 = .ok (.aload_n 2, 1) := by decide +kernel
theorem dL_law_469 : decode mL_law.2.1 469 = .ok (.aload_n 0, 1) := by decide +kernel
theorem dL_law_470 : decode mL_law.2.1 470 = .ok (.iload_n 3, 1) := by decide +kernel
theorem dL_law_471 : decode mL_law.2.1 471 = .ok (.iconst 1, 1) := by decide +kernel
theorem dL_law_472 : decode mL_law.2.1 472 = .ok (.iadd, 1) := by decide +kernel
theorem dL_law_473 : decode mL_law.2.1 473 = .ok (.iaload, 1) := by decide +kernel
theorem dL_law_474 : decode mL_law.2.1 474 = .ok (.invokevirtual 79, 3) := by decide +kernel
theorem dL_law_477 : decode mL_law.2.1 477 = .ok (.if_icmp .eq 189, 3) := by decide +kernel
theorem dL_law_480 : decode mL_law.2.1 480 = .ok (.iconst 0, 1) := by decide +kernel
theorem dL_law_481 : decode mL_law.2.1 481 = .ok (.ireturn, 1) := by decide +kernel
theorem dL_law_482 : decode mL_law.2.1 482 = .ok (.aload_n 1, 1) := by decide +kernel
theorem dL_law_483 : decode mL_law.2.1 483 = .ok (.aload_n 0, 1) := by decide +kernel
theorem dL_law_484 : decode mL_law.2.1 484 = .ok (.iload_n 3, 1) := by decide +kernel
theorem dL_law_485 : decode mL_law.2.1 485 = .ok (.iconst 1, 1) := by decide +kernel
theorem dL_law_486 : decode mL_law.2.1 486 = .ok (.iadd, 1) := by decide +kernel
theorem dL_law_487 : decode mL_law.2.1 487 = .ok (.iaload, 1) := by decide +kernel
theorem dL_law_488 : decode mL_law.2.1 488 = .ok (.invokevirtual 80, 3) := by decide +kernel
theorem dL_law_491 : decode mL_law.2.1 491 = .ok (.aload_n 2, 1) := by decide +kernel
theorem dL_law_492 : decode mL_law.2.1 492 = .ok (.aload_n 0, 1) := by decide +kernel
theorem dL_law_493 : decode mL_law.2.1 493 = .ok (.iload_n 3, 1) := by decide +kernel
theorem dL_law_494 : decode mL_law.2.1 494 = .ok (.iconst 1, 1) := by decide +kernel
theorem dL_law_495 : decode mL_law.2.1 495 = .ok (.iadd, 1) := by decide +kernel
theorem dL_law_496 : decode mL_law.2.1 496 = .ok (.iaload, 1) := by decide +kernel
theorem dL_law_497 : decode mL_law.2.1 497 = .ok (.invokevirtual 83, 3) := by decide +kernel
theorem dL_law_500 : decode mL_law.2.1 500 = .ok (.if_icmp .eq 166, 3) := by decide +kernel
theorem dL_law_503 : decode mL_law.2.1 503 = .ok (.iconst 0, 1) := by decide +kernel
theorem dL_law_504 : decode mL_law.2.1 504 = .ok (.ireturn, 1) := by decide +kernel
theorem dL_law_505 : decode mL_law.2.1 505 = .ok (.aload_n 1, 1) := by decide +kernel
theorem dL_law_506 : decode mL_law.2.1 506 = .ok (.aload_n 0, 1) := by decide +kernel
theorem dL_law_507 : decode mL_law.2.1 507 = .ok (.iload_n 3, 1) := by decide +kernel
theorem dL_law_508 : decode mL_law.2.1 508 = .ok (.iconst 1, 1) := by decide +kernel
theorem dL_law_509 : decode mL_law.2.1 509 = .ok (.iadd, 1) := by decide +kernel
theorem dL_law_510 : decode mL_law.2.1 510 = .ok (.iaload, 1) := by decide +kernel
theorem dL_law_511 : decode mL_law.2.1 511 = .ok (.aload_n 0, 1) := by decide +kernel
theorem dL_law_512 : decode mL_law.2.1 512 = .ok (.iload_n 3, 1) := by decide +kernel
theorem dL_law_513 : decode mL_law.2.1 513 = .ok (.iconst 2, 1) := by decide +kernel
theorem dL_law_514 : decode mL_law.2.1 514 = .ok (.iadd, 1) := by decide +kernel
theorem dL_law_515 : decode mL_law.2.1 515 = .ok (.iaload, 1) := by decide +kernel
theorem dL_law_516 : decode mL_law.2.1 516 = .ok (.invokevirtual 84, 3) := by decide +kernel
theorem dL_law_519 : decode mL_law.2.1 519 = .ok (.aload_n 2, 1) := by decide +kernel
theorem dL_law_520 : decode mL_law.2.1 520 = .ok (.aload_n 0, 1) := by decide +kernel
theorem dL_law_521 : decode mL_law.2.1 521 = .ok (.iload_n 3, 1) := by decide +kernel
theorem dL_law_522 : decode mL_law.2.1 522 = .ok (.iconst 1, 1) := by decide +kernel
theorem dL_law_523 : decode mL_law.2.1 523 = .ok (.iadd, 1) := by decide +kernel
theorem dL_law_524 : decode mL_law.2.1 524 = .ok (.iaload, 1) := by decide +kernel
theorem dL_law_525 : decode mL_law.2.1 525 = .ok (.aload_n 0, 1) := by decide +kernel
theorem dL_law_526 : decode mL_law.2.1 526 = .ok (.iload_n 3, 1) := by decide +kernel
theorem dL_law_527 : decode mL_law.2.1 527 = .ok (.iconst 2, 1) := by decide +kernel
theorem dL_law_528 : decode mL_law.2.1 528 = .ok (.iadd, 1) := by decide +kernel
theorem dL_law_529 : decode mL_law.2.1 529 = .ok (.iaload, 1) := by decide +kernel
theorem dL_law_530 : decode mL_law.2.1 530 = .ok (.invokevirtual 87, 3) := by decide +kernel
theorem dL_law_533 : decode mL_law.2.1 533 = .ok (.if_icmp .eq 133, 3) := by decide +kernel
theorem dL_law_536 : decode mL_law.2.1 536 = .ok (.iconst 0, 1) := by decide +kernel
theorem dL_law_537 : decode mL_law.2.1 537 = .ok (.ireturn, 1) := by decide +kernel
theorem dL_law_538 : decode mL_law.2.1 538 = .ok (.aload_n 1, 1) := by decide +kernel
theorem dL_law_539 : decode mL_law.2.1 539 = .ok (.aload_n 0, 1) := by decide +kernel
theorem dL_law_540 : decode mL_law.2.1 540 = .ok (.iload_n 3, 1) := by decide +kernel
theorem dL_law_541 : decode mL_law.2.1 541 = .ok (.iconst 1, 1) := by decide +kernel
theorem dL_law_542 : decode mL_law.2.1 542 = .ok (.iadd, 1) := by decide +kernel
theorem dL_law_543 : decode mL_law.2.1 543 = .ok (.iaload, 1) := by decide +kernel
theorem dL_law_544 : decode mL_law.2.1 544 = .ok (.invokevirtual 88, 3) := by decide +kernel
theorem dL_law_547 : decode mL_law.2.1 547 = .ok (.aload_n 2, 1) := by decide +kernel
theorem dL_law_548 : decode mL_law.2.1 548 = .ok (.aload_n 0, 1) := by decide +kernel
theorem dL_law_549 : decode mL_law.2.1 549 = .ok (.iload_n 3, 1) := by decide +kernel
theorem dL_law_550 : decode mL_law.2.1 550 = .ok (.iconst 1, 1) := by decide +kernel
theorem dL_law_551 : decode mL_law.2.1 551 = .ok (.iadd, 1) := by decide +kernel
theorem dL_law_552 : decode mL_law.2.1 552 = .ok (.iaload, 1) := by decide +kernel
theorem dL_law_553 : decode mL_law.2.1 553 = .ok (.invokevirtual 91, 3) := by decide +kernel
theorem dL_law_556 : decode mL_law.2.1 556 = .ok (.if_icmp .eq 110, 3) := by decide +kernel
theorem dL_law_559 : decode mL_law.2.1 559 = .ok (.iconst 0, 1) := by decide +kernel
theorem dL_law_560 : decode mL_law.2.1 560 = .ok (.ireturn, 1) := by decide +kernel
theorem dL_law_561 : decode mL_law.2.1 561 = .ok (.aload_n 1, 1) := by decide +kernel
theorem dL_law_562 : decode mL_law.2.1 562 = .ok (.aload_n 0, 1) := by decide +kernel
theorem dL_law_563 : decode mL_law.2.1 563 = .ok (.iload_n 3, 1) := by decide +kernel
theorem dL_law_564 : decode mL_law.2.1 564 = .ok (.iconst 1, 1) := by decide +kernel
theorem dL_law_565 : decode mL_law.2.1 565 = .ok (.iadd, 1) := by decide +kernel
theorem dL_law_566 : decode mL_law.2.1 566 = .ok (.iaload, 1) := by decide +kernel
theorem dL_law_567 : decode mL_law.2.1 567 = .ok (.invokevirtual 92, 3) := by decide +kernel
theorem dL_law_570 : decode mL_law.2.1 570 = .ok (.aload_n 2, 1) := by decide +kernel
theorem dL_law_571 : decode mL_law.2.1 571 = .ok (.aload_n 0, 1) := by decide +kernel
theorem dL_law_572 : decode mL_law.2.1 572 = .ok (.iload_n 3, 1) := by decide +kernel
theorem dL_law_573 : decode mL_law.2.1 573 = .ok (.iconst 1, 1) := by decide +kernel
theorem dL_law_574 : decode mL_law.2.1 574 = .ok (.iadd, 1) := by decide +kernel
theorem dL_law_575 : decode mL_law.2.1 575 = .ok (.iaload, 1) := by decide +kernel
theorem dL_law_576 : decode mL_law.2.1 576 = .ok (.invokevirtual 95, 3) := by decide +kernel
theorem dL_law_579 : decode mL_law.2.1 579 = .ok (.if_icmp .eq 87, 3) := by decide +kernel
theorem dL_law_582 : decode mL_law.2.1 582 = .ok (.iconst 0, 1) := by decide +kernel
theorem dL_law_583 : decode mL_law.2.1 583 = .ok (.ireturn, 1) := by decide +kernel
theorem dL_law_584 : decode mL_law.2.1 584 = .ok (.aload_n 1, 1) := by decide +kernel
theorem dL_law_585 : decode mL_law.2.1 585 = .ok (.invokevirtual 96, 3) := by decide +kernel
theorem dL_law_588 : decode mL_law.2.1 588 = .ok (.aload_n 2, 1) := by decide +kernel
theorem dL_law_589 : decode mL_law.2.1 589 = .ok (.invokevirtual 99, 3) := by decide +kernel
theorem dL_law_592 : decode mL_law.2.1 592 = .ok (.if_icmp .eq 74, 3) := by decide +kernel
theorem dL_law_595 : decode mL_law.2.1 595 = .ok (.iconst 0, 1) := by decide +kernel
theorem dL_law_596 : decode mL_law.2.1 596 = .ok (.ireturn, 1) := by decide +kernel
theorem dL_law_597 : decode mL_law.2.1 597 = .ok (.aload_n 1, 1) := by decide +kernel
theorem dL_law_598 : decode mL_law.2.1 598 = .ok (.aload_n 0, 1) := by decide +kernel
theorem dL_law_599 : decode mL_law.2.1 599 = .ok (.iload_n 3, 1) := by decide +kernel
theorem dL_law_600 : decode mL_law.2.1 600 = .ok (.iconst 1, 1) := by decide +kernel
theorem dL_law_601 : decode mL_law.2.1 601 = .ok (.iadd, 1) := by decide +kernel
theorem dL_law_602 : decode mL_law.2.1 602 = .ok (.iaload, 1) := by decide +kernel
theorem dL_law_603 : decode mL_law.2.1 603 = .ok (.invokevirtual 100, 3) := by decide +kernel
theorem dL_law_606 : decode mL_law.2.1 606 = .ok (.aload_n 2, 1) := by decide +kernel
theorem dL_law_607 : decode mL_law.2.1 607 = .ok (.aload_n 0, 1) := by decide +kernel
theorem dL_law_608 : decode mL_law.2.1 608 = .ok (.iload_n 3, 1) := by decide +kernel
theorem dL_law_609 : decode mL_law.2.1 609 = .ok (.iconst 1, 1) := by decide +kernel
theorem dL_law_610 : decode mL_law.2.1 610 = .ok (.iadd, 1) := by decide +kernel
theorem dL_law_611 : decode mL_law.2.1 611 = .ok (.iaload, 1) := by decide +kernel
theorem dL_law_612 : decode mL_law.2.1 612 = .ok (.invokevirtual 103, 3) := by decide +kernel
theorem dL_law_615 : decode mL_law.2.1 615 = .ok (.if_icmp .eq 51, 3) := by decide +kernel
theorem dL_law_618 : decode mL_law.2.1 618 = .ok (.iconst 0, 1) := by decide +kernel
theorem dL_law_619 : decode mL_law.2.1 619 = .ok (.ireturn, 1) := by decide +kernel
theorem dL_law_620 : decode mL_law.2.1 620 = .ok (.aload_n 1, 1) := by decide +kernel
theorem dL_law_621 : decode mL_law.2.1 621 = .ok (.aload_n 0, 1) := by decide +kernel
theorem dL_law_622 : decode mL_law.2.1 622 = .ok (.iload_n 3, 1) := by decide +kernel
theorem dL_law_623 : decode mL_law.2.1 623 = .ok (.iconst 1, 1) := by decide +kernel
theorem dL_law_624 : decode mL_law.2.1 624 = .ok (.iadd, 1) := by decide +kernel
theorem dL_law_625 : decode mL_law.2.1 625 = .ok (.iaload, 1) := by decide +kernel
theorem dL_law_626 : decode mL_law.2.1 626 = .ok (.invokevirtual 104, 3) := by decide +kernel
theorem dL_law_629 : decode mL_law.2.1 629 = .ok (.aload_n 2, 1) := by decide +kernel
theorem dL_law_630 : decode mL_law.2.1 630 = .ok (.aload_n 0, 1) := by decide +kernel
theorem dL_law_631 : decode mL_law.2.1 631 = .ok (.iload_n 3, 1) := by decide +kernel
theorem dL_law_632 : decode mL_law.2.1 632 = .ok (.iconst 1, 1) := by decide +kernel
theorem dL_law_633 : decode mL_law.2.1 633 = .ok (.iadd, 1) := by decide +kernel
theorem dL_law_634 : decode mL_law.2.1 634 = .ok (.iaload, 1) := by decide +kernel
theorem dL_law_635 : decode mL_law.2.1 635 = .ok (.invokevirtual 107, 3) := by decide +kernel
theorem dL_law_638 : decode mL_law.2.1 638 = .ok (.if_icmp .eq 28, 3) := by decide +kernel
theorem dL_law_641 : decode mL_law.2.1 641 = .ok (.iconst 0, 1) := by decide +kernel
theorem dL_law_642 : decode mL_law.2.1 642 = .ok (.ireturn, 1) := by decide +kernel
theorem dL_law_643 : decode mL_law.2.1 643 = .ok (.aload_n 1, 1) := by decide +kernel
theorem dL_law_644 : decode mL_law.2.1 644 = .ok (.aload_n 0, 1) := by decide +kernel
theorem dL_law_645 : decode mL_law.2.1 645 = .ok (.iload_n 3, 1) := by decide +kernel
theorem dL_law_646 : decode mL_law.2.1 646 = .ok (.iconst 1, 1) := by decide +kernel
theorem dL_law_647 : decode mL_law.2.1 647 = .ok (.iadd, 1) := by decide +kernel
theorem dL_law_648 : decode mL_law.2.1 648 = .ok (.iaload, 1) := by decide +kernel
theorem dL_law_649 : decode mL_law.2.1 649 = .ok (.invokevirtual 108, 3) := by decide +kernel
theorem dL_law_652 : decode mL_law.2.1 652 = .ok (.aload_n 2, 1) := by decide +kernel
theorem dL_law_653 : decode mL_law.2.1 653 = .ok (.aload_n 0, 1) := by decide +kernel
theorem dL_law_654 : decode mL_law.2.1 654 = .ok (.iload_n 3, 1) := by decide +kernel
theorem dL_law_655 : decode mL_law.2.1 655 = .ok (.iconst 1, 1) := by decide +kernel
theorem dL_law_656 : decode mL_law.2.1 656 = .ok (.iadd, 1) := by decide +kernel
theorem dL_law_657 : decode mL_law.2.1 657 = .ok (.iaload, 1) := by decide +kernel
theorem dL_law_658 : decode mL_law.2.1 658 = .ok (.invokevirtual 111, 3) := by decide +kernel
theorem dL_law_661 : decode mL_law.2.1 661 = .ok (.if_icmp .eq 5, 3) := by decide +kernel
theorem dL_law_664 : decode mL_law.2.1 664 = .ok (.iconst 0, 1) := by decide +kernel
theorem dL_law_665 : decode mL_law.2.1 665 = .ok (.ireturn, 1) := by decide +kernel
theorem dL_law_666 : decode mL_law.2.1 666 = .ok (.iinc 3 3, 3) := by decide +kernel
theorem dL_law_669 : decode mL_law.2.1 669 = .ok (.goto (-651), 3) := by decide +kernel
theorem dL_law_672 : decode mL_law.2.1 672 = .ok (.iconst 1, 1) := by decide +kernel
theorem dL_law_673 : decode mL_law.2.1 673 = .ok (.ireturn, 1) := by decide +kernel
