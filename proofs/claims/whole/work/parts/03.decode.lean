theorem dL_law_0 : decode cL_law 0 = .ok (.new 7, 3) := by decide +kernel
theorem dL_law_3 : decode cL_law 3 = .ok (.dup, 1) := by decide +kernel
theorem dL_law_4 : decode cL_law 4 = .ok (.invokespecial 9, 3) := by decide +kernel
theorem dL_law_7 : decode cL_law 7 = .ok (.astore_n 1, 1) := by decide +kernel
theorem dL_law_8 : decode cL_law 8 = .ok (.new 10, 3) := by decide +kernel
theorem dL_law_11 : decode cL_law 11 = .ok (.dup, 1) := by decide +kernel
theorem dL_law_12 : decode cL_law 12 = .ok (.invokespecial 12, 3) := by decide +kernel
theorem dL_law_15 : decode cL_law 15 = .ok (.astore_n 2, 1) := by decide +kernel
theorem dL_law_16 : decode cL_law 16 = .ok (.iconst 0, 1) := by decide +kernel
theorem dL_law_17 : decode cL_law 17 = .ok (.istore_n 3, 1) := by decide +kernel
theorem dL_law_18 : decode cL_law 18 = .ok (.iload_n 3, 1) := by decide +kernel
theorem dL_law_19 : decode cL_law 19 = .ok (.aload_n 0, 1) := by decide +kernel
theorem dL_law_20 : decode cL_law 20 = .ok (.arraylength, 1) := by decide +kernel
theorem dL_law_21 : decode cL_law 21 = .ok (.bipush 6, 2) := by decide +kernel
theorem dL_law_23 : decode cL_law 23 = .ok (.isub, 1) := by decide +kernel
theorem dL_law_24 : decode cL_law 24 = .ok (.if_icmp .gt 927, 3) := by decide +kernel
theorem dL_law_27 : decode cL_law 27 = .ok (.aload_n 0, 1) := by decide +kernel
theorem dL_law_28 : decode cL_law 28 = .ok (.iload_n 3, 1) := by decide +kernel
theorem dL_law_29 : decode cL_law 29 = .ok (.iaload, 1) := by decide +kernel
theorem dL_law_30 : decode cL_law 30 = .ok (.bipush 31, 2) := by decide +kernel
theorem dL_law_32 : decode cL_law 32 = .ok (.iand, 1) := by decide +kernel
theorem dL_law_33 : decode cL_law 33 = .ok (.tableswitch 912 0 27 #[127, 140, 183, 226, 249, 312, 325, 338, 361, 384, 427, 480, 503, 526, 539, 552, 575, 588, 631, 674, 697, 730, 743, 806, 829, 852, 875, 898], 127) := by decide +kernel
theorem dL_law_160 : decode cL_law 160 = .ok (.aload_n 1, 1) := by decide +kernel
theorem dL_law_161 : decode cL_law 161 = .ok (.invokevirtual 13, 3) := by decide +kernel
theorem dL_law_164 : decode cL_law 164 = .ok (.aload_n 2, 1) := by decide +kernel
theorem dL_law_165 : decode cL_law 165 = .ok (.invokevirtual 17, 3) := by decide +kernel
theorem dL_law_168 : decode cL_law 168 = .ok (.if_icmp .eq 777, 3) := by decide +kernel
theorem dL_law_171 : decode cL_law 171 = .ok (.iconst 0, 1) := by decide +kernel
theorem dL_law_172 : decode cL_law 172 = .ok (.ireturn, 1) := by decide +kernel
theorem dL_law_173 : decode cL_law 173 = .ok (.aload_n 1, 1) := by decide +kernel
theorem dL_law_174 : decode cL_law 174 = .ok (.aload_n 0, 1) := by decide +kernel
theorem dL_law_175 : decode cL_law 175 = .ok (.iload_n 3, 1) := by decide +kernel
theorem dL_law_176 : decode cL_law 176 = .ok (.iconst 1, 1) := by decide +kernel
theorem dL_law_177 : decode cL_law 177 = .ok (.iadd, 1) := by decide +kernel
theorem dL_law_178 : decode cL_law 178 = .ok (.iaload, 1) := by decide +kernel
theorem dL_law_179 : decode cL_law 179 = .ok (.aload_n 0, 1) := by decide +kernel
theorem dL_law_180 : decode cL_law 180 = .ok (.iload_n 3, 1) := by decide +kernel
theorem dL_law_181 : decode cL_law 181 = .ok (.iconst 2, 1) := by decide +kernel
theorem dL_law_182 : decode cL_law 182 = .ok (.iadd, 1) := by decide +kernel
theorem dL_law_183 : decode cL_law 183 = .ok (.iaload, 1) := by decide +kernel
theorem dL_law_184 : decode cL_law 184 = .ok (.aload_n 0, 1) := by decide +kernel
theorem dL_law_185 : decode cL_law 185 = .ok (.iload_n 3, 1) := by decide +kernel
theorem dL_law_186 : decode cL_law 186 = .ok (.iconst 3, 1) := by decide +kernel
theorem dL_law_187 : decode cL_law 187 = .ok (.iadd, 1) := by decide +kernel
theorem dL_law_188 : decode cL_law 188 = .ok (.iaload, 1) := by decide +kernel
theorem dL_law_189 : decode cL_law 189 = .ok (.invokevirtual 18, 3) := by decide +kernel
theorem dL_law_192 : decode cL_law 192 = .ok (.aload_n 2, 1) := by decide +kernel
theorem dL_law_193 : decode cL_law 193 = .ok (.aload_n 0, 1) := by decide +kernel
theorem dL_law_194 : decode cL_law 194 = .ok (.iload_n 3, 1) := by decide +kernel
theorem dL_law_195 : decode cL_law 195 = .ok (.iconst 1, 1) := by decide +kernel
theorem dL_law_196 : decode cL_law 196 = .ok (.iadd, 1) := by decide +kernel
theorem dL_law_197 : decode cL_law 197 = .ok (.iaload, 1) := by decide +kernel
theorem dL_law_198 : decode cL_law 198 = .ok (.aload_n 0, 1) := by decide +kernel
theorem dL_law_199 : decode cL_law 199 = .ok (.iload_n 3, 1) := by decide +kernel
theorem dL_law_200 : decode cL_law 200 = .ok (.iconst 2, 1) := by decide +kernel
theorem dL_law_201 : decode cL_law 201 = .ok (.iadd, 1) := by decide +kernel
theorem dL_law_202 : decode cL_law 202 = .ok (.iaload, 1) := by decide +kernel
theorem dL_law_203 : decode cL_law 203 = .ok (.aload_n 0, 1) := by decide +kernel
theorem dL_law_204 : decode cL_law 204 = .ok (.iload_n 3, 1) := by decide +kernel
theorem dL_law_205 : decode cL_law 205 = .ok (.iconst 3, 1) := by decide +kernel
theorem dL_law_206 : decode cL_law 206 = .ok (.iadd, 1) := by decide +kernel
theorem dL_law_207 : decode cL_law 207 = .ok (.iaload, 1) := by decide +kernel
theorem dL_law_208 : decode cL_law 208 = .ok (.invokevirtual 22, 3) := by decide +kernel
theorem dL_law_211 : decode cL_law 211 = .ok (.if_icmp .eq 734, 3) := by decide +kernel
theorem dL_law_214 : decode cL_law 214 = .ok (.iconst 0, 1) := by decide +kernel
theorem dL_law_215 : decode cL_law 215 = .ok (.ireturn, 1) := by decide +kernel
theorem dL_law_216 : decode cL_law 216 = .ok (.aload_n 1, 1) := by decide +kernel
theorem dL_law_217 : decode cL_law 217 = .ok (.aload_n 0, 1) := by decide +kernel
theorem dL_law_218 : decode cL_law 218 = .ok (.iload_n 3, 1) := by decide +kernel
theorem dL_law_219 : decode cL_law 219 = .ok (.iconst 1, 1) := by decide +kernel
theorem dL_law_220 : decode cL_law 220 = .ok (.iadd, 1) := by decide +kernel
theorem dL_law_221 : decode cL_law 221 = .ok (.iaload, 1) := by decide +kernel
theorem dL_law_222 : decode cL_law 222 = .ok (.aload_n 0, 1) := by decide +kernel
theorem dL_law_223 : decode cL_law 223 = .ok (.iload_n 3, 1) := by decide +kernel
theorem dL_law_224 : decode cL_law 224 = .ok (.iconst 2, 1) := by decide +kernel
theorem dL_law_225 : decode cL_law 225 = .ok (.iadd, 1) := by decide +kernel
theorem dL_law_226 : decode cL_law 226 = .ok (.iaload, 1) := by decide +kernel
theorem dL_law_227 : decode cL_law 227 = .ok (.aload_n 0, 1) := by decide +kernel
theorem dL_law_228 : decode cL_law 228 = .ok (.iload_n 3, 1) := by decide +kernel
theorem dL_law_229 : decode cL_law 229 = .ok (.iconst 3, 1) := by decide +kernel
theorem dL_law_230 : decode cL_law 230 = .ok (.iadd, 1) := by decide +kernel
theorem dL_law_231 : decode cL_law 231 = .ok (.iaload, 1) := by decide +kernel
theorem dL_law_232 : decode cL_law 232 = .ok (.invokevirtual 23, 3) := by decide +kernel
theorem dL_law_235 : decode cL_law 235 = .ok (.aload_n 2, 1) := by decide +kernel
theorem dL_law_236 : decode cL_law 236 = .ok (.aload_n 0, 1) := by decide +kernel
theorem dL_law_237 : decode cL_law 237 = .ok (.iload_n 3, 1) := by decide +kernel
theorem dL_law_238 : decode cL_law 238 = .ok (.iconst 1, 1) := by decide +kernel
theorem dL_law_239 : decode cL_law 239 = .ok (.iadd, 1) := by decide +kernel
theorem dL_law_240 : decode cL_law 240 = .ok (.iaload, 1) := by decide +kernel
theorem dL_law_241 : decode cL_law 241 = .ok (.aload_n 0, 1) := by decide +kernel
theorem dL_law_242 : decode cL_law 242 = .ok (.iload_n 3, 1) := by decide +kernel
theorem dL_law_243 : decode cL_law 243 = .ok (.iconst 2, 1) := by decide +kernel
theorem dL_law_244 : decode cL_law 244 = .ok (.iadd, 1) := by decide +kernel
theorem dL_law_245 : decode cL_law 245 = .ok (.iaload, 1) := by decide +kernel
theorem dL_law_246 : decode cL_law 246 = .ok (.aload_n 0, 1) := by decide +kernel
theorem dL_law_247 : decode cL_law 247 = .ok (.iload_n 3, 1) := by decide +kernel
theorem dL_law_248 : decode cL_law 248 = .ok (.iconst 3, 1) := by decide +kernel
theorem dL_law_249 : decode cL_law 249 = .ok (.iadd, 1) := by decide +kernel
theorem dL_law_250 : decode cL_law 250 = .ok (.iaload, 1) := by decide +kernel
theorem dL_law_251 : decode cL_law 251 = .ok (.invokevirtual 26, 3) := by decide +kernel
theorem dL_law_254 : decode cL_law 254 = .ok (.if_icmp .eq 691, 3) := by decide +kernel
theorem dL_law_257 : decode cL_law 257 = .ok (.iconst 0, 1) := by decide +kernel
theorem dL_law_258 : decode cL_law 258 = .ok (.ireturn, 1) := by decide +kernel
theorem dL_law_259 : decode cL_law 259 = .ok (.aload_n 1, 1) := by decide +kernel
theorem dL_law_260 : decode cL_law 260 = .ok (.aload_n 0, 1) := by decide +kernel
theorem dL_law_261 : decode cL_law 261 = .ok (.iload_n 3, 1) := by decide +kernel
theorem dL_law_262 : decode cL_law 262 = .ok (.iconst 1, 1) := by decide +kernel
theorem dL_law_263 : decode cL_law 263 = .ok (.iadd, 1) := by decide +kernel
theorem dL_law_264 : decode cL_law 264 = .ok (.iaload, 1) := by decide +kernel
theorem dL_law_265 : decode cL_law 265 = .ok (.invokevirtual 27, 3) := by decide +kernel
theorem dL_law_268 : decode cL_law 268 = .ok (.aload_n 2, 1) := by decide +kernel
theorem dL_law_269 : decode cL_law 269 = .ok (.aload_n 0, 1) := by decide +kernel
theorem dL_law_270 : decode cL_law 270 = .ok (.iload_n 3, 1) := by decide +kernel
theorem dL_law_271 : decode cL_law 271 = .ok (.iconst 1, 1) := by decide +kernel
theorem dL_law_272 : decode cL_law 272 = .ok (.iadd, 1) := by decide +kernel
theorem dL_law_273 : decode cL_law 273 = .ok (.iaload, 1) := by decide +kernel
theorem dL_law_274 : decode cL_law 274 = .ok (.invokevirtual 31, 3) := by decide +kernel
theorem dL_law_277 : decode cL_law 277 = .ok (.if_icmp .eq 668, 3) := by decide +kernel
theorem dL_law_280 : decode cL_law 280 = .ok (.iconst 0, 1) := by decide +kernel
theorem dL_law_281 : decode cL_law 281 = .ok (.ireturn, 1) := by decide +kernel
theorem dL_law_282 : decode cL_law 282 = .ok (.aload_n 1, 1) := by decide +kernel
theorem dL_law_283 : decode cL_law 283 = .ok (.aload_n 0, 1) := by decide +kernel
theorem dL_law_284 : decode cL_law 284 = .ok (.iload_n 3, 1) := by decide +kernel
theorem dL_law_285 : decode cL_law 285 = .ok (.iconst 1, 1) := by decide +kernel
theorem dL_law_286 : decode cL_law 286 = .ok (.iadd, 1) := by decide +kernel
theorem dL_law_287 : decode cL_law 287 = .ok (.iaload, 1) := by decide +kernel
theorem dL_law_288 : decode cL_law 288 = .ok (.i2l, 1) := by decide +kernel
theorem dL_law_289 : decode cL_law 289 = .ok (.bipush 32, 2) := by decide +kernel
theorem dL_law_291 : decode cL_law 291 = .ok (.lshl, 1) := by decide +kernel
theorem dL_law_292 : decode cL_law 292 = .ok (.aload_n 0, 1) := by decide +kernel
theorem dL_law_293 : decode cL_law 293 = .ok (.iload_n 3, 1) := by decide +kernel
theorem dL_law_294 : decode cL_law 294 = .ok (.iconst 2, 1) := by decide +kernel
theorem dL_law_295 : decode cL_law 295 = .ok (.iadd, 1) := by decide +kernel
theorem dL_law_296 : decode cL_law 296 = .ok (.iaload, 1) := by decide +kernel
theorem dL_law_297 : decode cL_law 297 = .ok (.i2l, 1) := by decide +kernel
theorem dL_law_298 : decode cL_law 298 = .ok (.ldc2_w 32, 3) := by decide +kernel
theorem dL_law_301 : decode cL_law 301 = .ok (.land, 1) := by decide +kernel
theorem dL_law_302 : decode cL_law 302 = .ok (.lor, 1) := by decide +kernel
theorem dL_law_303 : decode cL_law 303 = .ok (.aload_n 0, 1) := by decide +kernel
theorem dL_law_304 : decode cL_law 304 = .ok (.iload_n 3, 1) := by decide +kernel
theorem dL_law_305 : decode cL_law 305 = .ok (.iconst 3, 1) := by decide +kernel
theorem dL_law_306 : decode cL_law 306 = .ok (.iadd, 1) := by decide +kernel
theorem dL_law_307 : decode cL_law 307 = .ok (.iaload, 1) := by decide +kernel
theorem dL_law_308 : decode cL_law 308 = .ok (.invokevirtual 34, 3) := by decide +kernel
theorem dL_law_311 : decode cL_law 311 = .ok (.aload_n 2, 1) := by decide +kernel
theorem dL_law_312 : decode cL_law 312 = .ok (.aload_n 0, 1) := by decide +kernel
theorem dL_law_313 : decode cL_law 313 = .ok (.iload_n 3, 1) := by decide +kernel
theorem dL_law_314 : decode cL_law 314 = .ok (.iconst 1, 1) := by decide +kernel
theorem dL_law_315 : decode cL_law 315 = .ok (.iadd, 1) := by decide +kernel
theorem dL_law_316 : decode cL_law 316 = .ok (.iaload, 1) := by decide +kernel
theorem dL_law_317 : decode cL_law 317 = .ok (.i2l, 1) := by decide +kernel
theorem dL_law_318 : decode cL_law 318 = .ok (.bipush 32, 2) := by decide +kernel
theorem dL_law_320 : decode cL_law 320 = .ok (.lshl, 1) := by decide +kernel
theorem dL_law_321 : decode cL_law 321 = .ok (.aload_n 0, 1) := by decide +kernel
theorem dL_law_322 : decode cL_law 322 = .ok (.iload_n 3, 1) := by decide +kernel
theorem dL_law_323 : decode cL_law 323 = .ok (.iconst 2, 1) := by decide +kernel
theorem dL_law_324 : decode cL_law 324 = .ok (.iadd, 1) := by decide +kernel
theorem dL_law_325 : decode cL_law 325 = .ok (.iaload, 1) := by decide +kernel
theorem dL_law_326 : decode cL_law 326 = .ok (.i2l, 1) := by decide +kernel
theorem dL_law_327 : decode cL_law 327 = .ok (.ldc2_w 32, 3) := by decide +kernel
theorem dL_law_330 : decode cL_law 330 = .ok (.land, 1) := by decide +kernel
theorem dL_law_331 : decode cL_law 331 = .ok (.lor, 1) := by decide +kernel
theorem dL_law_332 : decode cL_law 332 = .ok (.aload_n 0, 1) := by decide +kernel
theorem dL_law_333 : decode cL_law 333 = .ok (.iload_n 3, 1) := by decide +kernel
theorem dL_law_334 : decode cL_law 334 = .ok (.iconst 3, 1) := by decide +kernel
theorem dL_law_335 : decode cL_law 335 = .ok (.iadd, 1) := by decide +kernel
theorem dL_law_336 : decode cL_law 336 = .ok (.iaload, 1) := by decide +kernel
theorem dL_law_337 : decode cL_law 337 = .ok (.invokevirtual 38, 3) := by decide +kernel
theorem dL_law_340 : decode cL_law 340 = .ok (.if_icmp .eq 605, 3) := by decide +kernel
theorem dL_law_343 : decode cL_law 343 = .ok (.iconst 0, 1) := by decide +kernel
theorem dL_law_344 : decode cL_law 344 = .ok (.ireturn, 1) := by decide +kernel
theorem dL_law_345 : decode cL_law 345 = .ok (.aload_n 1, 1) := by decide +kernel
theorem dL_law_346 : decode cL_law 346 = .ok (.invokevirtual 39, 3) := by decide +kernel
theorem dL_law_349 : decode cL_law 349 = .ok (.aload_n 2, 1) := by decide +kernel
theorem dL_law_350 : decode cL_law 350 = .ok (.invokevirtual 42, 3) := by decide +kernel
theorem dL_law_353 : decode cL_law 353 = .ok (.if_icmp .eq 592, 3) := by decide +kernel
theorem dL_law_356 : decode cL_law 356 = .ok (.iconst 0, 1) := by decide +kernel
theorem dL_law_357 : decode cL_law 357 = .ok (.ireturn, 1) := by decide +kernel
theorem dL_law_358 : decode cL_law 358 = .ok (.aload_n 1, 1) := by decide +kernel
theorem dL_law_359 : decode cL_law 359 = .ok (.invokevirtual 43, 3) := by decide +kernel
theorem dL_law_362 : decode cL_law 362 = .ok (.aload_n 2, 1) := by decide +kernel
theorem dL_law_363 : decode cL_law 363 = .ok (.invokevirtual 46, 3) := by decide +kernel
theorem dL_law_366 : decode cL_law 366 = .ok (.if_icmp .eq 579, 3) := by decide +kernel
theorem dL_law_369 : decode cL_law 369 = .ok (.iconst 0, 1) := by decide +kernel
theorem dL_law_370 : decode cL_law 370 = .ok (.ireturn, 1) := by decide +kernel
theorem dL_law_371 : decode cL_law 371 = .ok (.aload_n 1, 1) := by decide +kernel
theorem dL_law_372 : decode cL_law 372 = .ok (.aload_n 0, 1) := by decide +kernel
theorem dL_law_373 : decode cL_law 373 = .ok (.iload_n 3, 1) := by decide +kernel
theorem dL_law_374 : decode cL_law 374 = .ok (.iconst 1, 1) := by decide +kernel
theorem dL_law_375 : decode cL_law 375 = .ok (.iadd, 1) := by decide +kernel
theorem dL_law_376 : decode cL_law 376 = .ok (.iaload, 1) := by decide +kernel
theorem dL_law_377 : decode cL_law 377 = .ok (.invokevirtual 47, 3) := by decide +kernel
theorem dL_law_380 : decode cL_law 380 = .ok (.aload_n 2, 1) := by decide +kernel
theorem dL_law_381 : decode cL_law 381 = .ok (.aload_n 0, 1) := by decide +kernel
theorem dL_law_382 : decode cL_law 382 = .ok (.iload_n 3, 1) := by decide +kernel
theorem dL_law_383 : decode cL_law 383 = .ok (.iconst 1, 1) := by decide +kernel
theorem dL_law_384 : decode cL_law 384 = .ok (.iadd, 1) := by decide +kernel
theorem dL_law_385 : decode cL_law 385 = .ok (.iaload, 1) := by decide +kernel
theorem dL_law_386 : decode cL_law 386 = .ok (.invokevirtual 50, 3) := by decide +kernel
theorem dL_law_389 : decode cL_law 389 = .ok (.if_icmp .eq 556, 3) := by decide +kernel
theorem dL_law_392 : decode cL_law 392 = .ok (.iconst 0, 1) := by decide +kernel
theorem dL_law_393 : decode cL_law 393 = .ok (.ireturn, 1) := by decide +kernel
theorem dL_law_394 : decode cL_law 394 = .ok (.aload_n 1, 1) := by decide +kernel
theorem dL_law_395 : decode cL_law 395 = .ok (.aload_n 0, 1) := by decide +kernel
theorem dL_law_396 : decode cL_law 396 = .ok (.iload_n 3, 1) := by decide +kernel
theorem dL_law_397 : decode cL_law 397 = .ok (.iconst 1, 1) := by decide +kernel
theorem dL_law_398 : decode cL_law 398 = .ok (.iadd, 1) := by decide +kernel
theorem dL_law_399 : decode cL_law 399 = .ok (.iaload, 1) := by decide +kernel
theorem dL_law_400 : decode cL_law 400 = .ok (.invokevirtual 51, 3) := by decide +kernel
theorem dL_law_403 : decode cL_law 403 = .ok (.aload_n 2, 1) := by decide +kernel
theorem dL_law_404 : decode cL_law 404 = .ok (.aload_n 0, 1) := by decide +kernel
theorem dL_law_405 : decode cL_law 405 = .ok (.iload_n 3, 1) := by decide +kernel
theorem dL_law_406 : decode cL_law 406 = .ok (.iconst 1, 1) := by decide +kernel
theorem dL_law_407 : decode cL_law 407 = .ok (.iadd, 1) := by decide +kernel
theorem dL_law_408 : decode cL_law 408 = .ok (.iaload, 1) := by decide +kernel
theorem dL_law_409 : decode cL_law 409 = .ok (.invokevirtual 54, 3) := by decide +kernel
theorem dL_law_412 : decode cL_law 412 = .ok (.if_icmp .eq 533, 3) := by decide +kernel
theorem dL_law_415 : decode cL_law 415 = .ok (.iconst 0, 1) := by decide +kernel
theorem dL_law_416 : decode cL_law 416 = .ok (.ireturn, 1) := by decide +kernel
theorem dL_law_417 : decode cL_law 417 = .ok (.aload_n 1, 1) := by decide +kernel
theorem dL_law_418 : decode cL_law 418 = .ok (.aload_n 0, 1) := by decide +kernel
theorem dL_law_419 : decode cL_law 419 = .ok (.iload_n 3, 1) := by decide +kernel
theorem dL_law_420 : decode cL_law 420 = .ok (.iconst 1, 1) := by decide +kernel
theorem dL_law_421 : decode cL_law 421 = .ok (.iadd, 1) := by decide +kernel
theorem dL_law_422 : decode cL_law 422 = .ok (.iaload, 1) := by decide +kernel
theorem dL_law_423 : decode cL_law 423 = .ok (.aload_n 0, 1) := by decide +kernel
theorem dL_law_424 : decode cL_law 424 = .ok (.iload_n 3, 1) := by decide +kernel
theorem dL_law_425 : decode cL_law 425 = .ok (.iconst 2, 1) := by decide +kernel
theorem dL_law_426 : decode cL_law 426 = .ok (.iadd, 1) := by decide +kernel
theorem dL_law_427 : decode cL_law 427 = .ok (.iaload, 1) := by decide +kernel
theorem dL_law_428 : decode cL_law 428 = .ok (.aload_n 0, 1) := by decide +kernel
theorem dL_law_429 : decode cL_law 429 = .ok (.iload_n 3, 1) := by decide +kernel
theorem dL_law_430 : decode cL_law 430 = .ok (.iconst 3, 1) := by decide +kernel
theorem dL_law_431 : decode cL_law 431 = .ok (.iadd, 1) := by decide +kernel
theorem dL_law_432 : decode cL_law 432 = .ok (.iaload, 1) := by decide +kernel
theorem dL_law_433 : decode cL_law 433 = .ok (.invokevirtual 55, 3) := by decide +kernel
theorem dL_law_436 : decode cL_law 436 = .ok (.aload_n 2, 1) := by decide +kernel
theorem dL_law_437 : decode cL_law 437 = .ok (.aload_n 0, 1) := by decide +kernel
theorem dL_law_438 : decode cL_law 438 = .ok (.iload_n 3, 1) := by decide +kernel
theorem dL_law_439 : decode cL_law 439 = .ok (.iconst 1, 1) := by decide +kernel
theorem dL_law_440 : decode cL_law 440 = .ok (.iadd, 1) := by decide +kernel
theorem dL_law_441 : decode cL_law 441 = .ok (.iaload, 1) := by decide +kernel
theorem dL_law_442 : decode cL_law 442 = .ok (.aload_n 0, 1) := by decide +kernel
theorem dL_law_443 : decode cL_law 443 = .ok (.iload_n 3, 1) := by decide +kernel
theorem dL_law_444 : decode cL_law 444 = .ok (.iconst 2, 1) := by decide +kernel
theorem dL_law_445 : decode cL_law 445 = .ok (.iadd, 1) := by decide +kernel
theorem dL_law_446 : decode cL_law 446 = .ok (.iaload, 1) := by decide +kernel
theorem dL_law_447 : decode cL_law 447 = .ok (.aload_n 0, 1) := by decide +kernel
theorem dL_law_448 : decode cL_law 448 = .ok (.iload_n 3, 1) := by decide +kernel
theorem dL_law_449 : decode cL_law 449 = .ok (.iconst 3, 1) := by decide +kernel
theorem dL_law_450 : decode cL_law 450 = .ok (.iadd, 1) := by decide +kernel
theorem dL_law_451 : decode cL_law 451 = .ok (.iaload, 1) := by decide +kernel
theorem dL_law_452 : decode cL_law 452 = .ok (.invokevirtual 58, 3) := by decide +kernel
theorem dL_law_455 : decode cL_law 455 = .ok (.if_icmp .eq 490, 3) := by decide +kernel
theorem dL_law_458 : decode cL_law 458 = .ok (.iconst 0, 1) := by decide +kernel
theorem dL_law_459 : decode cL_law 459 = .ok (.ireturn, 1) := by decide +kernel
theorem dL_law_460 : decode cL_law 460 = .ok (.aload_n 1, 1) := by decide +kernel
theorem dL_law_461 : decode cL_law 461 = .ok (.aload_n 0, 1) := by decide +kernel
theorem dL_law_462 : decode cL_law 462 = .ok (.iload_n 3, 1) := by decide +kernel
theorem dL_law_463 : decode cL_law 463 = .ok (.iconst 1, 1) := by decide +kernel
theorem dL_law_464 : decode cL_law 464 = .ok (.iadd, 1) := by decide +kernel
theorem dL_law_465 : decode cL_law 465 = .ok (.iaload, 1) := by decide +kernel
theorem dL_law_466 : decode cL_law 466 = .ok (.aload_n 0, 1) := by decide +kernel
theorem dL_law_467 : decode cL_law 467 = .ok (.iload_n 3, 1) := by decide +kernel
theorem dL_law_468 : decode cL_law 468 = .ok (.iconst 2, 1) := by decide +kernel
theorem dL_law_469 : decode cL_law 469 = .ok (.iadd, 1) := by decide +kernel
theorem dL_law_470 : decode cL_law 470 = .ok (.iaload, 1) := by decide +kernel
theorem dL_law_471 : decode cL_law 471 = .ok (.aload_n 0, 1) := by decide +kernel
theorem dL_law_472 : decode cL_law 472 = .ok (.iload_n 3, 1) := by decide +kernel
theorem dL_law_473 : decode cL_law 473 = .ok (.iconst 3, 1) := by decide +kernel
theorem dL_law_474 : decode cL_law 474 = .ok (.iadd, 1) := by decide +kernel
theorem dL_law_475 : decode cL_law 475 = .ok (.iaload, 1) := by decide +kernel
theorem dL_law_476 : decode cL_law 476 = .ok (.aload_n 0, 1) := by decide +kernel
theorem dL_law_477 : decode cL_law 477 = .ok (.iload_n 3, 1) := by decide +kernel
theorem dL_law_478 : decode cL_law 478 = .ok (.iconst 4, 1) := by decide +kernel
theorem dL_law_479 : decode cL_law 479 = .ok (.iadd, 1) := by decide +kernel
theorem dL_law_480 : decode cL_law 480 = .ok (.iaload, 1) := by decide +kernel
theorem dL_law_481 : decode cL_law 481 = .ok (.invokevirtual 59, 3) := by decide +kernel
theorem dL_law_484 : decode cL_law 484 = .ok (.aload_n 2, 1) := by decide +kernel
theorem dL_law_485 : decode cL_law 485 = .ok (.aload_n 0, 1) := by decide +kernel
theorem dL_law_486 : decode cL_law 486 = .ok (.iload_n 3, 1) := by decide +kernel
theorem dL_law_487 : decode cL_law 487 = .ok (.iconst 1, 1) := by decide +kernel
theorem dL_law_488 : decode cL_law 488 = .ok (.iadd, 1) := by decide +kernel
theorem dL_law_489 : decode cL_law 489 = .ok (.iaload, 1) := by decide +kernel
theorem dL_law_490 : decode cL_law 490 = .ok (.aload_n 0, 1) := by decide +kernel
theorem dL_law_491 : decode cL_law 491 = .ok (.iload_n 3, 1) := by decide +kernel
theorem dL_law_492 : decode cL_law 492 = .ok (.iconst 2, 1) := by decide +kernel
theorem dL_law_493 : decode cL_law 493 = .ok (.iadd, 1) := by decide +kernel
theorem dL_law_494 : decode cL_law 494 = .ok (.iaload, 1) := by decide +kernel
theorem dL_law_495 : decode cL_law 495 = .ok (.aload_n 0, 1) := by decide +kernel
theorem dL_law_496 : decode cL_law 496 = .ok (.iload_n 3, 1) := by decide +kernel
theorem dL_law_497 : decode cL_law 497 = .ok (.iconst 3, 1) := by decide +kernel
theorem dL_law_498 : decode cL_law 498 = .ok (.iadd, 1) := by decide +kernel
theorem dL_law_499 : decode cL_law 499 = .ok (.iaload, 1) := by decide +kernel
theorem dL_law_500 : decode cL_law 500 = .ok (.aload_n 0, 1) := by decide +kernel
theorem dL_law_501 : decode cL_law 501 = .ok (.iload_n 3, 1) := by decide +kernel
theorem dL_law_502 : decode cL_law 502 = .ok (.iconst 4, 1) := by decide +kernel
theorem dL_law_503 : decode cL_law 503 = .ok (.iadd, 1) := by decide +kernel
theorem dL_law_504 : decode cL_law 504 = .ok (.iaload, 1) := by decide +kernel
theorem dL_law_505 : decode cL_law 505 = .ok (.invokevirtual 63, 3) := by decide +kernel
theorem dL_law_508 : decode cL_law 508 = .ok (.if_icmp .eq 437, 3) := by decide +kernel
theorem dL_law_511 : decode cL_law 511 = .ok (.iconst 0, 1) := by decide +kernel
theorem dL_law_512 : decode cL_law 512 = .ok (.ireturn, 1) := by decide +kernel
theorem dL_law_513 : decode cL_law 513 = .ok (.aload_n 1, 1) := by decide +kernel
theorem dL_law_514 : decode cL_law 514 = .ok (.aload_n 0, 1) := by decide +kernel
theorem dL_law_515 : decode cL_law 515 = .ok (.iload_n 3, 1) := by decide +kernel
theorem dL_law_516 : decode cL_law 516 = .ok (.iconst 1, 1) := by decide +kernel
theorem dL_law_517 : decode cL_law 517 = .ok (.iadd, 1) := by decide +kernel
theorem dL_law_518 : decode cL_law 518 = .ok (.iaload, 1) := by decide +kernel
theorem dL_law_519 : decode cL_law 519 = .ok (.invokevirtual 64, 3) := by decide +kernel
theorem dL_law_522 : decode cL_law 522 = .ok (.aload_n 2, 1) := by decide +kernel
theorem dL_law_523 : decode cL_law 523 = .ok (.aload_n 0, 1) := by decide +kernel
theorem dL_law_524 : decode cL_law 524 = .ok (.iload_n 3, 1) := by decide +kernel
theorem dL_law_525 : decode cL_law 525 = .ok (.iconst 1, 1) := by decide +kernel
theorem dL_law_526 : decode cL_law 526 = .ok (.iadd, 1) := by decide +kernel
theorem dL_law_527 : decode cL_law 527 = .ok (.iaload, 1) := by decide +kernel
theorem dL_law_528 : decode cL_law 528 = .ok (.invokevirtual 67, 3) := by decide +kernel
theorem dL_law_531 : decode cL_law 531 = .ok (.if_icmp .eq 414, 3) := by decide +kernel
theorem dL_law_534 : decode cL_law 534 = .ok (.iconst 0, 1) := by decide +kernel
theorem dL_law_535 : decode cL_law 535 = .ok (.ireturn, 1) := by decide +kernel
theorem dL_law_536 : decode cL_law 536 = .ok (.aload_n 1, 1) := by decide +kernel
theorem dL_law_537 : decode cL_law 537 = .ok (.aload_n 0, 1) := by decide +kernel
theorem dL_law_538 : decode cL_law 538 = .ok (.iload_n 3, 1) := by decide +kernel
theorem dL_law_539 : decode cL_law 539 = .ok (.iconst 1, 1) := by decide +kernel
theorem dL_law_540 : decode cL_law 540 = .ok (.iadd, 1) := by decide +kernel
theorem dL_law_541 : decode cL_law 541 = .ok (.iaload, 1) := by decide +kernel
theorem dL_law_542 : decode cL_law 542 = .ok (.invokevirtual 68, 3) := by decide +kernel
theorem dL_law_545 : decode cL_law 545 = .ok (.aload_n 2, 1) := by decide +kernel
theorem dL_law_546 : decode cL_law 546 = .ok (.aload_n 0, 1) := by decide +kernel
theorem dL_law_547 : decode cL_law 547 = .ok (.iload_n 3, 1) := by decide +kernel
theorem dL_law_548 : decode cL_law 548 = .ok (.iconst 1, 1) := by decide +kernel
theorem dL_law_549 : decode cL_law 549 = .ok (.iadd, 1) := by decide +kernel
theorem dL_law_550 : decode cL_law 550 = .ok (.iaload, 1) := by decide +kernel
theorem dL_law_551 : decode cL_law 551 = .ok (.invokevirtual 71, 3) := by decide +kernel
theorem dL_law_554 : decode cL_law 554 = .ok (.if_icmp .eq 391, 3) := by decide +kernel
theorem dL_law_557 : decode cL_law 557 = .ok (.iconst 0, 1) := by decide +kernel
theorem dL_law_558 : decode cL_law 558 = .ok (.ireturn, 1) := by decide +kernel
theorem dL_law_559 : decode cL_law 559 = .ok (.aload_n 1, 1) := by decide +kernel
theorem dL_law_560 : decode cL_law 560 = .ok (.invokevirtual 72, 3) := by decide +kernel
theorem dL_law_563 : decode cL_law 563 = .ok (.aload_n 2, 1) := by decide +kernel
theorem dL_law_564 : decode cL_law 564 = .ok (.invokevirtual 75, 3) := by decide +kernel
theorem dL_law_567 : decode cL_law 567 = .ok (.if_icmp .eq 378, 3) := by decide +kernel
theorem dL_law_570 : decode cL_law 570 = .ok (.iconst 0, 1) := by decide +kernel
theorem dL_law_571 : decode cL_law 571 = .ok (.ireturn, 1) := by decide +kernel
theorem dL_law_572 : decode cL_law 572 = .ok (.aload_n 1, 1) := by decide +kernel
theorem dL_law_573 : decode cL_law 573 = .ok (.invokevirtual 76, 3) := by decide +kernel
theorem dL_law_576 : decode cL_law 576 = .ok (.aload_n 2, 1) := by decide +kernel
theorem dL_law_577 : decode cL_law 577 = .ok (.invokevirtual 79, 3) := by decide +kernel
theorem dL_law_580 : decode cL_law 580 = .ok (.if_icmp .eq 365, 3) := by decide +kernel
theorem dL_law_583 : decode cL_law 583 = .ok (.iconst 0, 1) := by decide +kernel
theorem dL_law_584 : decode cL_law 584 = .ok (.ireturn, 1) := by decide +kernel
theorem dL_law_585 : decode cL_law 585 = .ok (.aload_n 1, 1) := by decide +kernel
theorem dL_law_586 : decode cL_law 586 = .ok (.aload_n 0, 1) := by decide +kernel
theorem dL_law_587 : decode cL_law 587 = .ok (.iload_n 3, 1) := by decide +kernel
theorem dL_law_588 : decode cL_law 588 = .ok (.iconst 1, 1) := by decide +kernel
theorem dL_law_589 : decode cL_law 589 = .ok (.iadd, 1) := by decide +kernel
theorem dL_law_590 : decode cL_law 590 = .ok (.iaload, 1) := by decide +kernel
theorem dL_law_591 : decode cL_law 591 = .ok (.invokevirtual 80, 3) := by decide +kernel
theorem dL_law_594 : decode cL_law 594 = .ok (.aload_n 2, 1) := by decide +kernel
theorem dL_law_595 : decode cL_law 595 = .ok (.aload_n 0, 1) := by decide +kernel
theorem dL_law_596 : decode cL_law 596 = .ok (.iload_n 3, 1) := by decide +kernel
theorem dL_law_597 : decode cL_law 597 = .ok (.iconst 1, 1) := by decide +kernel
theorem dL_law_598 : decode cL_law 598 = .ok (.iadd, 1) := by decide +kernel
theorem dL_law_599 : decode cL_law 599 = .ok (.iaload, 1) := by decide +kernel
theorem dL_law_600 : decode cL_law 600 = .ok (.invokevirtual 83, 3) := by decide +kernel
theorem dL_law_603 : decode cL_law 603 = .ok (.if_icmp .eq 342, 3) := by decide +kernel
theorem dL_law_606 : decode cL_law 606 = .ok (.iconst 0, 1) := by decide +kernel
theorem dL_law_607 : decode cL_law 607 = .ok (.ireturn, 1) := by decide +kernel
theorem dL_law_608 : decode cL_law 608 = .ok (.aload_n 1, 1) := by decide +kernel
theorem dL_law_609 : decode cL_law 609 = .ok (.invokevirtual 84, 3) := by decide +kernel
theorem dL_law_612 : decode cL_law 612 = .ok (.aload_n 2, 1) := by decide +kernel
theorem dL_law_613 : decode cL_law 613 = .ok (.invokevirtual 87, 3) := by decide +kernel
theorem dL_law_616 : decode cL_law 616 = .ok (.if_icmp .eq 329, 3) := by decide +kernel
theorem dL_law_619 : decode cL_law 619 = .ok (.iconst 0, 1) := by decide +kernel
theorem dL_law_620 : decode cL_law 620 = .ok (.ireturn, 1) := by decide +kernel
theorem dL_law_621 : decode cL_law 621 = .ok (.aload_n 1, 1) := by decide +kernel
theorem dL_law_622 : decode cL_law 622 = .ok (.aload_n 0, 1) := by decide +kernel
theorem dL_law_623 : decode cL_law 623 = .ok (.iload_n 3, 1) := by decide +kernel
theorem dL_law_624 : decode cL_law 624 = .ok (.iconst 1, 1) := by decide +kernel
theorem dL_law_625 : decode cL_law 625 = .ok (.iadd, 1) := by decide +kernel
theorem dL_law_626 : decode cL_law 626 = .ok (.iaload, 1) := by decide +kernel
theorem dL_law_627 : decode cL_law 627 = .ok (.aload_n 0, 1) := by decide +kernel
theorem dL_law_628 : decode cL_law 628 = .ok (.iload_n 3, 1) := by decide +kernel
theorem dL_law_629 : decode cL_law 629 = .ok (.iconst 2, 1) := by decide +kernel
theorem dL_law_630 : decode cL_law 630 = .ok (.iadd, 1) := by decide +kernel
theorem dL_law_631 : decode cL_law 631 = .ok (.iaload, 1) := by decide +kernel
theorem dL_law_632 : decode cL_law 632 = .ok (.aload_n 0, 1) := by decide +kernel
theorem dL_law_633 : decode cL_law 633 = .ok (.iload_n 3, 1) := by decide +kernel
theorem dL_law_634 : decode cL_law 634 = .ok (.iconst 3, 1) := by decide +kernel
theorem dL_law_635 : decode cL_law 635 = .ok (.iadd, 1) := by decide +kernel
theorem dL_law_636 : decode cL_law 636 = .ok (.iaload, 1) := by decide +kernel
theorem dL_law_637 : decode cL_law 637 = .ok (.invokevirtual 88, 3) := by decide +kernel
theorem dL_law_640 : decode cL_law 640 = .ok (.aload_n 2, 1) := by decide +kernel
theorem dL_law_641 : decode cL_law 641 = .ok (.aload_n 0, 1) := by decide +kernel
theorem dL_law_642 : decode cL_law 642 = .ok (.iload_n 3, 1) := by decide +kernel
theorem dL_law_643 : decode cL_law 643 = .ok (.iconst 1, 1) := by decide +kernel
theorem dL_law_644 : decode cL_law 644 = .ok (.iadd, 1) := by decide +kernel
theorem dL_law_645 : decode cL_law 645 = .ok (.iaload, 1) := by decide +kernel
theorem dL_law_646 : decode cL_law 646 = .ok (.aload_n 0, 1) := by decide +kernel
theorem dL_law_647 : decode cL_law 647 = .ok (.iload_n 3, 1) := by decide +kernel
theorem dL_law_648 : decode cL_law 648 = .ok (.iconst 2, 1) := by decide +kernel
theorem dL_law_649 : decode cL_law 649 = .ok (.iadd, 1) := by decide +kernel
theorem dL_law_650 : decode cL_law 650 = .ok (.iaload, 1) := by decide +kernel
theorem dL_law_651 : decode cL_law 651 = .ok (.aload_n 0, 1) := by decide +kernel
theorem dL_law_652 : decode cL_law 652 = .ok (.iload_n 3, 1) := by decide +kernel
theorem dL_law_653 : decode cL_law 653 = .ok (.iconst 3, 1) := by decide +kernel
theorem dL_law_654 : decode cL_law 654 = .ok (.iadd, 1) := by decide +kernel
theorem dL_law_655 : decode cL_law 655 = .ok (.iaload, 1) := by decide +kernel
theorem dL_law_656 : decode cL_law 656 = .ok (.invokevirtual 91, 3) := by decide +kernel
theorem dL_law_659 : decode cL_law 659 = .ok (.if_icmp .eq 286, 3) := by decide +kernel
theorem dL_law_662 : decode cL_law 662 = .ok (.iconst 0, 1) := by decide +kernel
theorem dL_law_663 : decode cL_law 663 = .ok (.ireturn, 1) := by decide +kernel
theorem dL_law_664 : decode cL_law 664 = .ok (.aload_n 1, 1) := by decide +kernel
theorem dL_law_665 : decode cL_law 665 = .ok (.aload_n 0, 1) := by decide +kernel
theorem dL_law_666 : decode cL_law 666 = .ok (.iload_n 3, 1) := by decide +kernel
theorem dL_law_667 : decode cL_law 667 = .ok (.iconst 1, 1) := by decide +kernel
theorem dL_law_668 : decode cL_law 668 = .ok (.iadd, 1) := by decide +kernel
theorem dL_law_669 : decode cL_law 669 = .ok (.iaload, 1) := by decide +kernel
theorem dL_law_670 : decode cL_law 670 = .ok (.aload_n 0, 1) := by decide +kernel
theorem dL_law_671 : decode cL_law 671 = .ok (.iload_n 3, 1) := by decide +kernel
theorem dL_law_672 : decode cL_law 672 = .ok (.iconst 2, 1) := by decide +kernel
theorem dL_law_673 : decode cL_law 673 = .ok (.iadd, 1) := by decide +kernel
theorem dL_law_674 : decode cL_law 674 = .ok (.iaload, 1) := by decide +kernel
theorem dL_law_675 : decode cL_law 675 = .ok (.aload_n 0, 1) := by decide +kernel
theorem dL_law_676 : decode cL_law 676 = .ok (.iload_n 3, 1) := by decide +kernel
theorem dL_law_677 : decode cL_law 677 = .ok (.iconst 3, 1) := by decide +kernel
theorem dL_law_678 : decode cL_law 678 = .ok (.iadd, 1) := by decide +kernel
theorem dL_law_679 : decode cL_law 679 = .ok (.iaload, 1) := by decide +kernel
theorem dL_law_680 : decode cL_law 680 = .ok (.invokevirtual 92, 3) := by decide +kernel
theorem dL_law_683 : decode cL_law 683 = .ok (.aload_n 2, 1) := by decide +kernel
theorem dL_law_684 : decode cL_law 684 = .ok (.aload_n 0, 1) := by decide +kernel
theorem dL_law_685 : decode cL_law 685 = .ok (.iload_n 3, 1) := by decide +kernel
theorem dL_law_686 : decode cL_law 686 = .ok (.iconst 1, 1) := by decide +kernel
theorem dL_law_687 : decode cL_law 687 = .ok (.iadd, 1) := by decide +kernel
theorem dL_law_688 : decode cL_law 688 = .ok (.iaload, 1) := by decide +kernel
theorem dL_law_689 : decode cL_law 689 = .ok (.aload_n 0, 1) := by decide +kernel
theorem dL_law_690 : decode cL_law 690 = .ok (.iload_n 3, 1) := by decide +kernel
theorem dL_law_691 : decode cL_law 691 = .ok (.iconst 2, 1) := by decide +kernel
theorem dL_law_692 : decode cL_law 692 = .ok (.iadd, 1) := by decide +kernel
theorem dL_law_693 : decode cL_law 693 = .ok (.iaload, 1) := by decide +kernel
theorem dL_law_694 : decode cL_law 694 = .ok (.aload_n 0, 1) := by decide +kernel
theorem dL_law_695 : decode cL_law 695 = .ok (.iload_n 3, 1) := by decide +kernel
theorem dL_law_696 : decode cL_law 696 = .ok (.iconst 3, 1) := by decide +kernel
theorem dL_law_697 : decode cL_law 697 = .ok (.iadd, 1) := by decide +kernel
theorem dL_law_698 : decode cL_law 698 = .ok (.iaload, 1) := by decide +kernel
theorem dL_law_699 : decode cL_law 699 = .ok (.invokevirtual 95, 3) := by decide +kernel
theorem dL_law_702 : decode cL_law 702 = .ok (.if_icmp .eq 243, 3) := by decide +kernel
theorem dL_law_705 : decode cL_law 705 = .ok (.iconst 0, 1) := by decide +kernel
theorem dL_law_706 : decode cL_law 706 = .ok (.ireturn, 1) := by decide +kernel
theorem dL_law_707 : decode cL_law 707 = .ok (.aload_n 1, 1) := by decide +kernel
theorem dL_law_708 : decode cL_law 708 = .ok (.aload_n 0, 1) := by decide +kernel
theorem dL_law_709 : decode cL_law 709 = .ok (.iload_n 3, 1) := by decide +kernel
theorem dL_law_710 : decode cL_law 710 = .ok (.iconst 1, 1) := by decide +kernel
theorem dL_law_711 : decode cL_law 711 = .ok (.iadd, 1) := by decide +kernel
theorem dL_law_712 : decode cL_law 712 = .ok (.iaload, 1) := by decide +kernel
theorem dL_law_713 : decode cL_law 713 = .ok (.invokevirtual 96, 3) := by decide +kernel
theorem dL_law_716 : decode cL_law 716 = .ok (.aload_n 2, 1) := by decide +kernel
theorem dL_law_717 : decode cL_law 717 = .ok (.aload_n 0, 1) := by decide +kernel
theorem dL_law_718 : decode cL_law 718 = .ok (.iload_n 3, 1) := by decide +kernel
theorem dL_law_719 : decode cL_law 719 = .ok (.iconst 1, 1) := by decide +kernel
theorem dL_law_720 : decode cL_law 720 = .ok (.iadd, 1) := by decide +kernel
theorem dL_law_721 : decode cL_law 721 = .ok (.iaload, 1) := by decide +kernel
theorem dL_law_722 : decode cL_law 722 = .ok (.invokevirtual 99, 3) := by decide +kernel
theorem dL_law_725 : decode cL_law 725 = .ok (.if_icmp .eq 220, 3) := by decide +kernel
theorem dL_law_728 : decode cL_law 728 = .ok (.iconst 0, 1) := by decide +kernel
theorem dL_law_729 : decode cL_law 729 = .ok (.ireturn, 1) := by decide +kernel
theorem dL_law_730 : decode cL_law 730 = .ok (.aload_n 1, 1) := by decide +kernel
theorem dL_law_731 : decode cL_law 731 = .ok (.aload_n 0, 1) := by decide +kernel
theorem dL_law_732 : decode cL_law 732 = .ok (.iload_n 3, 1) := by decide +kernel
theorem dL_law_733 : decode cL_law 733 = .ok (.iconst 1, 1) := by decide +kernel
theorem dL_law_734 : decode cL_law 734 = .ok (.iadd, 1) := by decide +kernel
theorem dL_law_735 : decode cL_law 735 = .ok (.iaload, 1) := by decide +kernel
theorem dL_law_736 : decode cL_law 736 = .ok (.aload_n 0, 1) := by decide +kernel
theorem dL_law_737 : decode cL_law 737 = .ok (.iload_n 3, 1) := by decide +kernel
theorem dL_law_738 : decode cL_law 738 = .ok (.iconst 2, 1) := by decide +kernel
theorem dL_law_739 : decode cL_law 739 = .ok (.iadd, 1) := by decide +kernel
theorem dL_law_740 : decode cL_law 740 = .ok (.iaload, 1) := by decide +kernel
theorem dL_law_741 : decode cL_law 741 = .ok (.invokevirtual 100, 3) := by decide +kernel
theorem dL_law_744 : decode cL_law 744 = .ok (.aload_n 2, 1) := by decide +kernel
theorem dL_law_745 : decode cL_law 745 = .ok (.aload_n 0, 1) := by decide +kernel
theorem dL_law_746 : decode cL_law 746 = .ok (.iload_n 3, 1) := by decide +kernel
theorem dL_law_747 : decode cL_law 747 = .ok (.iconst 1, 1) := by decide +kernel
theorem dL_law_748 : decode cL_law 748 = .ok (.iadd, 1) := by decide +kernel
theorem dL_law_749 : decode cL_law 749 = .ok (.iaload, 1) := by decide +kernel
theorem dL_law_750 : decode cL_law 750 = .ok (.aload_n 0, 1) := by decide +kernel
theorem dL_law_751 : decode cL_law 751 = .ok (.iload_n 3, 1) := by decide +kernel
theorem dL_law_752 : decode cL_law 752 = .ok (.iconst 2, 1) := by decide +kernel
theorem dL_law_753 : decode cL_law 753 = .ok (.iadd, 1) := by decide +kernel
theorem dL_law_754 : decode cL_law 754 = .ok (.iaload, 1) := by decide +kernel
theorem dL_law_755 : decode cL_law 755 = .ok (.invokevirtual 104, 3) := by decide +kernel
theorem dL_law_758 : decode cL_law 758 = .ok (.if_icmp .eq 187, 3) := by decide +kernel
theorem dL_law_761 : decode cL_law 761 = .ok (.iconst 0, 1) := by decide +kernel
theorem dL_law_762 : decode cL_law 762 = .ok (.ireturn, 1) := by decide +kernel
theorem dL_law_763 : decode cL_law 763 = .ok (.aload_n 1, 1) := by decide +kernel
theorem dL_law_764 : decode cL_law 764 = .ok (.invokevirtual 105, 3) := by decide +kernel
theorem dL_law_767 : decode cL_law 767 = .ok (.aload_n 2, 1) := by decide +kernel
theorem dL_law_768 : decode cL_law 768 = .ok (.invokevirtual 108, 3) := by decide +kernel
theorem dL_law_771 : decode cL_law 771 = .ok (.if_icmp .eq 174, 3) := by decide +kernel
theorem dL_law_774 : decode cL_law 774 = .ok (.iconst 0, 1) := by decide +kernel
theorem dL_law_775 : decode cL_law 775 = .ok (.ireturn, 1) := by decide +kernel
theorem dL_law_776 : decode cL_law 776 = .ok (.aload_n 1, 1) := by decide +kernel
theorem dL_law_777 : decode cL_law 777 = .ok (.aload_n 0, 1) := by decide +kernel
theorem dL_law_778 : decode cL_law 778 = .ok (.iload_n 3, 1) := by decide +kernel
theorem dL_law_779 : decode cL_law 779 = .ok (.iconst 1, 1) := by decide +kernel
theorem dL_law_780 : decode cL_law 780 = .ok (.iadd, 1) := by decide +kernel
theorem dL_law_781 : decode cL_law 781 = .ok (.iaload, 1) := by decide +kernel
theorem dL_law_782 : decode cL_law 782 = .ok (.aload_n 0, 1) := by decide +kernel
theorem dL_law_783 : decode cL_law 783 = .ok (.iload_n 3, 1) := by decide +kernel
theorem dL_law_784 : decode cL_law 784 = .ok (.iconst 2, 1) := by decide +kernel
theorem dL_law_785 : decode cL_law 785 = .ok (.iadd, 1) := by decide +kernel
theorem dL_law_786 : decode cL_law 786 = .ok (.iaload, 1) := by decide +kernel
theorem dL_law_787 : decode cL_law 787 = .ok (.aload_n 0, 1) := by decide +kernel
theorem dL_law_788 : decode cL_law 788 = .ok (.iload_n 3, 1) := by decide +kernel
theorem dL_law_789 : decode cL_law 789 = .ok (.iconst 3, 1) := by decide +kernel
theorem dL_law_790 : decode cL_law 790 = .ok (.iadd, 1) := by decide +kernel
theorem dL_law_791 : decode cL_law 791 = .ok (.iaload, 1) := by decide +kernel
theorem dL_law_792 : decode cL_law 792 = .ok (.aload_n 0, 1) := by decide +kernel
theorem dL_law_793 : decode cL_law 793 = .ok (.iload_n 3, 1) := by decide +kernel
theorem dL_law_794 : decode cL_law 794 = .ok (.iconst 4, 1) := by decide +kernel
theorem dL_law_795 : decode cL_law 795 = .ok (.iadd, 1) := by decide +kernel
theorem dL_law_796 : decode cL_law 796 = .ok (.iaload, 1) := by decide +kernel
theorem dL_law_797 : decode cL_law 797 = .ok (.aload_n 0, 1) := by decide +kernel
theorem dL_law_798 : decode cL_law 798 = .ok (.iload_n 3, 1) := by decide +kernel
theorem dL_law_799 : decode cL_law 799 = .ok (.iconst 5, 1) := by decide +kernel
theorem dL_law_800 : decode cL_law 800 = .ok (.iadd, 1) := by decide +kernel
theorem dL_law_801 : decode cL_law 801 = .ok (.iaload, 1) := by decide +kernel
theorem dL_law_802 : decode cL_law 802 = .ok (.invokevirtual 109, 3) := by decide +kernel
theorem dL_law_805 : decode cL_law 805 = .ok (.aload_n 2, 1) := by decide +kernel
theorem dL_law_806 : decode cL_law 806 = .ok (.aload_n 0, 1) := by decide +kernel
theorem dL_law_807 : decode cL_law 807 = .ok (.iload_n 3, 1) := by decide +kernel
theorem dL_law_808 : decode cL_law 808 = .ok (.iconst 1, 1) := by decide +kernel
theorem dL_law_809 : decode cL_law 809 = .ok (.iadd, 1) := by decide +kernel
theorem dL_law_810 : decode cL_law 810 = .ok (.iaload, 1) := by decide +kernel
theorem dL_law_811 : decode cL_law 811 = .ok (.aload_n 0, 1) := by decide +kernel
theorem dL_law_812 : decode cL_law 812 = .ok (.iload_n 3, 1) := by decide +kernel
theorem dL_law_813 : decode cL_law 813 = .ok (.iconst 2, 1) := by decide +kernel
theorem dL_law_814 : decode cL_law 814 = .ok (.iadd, 1) := by decide +kernel
theorem dL_law_815 : decode cL_law 815 = .ok (.iaload, 1) := by decide +kernel
theorem dL_law_816 : decode cL_law 816 = .ok (.aload_n 0, 1) := by decide +kernel
theorem dL_law_817 : decode cL_law 817 = .ok (.iload_n 3, 1) := by decide +kernel
theorem dL_law_818 : decode cL_law 818 = .ok (.iconst 3, 1) := by decide +kernel
theorem dL_law_819 : decode cL_law 819 = .ok (.iadd, 1) := by decide +kernel
theorem dL_law_820 : decode cL_law 820 = .ok (.iaload, 1) := by decide +kernel
theorem dL_law_821 : decode cL_law 821 = .ok (.aload_n 0, 1) := by decide +kernel
theorem dL_law_822 : decode cL_law 822 = .ok (.iload_n 3, 1) := by decide +kernel
theorem dL_law_823 : decode cL_law 823 = .ok (.iconst 4, 1) := by decide +kernel
theorem dL_law_824 : decode cL_law 824 = .ok (.iadd, 1) := by decide +kernel
theorem dL_law_825 : decode cL_law 825 = .ok (.iaload, 1) := by decide +kernel
theorem dL_law_826 : decode cL_law 826 = .ok (.aload_n 0, 1) := by decide +kernel
theorem dL_law_827 : decode cL_law 827 = .ok (.iload_n 3, 1) := by decide +kernel
theorem dL_law_828 : decode cL_law 828 = .ok (.iconst 5, 1) := by decide +kernel
theorem dL_law_829 : decode cL_law 829 = .ok (.iadd, 1) := by decide +kernel
theorem dL_law_830 : decode cL_law 830 = .ok (.iaload, 1) := by decide +kernel
theorem dL_law_831 : decode cL_law 831 = .ok (.invokevirtual 113, 3) := by decide +kernel
theorem dL_law_834 : decode cL_law 834 = .ok (.if_icmp .eq 111, 3) := by decide +kernel
theorem dL_law_837 : decode cL_law 837 = .ok (.iconst 0, 1) := by decide +kernel
theorem dL_law_838 : decode cL_law 838 = .ok (.ireturn, 1) := by decide +kernel
theorem dL_law_839 : decode cL_law 839 = .ok (.aload_n 1, 1) := by decide +kernel
theorem dL_law_840 : decode cL_law 840 = .ok (.aload_n 0, 1) := by decide +kernel
theorem dL_law_841 : decode cL_law 841 = .ok (.iload_n 3, 1) := by decide +kernel
theorem dL_law_842 : decode cL_law 842 = .ok (.iconst 1, 1) := by decide +kernel
theorem dL_law_843 : decode cL_law 843 = .ok (.iadd, 1) := by decide +kernel
theorem dL_law_844 : decode cL_law 844 = .ok (.iaload, 1) := by decide +kernel
theorem dL_law_845 : decode cL_law 845 = .ok (.invokevirtual 114, 3) := by decide +kernel
theorem dL_law_848 : decode cL_law 848 = .ok (.aload_n 2, 1) := by decide +kernel
theorem dL_law_849 : decode cL_law 849 = .ok (.aload_n 0, 1) := by decide +kernel
theorem dL_law_850 : decode cL_law 850 = .ok (.iload_n 3, 1) := by decide +kernel
theorem dL_law_851 : decode cL_law 851 = .ok (.iconst 1, 1) := by decide +kernel
theorem dL_law_852 : decode cL_law 852 = .ok (.iadd, 1) := by decide +kernel
theorem dL_law_853 : decode cL_law 853 = .ok (.iaload, 1) := by decide +kernel
theorem dL_law_854 : decode cL_law 854 = .ok (.invokevirtual 117, 3) := by decide +kernel
theorem dL_law_857 : decode cL_law 857 = .ok (.if_icmp .eq 88, 3) := by decide +kernel
theorem dL_law_860 : decode cL_law 860 = .ok (.iconst 0, 1) := by decide +kernel
theorem dL_law_861 : decode cL_law 861 = .ok (.ireturn, 1) := by decide +kernel
theorem dL_law_862 : decode cL_law 862 = .ok (.aload_n 1, 1) := by decide +kernel
theorem dL_law_863 : decode cL_law 863 = .ok (.aload_n 0, 1) := by decide +kernel
theorem dL_law_864 : decode cL_law 864 = .ok (.iload_n 3, 1) := by decide +kernel
theorem dL_law_865 : decode cL_law 865 = .ok (.iconst 1, 1) := by decide +kernel
theorem dL_law_866 : decode cL_law 866 = .ok (.iadd, 1) := by decide +kernel
theorem dL_law_867 : decode cL_law 867 = .ok (.iaload, 1) := by decide +kernel
theorem dL_law_868 : decode cL_law 868 = .ok (.invokevirtual 118, 3) := by decide +kernel
theorem dL_law_871 : decode cL_law 871 = .ok (.aload_n 2, 1) := by decide +kernel
theorem dL_law_872 : decode cL_law 872 = .ok (.aload_n 0, 1) := by decide +kernel
theorem dL_law_873 : decode cL_law 873 = .ok (.iload_n 3, 1) := by decide +kernel
theorem dL_law_874 : decode cL_law 874 = .ok (.iconst 1, 1) := by decide +kernel
theorem dL_law_875 : decode cL_law 875 = .ok (.iadd, 1) := by decide +kernel
theorem dL_law_876 : decode cL_law 876 = .ok (.iaload, 1) := by decide +kernel
theorem dL_law_877 : decode cL_law 877 = .ok (.invokevirtual 121, 3) := by decide +kernel
theorem dL_law_880 : decode cL_law 880 = .ok (.if_icmp .eq 65, 3) := by decide +kernel
theorem dL_law_883 : decode cL_law 883 = .ok (.iconst 0, 1) := by decide +kernel
theorem dL_law_884 : decode cL_law 884 = .ok (.ireturn, 1) := by decide +kernel
theorem dL_law_885 : decode cL_law 885 = .ok (.aload_n 1, 1) := by decide +kernel
theorem dL_law_886 : decode cL_law 886 = .ok (.aload_n 0, 1) := by decide +kernel
theorem dL_law_887 : decode cL_law 887 = .ok (.iload_n 3, 1) := by decide +kernel
theorem dL_law_888 : decode cL_law 888 = .ok (.iconst 1, 1) := by decide +kernel
theorem dL_law_889 : decode cL_law 889 = .ok (.iadd, 1) := by decide +kernel
theorem dL_law_890 : decode cL_law 890 = .ok (.iaload, 1) := by decide +kernel
theorem dL_law_891 : decode cL_law 891 = .ok (.invokevirtual 122, 3) := by decide +kernel
theorem dL_law_894 : decode cL_law 894 = .ok (.aload_n 2, 1) := by decide +kernel
theorem dL_law_895 : decode cL_law 895 = .ok (.aload_n 0, 1) := by decide +kernel
theorem dL_law_896 : decode cL_law 896 = .ok (.iload_n 3, 1) := by decide +kernel
theorem dL_law_897 : decode cL_law 897 = .ok (.iconst 1, 1) := by decide +kernel
theorem dL_law_898 : decode cL_law 898 = .ok (.iadd, 1) := by decide +kernel
theorem dL_law_899 : decode cL_law 899 = .ok (.iaload, 1) := by decide +kernel
theorem dL_law_900 : decode cL_law 900 = .ok (.invokevirtual 125, 3) := by decide +kernel
theorem dL_law_903 : decode cL_law 903 = .ok (.if_icmp .eq 42, 3) := by decide +kernel
theorem dL_law_906 : decode cL_law 906 = .ok (.iconst 0, 1) := by decide +kernel
theorem dL_law_907 : decode cL_law 907 = .ok (.ireturn, 1) := by decide +kernel
theorem dL_law_908 : decode cL_law 908 = .ok (.aload_n 1, 1) := by decide +kernel
theorem dL_law_909 : decode cL_law 909 = .ok (.aload_n 0, 1) := by decide +kernel
theorem dL_law_910 : decode cL_law 910 = .ok (.iload_n 3, 1) := by decide +kernel
theorem dL_law_911 : decode cL_law 911 = .ok (.iconst 1, 1) := by decide +kernel
theorem dL_law_912 : decode cL_law 912 = .ok (.iadd, 1) := by decide +kernel
theorem dL_law_913 : decode cL_law 913 = .ok (.iaload, 1) := by decide +kernel
theorem dL_law_914 : decode cL_law 914 = .ok (.invokevirtual 126, 3) := by decide +kernel
theorem dL_law_917 : decode cL_law 917 = .ok (.aload_n 2, 1) := by decide +kernel
theorem dL_law_918 : decode cL_law 918 = .ok (.aload_n 0, 1) := by decide +kernel
theorem dL_law_919 : decode cL_law 919 = .ok (.iload_n 3, 1) := by decide +kernel
theorem dL_law_920 : decode cL_law 920 = .ok (.iconst 1, 1) := by decide +kernel
theorem dL_law_921 : decode cL_law 921 = .ok (.iadd, 1) := by decide +kernel
theorem dL_law_922 : decode cL_law 922 = .ok (.iaload, 1) := by decide +kernel
theorem dL_law_923 : decode cL_law 923 = .ok (.invokevirtual 129, 3) := by decide +kernel
theorem dL_law_926 : decode cL_law 926 = .ok (.if_icmp .eq 19, 3) := by decide +kernel
theorem dL_law_929 : decode cL_law 929 = .ok (.iconst 0, 1) := by decide +kernel
theorem dL_law_930 : decode cL_law 930 = .ok (.ireturn, 1) := by decide +kernel
theorem dL_law_931 : decode cL_law 931 = .ok (.aload_n 1, 1) := by decide +kernel
theorem dL_law_932 : decode cL_law 932 = .ok (.invokevirtual 130, 3) := by decide +kernel
theorem dL_law_935 : decode cL_law 935 = .ok (.aload_n 2, 1) := by decide +kernel
theorem dL_law_936 : decode cL_law 936 = .ok (.invokevirtual 134, 3) := by decide +kernel
theorem dL_law_939 : decode cL_law 939 = .ok (.lcmp, 1) := by decide +kernel
theorem dL_law_940 : decode cL_law 940 = .ok (.ifCond .eq 5, 3) := by decide +kernel
theorem dL_law_943 : decode cL_law 943 = .ok (.iconst 0, 1) := by decide +kernel
theorem dL_law_944 : decode cL_law 944 = .ok (.ireturn, 1) := by decide +kernel
theorem dL_law_945 : decode cL_law 945 = .ok (.iinc 3 6, 3) := by decide +kernel
theorem dL_law_948 : decode cL_law 948 = .ok (.goto (-930), 3) := by decide +kernel
theorem dL_law_951 : decode cL_law 951 = .ok (.iconst 1, 1) := by decide +kernel
theorem dL_law_952 : decode cL_law 952 = .ok (.ireturn, 1) := by decide +kernel
theorem dX0_init_0 : decode cX0_init 0 = .ok (.aload_n 0, 1) := by decide +kernel
theorem dX0_init_1 : decode cX0_init 1 = .ok (.invokespecial 3, 3) := by decide +kernel
theorem dX0_init_4 : decode cX0_init 4 = .ok (.return_, 1) := by decide +kernel
theorem dX0_sees_0 : decode cX0_sees 0 = .ok (.aload_n 0, 1) := by decide +kernel
theorem dX0_sees_1 : decode cX0_sees 1 = .ok (.iload_n 1, 1) := by decide +kernel
theorem dX0_sees_2 : decode cX0_sees 2 = .ok (.iload_n 2, 1) := by decide +kernel
theorem dX0_sees_3 : decode cX0_sees 3 = .ok (.invokespecial 9, 3) := by decide +kernel
theorem dX0_sees_6 : decode cX0_sees 6 = .ok (.istore_n 3, 1) := by decide +kernel
theorem dX0_sees_7 : decode cX0_sees 7 = .ok (.iload_n 3, 1) := by decide +kernel
theorem dX0_sees_8 : decode cX0_sees 8 = .ok (.bipush 10, 2) := by decide +kernel
theorem dX0_sees_10 : decode cX0_sees 10 = .ok (.if_icmp .lt 9, 3) := by decide +kernel
theorem dX0_sees_13 : decode cX0_sees 13 = .ok (.iload_n 3, 1) := by decide +kernel
theorem dX0_sees_14 : decode cX0_sees 14 = .ok (.iconst 2, 1) := by decide +kernel
theorem dX0_sees_15 : decode cX0_sees 15 = .ok (.isub, 1) := by decide +kernel
theorem dX0_sees_16 : decode cX0_sees 16 = .ok (.goto 4, 3) := by decide +kernel
theorem dX0_sees_19 : decode cX0_sees 19 = .ok (.iload_n 3, 1) := by decide +kernel
theorem dX0_sees_20 : decode cX0_sees 20 = .ok (.ireturn, 1) := by decide +kernel
theorem dX1_init_0 : decode cX1_init 0 = .ok (.aload_n 0, 1) := by decide +kernel
theorem dX1_init_1 : decode cX1_init 1 = .ok (.invokespecial 3, 3) := by decide +kernel
theorem dX1_init_4 : decode cX1_init 4 = .ok (.return_, 1) := by decide +kernel
theorem dX1_sees_0 : decode cX1_sees 0 = .ok (.iload_n 2, 1) := by decide +kernel
theorem dX1_sees_1 : decode cX1_sees 1 = .ok (.iconst 3, 1) := by decide +kernel
theorem dX1_sees_2 : decode cX1_sees 2 = .ok (.irem, 1) := by decide +kernel
theorem dX1_sees_3 : decode cX1_sees 3 = .ok (.iconst 2, 1) := by decide +kernel
theorem dX1_sees_4 : decode cX1_sees 4 = .ok (.if_icmp .ne 7, 3) := by decide +kernel
theorem dX1_sees_7 : decode cX1_sees 7 = .ok (.iconst (-1), 1) := by decide +kernel
theorem dX1_sees_8 : decode cX1_sees 8 = .ok (.goto 4, 3) := by decide +kernel
theorem dX1_sees_11 : decode cX1_sees 11 = .ok (.iload_n 1, 1) := by decide +kernel
theorem dX1_sees_12 : decode cX1_sees 12 = .ok (.ireturn, 1) := by decide +kernel
theorem dX2_init_0 : decode cX2_init 0 = .ok (.aload_n 0, 1) := by decide +kernel
theorem dX2_init_1 : decode cX2_init 1 = .ok (.invokespecial 3, 3) := by decide +kernel
theorem dX2_init_4 : decode cX2_init 4 = .ok (.aload_n 0, 1) := by decide +kernel
theorem dX2_init_5 : decode cX2_init 5 = .ok (.iconst 3, 1) := by decide +kernel
theorem dX2_init_6 : decode cX2_init 6 = .ok (.newarray .int, 2) := by decide +kernel
theorem dX2_init_8 : decode cX2_init 8 = .ok (.putfield 9, 3) := by decide +kernel
theorem dX2_init_11 : decode cX2_init 11 = .ok (.aload_n 0, 1) := by decide +kernel
theorem dX2_init_12 : decode cX2_init 12 = .ok (.bipush 24, 2) := by decide +kernel
theorem dX2_init_14 : decode cX2_init 14 = .ok (.newarray .int, 2) := by decide +kernel
theorem dX2_init_16 : decode cX2_init 16 = .ok (.putfield 15, 3) := by decide +kernel
theorem dX2_init_19 : decode cX2_init 19 = .ok (.aload_n 0, 1) := by decide +kernel
theorem dX2_init_20 : decode cX2_init 20 = .ok (.bipush 24, 2) := by decide +kernel
theorem dX2_init_22 : decode cX2_init 22 = .ok (.newarray .int, 2) := by decide +kernel
theorem dX2_init_24 : decode cX2_init 24 = .ok (.putfield 18, 3) := by decide +kernel
theorem dX2_init_27 : decode cX2_init 27 = .ok (.aload_n 0, 1) := by decide +kernel
theorem dX2_init_28 : decode cX2_init 28 = .ok (.bipush 10, 2) := by decide +kernel
theorem dX2_init_30 : decode cX2_init 30 = .ok (.newarray .int, 2) := by decide +kernel
theorem dX2_init_32 : decode cX2_init 32 = .ok (.putfield 21, 3) := by decide +kernel
theorem dX2_init_35 : decode cX2_init 35 = .ok (.return_, 1) := by decide +kernel
theorem dX2_take_0 : decode cX2_take 0 = .ok (.aload_n 0, 1) := by decide +kernel
theorem dX2_take_1 : decode cX2_take 1 = .ok (.aload_n 1, 1) := by decide +kernel
theorem dX2_take_2 : decode cX2_take 2 = .ok (.getfield 24, 3) := by decide +kernel
theorem dX2_take_5 : decode cX2_take 5 = .ok (.putfield 24, 3) := by decide +kernel
theorem dX2_take_8 : decode cX2_take 8 = .ok (.aload_n 1, 1) := by decide +kernel
theorem dX2_take_9 : decode cX2_take 9 = .ok (.getfield 9, 3) := by decide +kernel
theorem dX2_take_12 : decode cX2_take 12 = .ok (.iconst 0, 1) := by decide +kernel
theorem dX2_take_13 : decode cX2_take 13 = .ok (.aload_n 0, 1) := by decide +kernel
theorem dX2_take_14 : decode cX2_take 14 = .ok (.getfield 9, 3) := by decide +kernel
theorem dX2_take_17 : decode cX2_take 17 = .ok (.iconst 0, 1) := by decide +kernel
theorem dX2_take_18 : decode cX2_take 18 = .ok (.aload_n 0, 1) := by decide +kernel
theorem dX2_take_19 : decode cX2_take 19 = .ok (.getfield 9, 3) := by decide +kernel
theorem dX2_take_22 : decode cX2_take 22 = .ok (.arraylength, 1) := by decide +kernel
theorem dX2_take_23 : decode cX2_take 23 = .ok (.invokestatic 28, 3) := by decide +kernel
theorem dX2_take_26 : decode cX2_take 26 = .ok (.aload_n 1, 1) := by decide +kernel
theorem dX2_take_27 : decode cX2_take 27 = .ok (.getfield 15, 3) := by decide +kernel
theorem dX2_take_30 : decode cX2_take 30 = .ok (.iconst 0, 1) := by decide +kernel
theorem dX2_take_31 : decode cX2_take 31 = .ok (.aload_n 0, 1) := by decide +kernel
theorem dX2_take_32 : decode cX2_take 32 = .ok (.getfield 15, 3) := by decide +kernel
theorem dX2_take_35 : decode cX2_take 35 = .ok (.iconst 0, 1) := by decide +kernel
theorem dX2_take_36 : decode cX2_take 36 = .ok (.aload_n 0, 1) := by decide +kernel
theorem dX2_take_37 : decode cX2_take 37 = .ok (.getfield 15, 3) := by decide +kernel
theorem dX2_take_40 : decode cX2_take 40 = .ok (.arraylength, 1) := by decide +kernel
theorem dX2_take_41 : decode cX2_take 41 = .ok (.invokestatic 28, 3) := by decide +kernel
theorem dX2_take_44 : decode cX2_take 44 = .ok (.aload_n 1, 1) := by decide +kernel
theorem dX2_take_45 : decode cX2_take 45 = .ok (.getfield 18, 3) := by decide +kernel
theorem dX2_take_48 : decode cX2_take 48 = .ok (.iconst 0, 1) := by decide +kernel
theorem dX2_take_49 : decode cX2_take 49 = .ok (.aload_n 0, 1) := by decide +kernel
theorem dX2_take_50 : decode cX2_take 50 = .ok (.getfield 18, 3) := by decide +kernel
theorem dX2_take_53 : decode cX2_take 53 = .ok (.iconst 0, 1) := by decide +kernel
theorem dX2_take_54 : decode cX2_take 54 = .ok (.aload_n 0, 1) := by decide +kernel
theorem dX2_take_55 : decode cX2_take 55 = .ok (.getfield 18, 3) := by decide +kernel
theorem dX2_take_58 : decode cX2_take 58 = .ok (.arraylength, 1) := by decide +kernel
theorem dX2_take_59 : decode cX2_take 59 = .ok (.invokestatic 28, 3) := by decide +kernel
theorem dX2_take_62 : decode cX2_take 62 = .ok (.aload_n 1, 1) := by decide +kernel
theorem dX2_take_63 : decode cX2_take 63 = .ok (.getfield 21, 3) := by decide +kernel
theorem dX2_take_66 : decode cX2_take 66 = .ok (.iconst 0, 1) := by decide +kernel
theorem dX2_take_67 : decode cX2_take 67 = .ok (.aload_n 0, 1) := by decide +kernel
theorem dX2_take_68 : decode cX2_take 68 = .ok (.getfield 21, 3) := by decide +kernel
theorem dX2_take_71 : decode cX2_take 71 = .ok (.iconst 0, 1) := by decide +kernel
theorem dX2_take_72 : decode cX2_take 72 = .ok (.aload_n 0, 1) := by decide +kernel
theorem dX2_take_73 : decode cX2_take 73 = .ok (.getfield 21, 3) := by decide +kernel
theorem dX2_take_76 : decode cX2_take 76 = .ok (.arraylength, 1) := by decide +kernel
theorem dX2_take_77 : decode cX2_take 77 = .ok (.invokestatic 28, 3) := by decide +kernel
theorem dX2_take_80 : decode cX2_take 80 = .ok (.return_, 1) := by decide +kernel
theorem dX2_open_0 : decode cX2_open 0 = .ok (.aload_n 0, 1) := by decide +kernel
theorem dX2_open_1 : decode cX2_open 1 = .ok (.getfield 9, 3) := by decide +kernel
theorem dX2_open_4 : decode cX2_open 4 = .ok (.aload_n 0, 1) := by decide +kernel
theorem dX2_open_5 : decode cX2_open 5 = .ok (.getfield 24, 3) := by decide +kernel
theorem dX2_open_8 : decode cX2_open 8 = .ok (.iconst 0, 1) := by decide +kernel
theorem dX2_open_9 : decode cX2_open 9 = .ok (.iastore, 1) := by decide +kernel
theorem dX2_open_10 : decode cX2_open 10 = .ok (.aload_n 0, 1) := by decide +kernel
theorem dX2_open_11 : decode cX2_open 11 = .ok (.dup, 1) := by decide +kernel
theorem dX2_open_12 : decode cX2_open 12 = .ok (.getfield 24, 3) := by decide +kernel
theorem dX2_open_15 : decode cX2_open 15 = .ok (.iconst 1, 1) := by decide +kernel
theorem dX2_open_16 : decode cX2_open 16 = .ok (.iadd, 1) := by decide +kernel
theorem dX2_open_17 : decode cX2_open 17 = .ok (.putfield 24, 3) := by decide +kernel
theorem dX2_open_20 : decode cX2_open 20 = .ok (.aload_n 0, 1) := by decide +kernel
theorem dX2_open_21 : decode cX2_open 21 = .ok (.getfield 24, 3) := by decide +kernel
theorem dX2_open_24 : decode cX2_open 24 = .ok (.iconst 1, 1) := by decide +kernel
theorem dX2_open_25 : decode cX2_open 25 = .ok (.isub, 1) := by decide +kernel
theorem dX2_open_26 : decode cX2_open 26 = .ok (.ireturn, 1) := by decide +kernel
theorem dX2_has_0 : decode cX2_has 0 = .ok (.iconst 0, 1) := by decide +kernel
theorem dX2_has_1 : decode cX2_has 1 = .ok (.istore_n 3, 1) := by decide +kernel
theorem dX2_has_2 : decode cX2_has 2 = .ok (.iload_n 3, 1) := by decide +kernel
theorem dX2_has_3 : decode cX2_has 3 = .ok (.aload_n 0, 1) := by decide +kernel
theorem dX2_has_4 : decode cX2_has 4 = .ok (.getfield 9, 3) := by decide +kernel
theorem dX2_has_7 : decode cX2_has 7 = .ok (.iload_n 1, 1) := by decide +kernel
theorem dX2_has_8 : decode cX2_has 8 = .ok (.iaload, 1) := by decide +kernel
theorem dX2_has_9 : decode cX2_has 9 = .ok (.if_icmp .ge 26, 3) := by decide +kernel
theorem dX2_has_12 : decode cX2_has 12 = .ok (.aload_n 0, 1) := by decide +kernel
theorem dX2_has_13 : decode cX2_has 13 = .ok (.getfield 15, 3) := by decide +kernel
theorem dX2_has_16 : decode cX2_has 16 = .ok (.iload_n 1, 1) := by decide +kernel
theorem dX2_has_17 : decode cX2_has 17 = .ok (.bipush 8, 2) := by decide +kernel
theorem dX2_has_19 : decode cX2_has 19 = .ok (.imul, 1) := by decide +kernel
theorem dX2_has_20 : decode cX2_has 20 = .ok (.iload_n 3, 1) := by decide +kernel
theorem dX2_has_21 : decode cX2_has 21 = .ok (.iadd, 1) := by decide +kernel
theorem dX2_has_22 : decode cX2_has 22 = .ok (.iaload, 1) := by decide +kernel
theorem dX2_has_23 : decode cX2_has 23 = .ok (.iload_n 2, 1) := by decide +kernel
theorem dX2_has_24 : decode cX2_has 24 = .ok (.if_icmp .ne 5, 3) := by decide +kernel
theorem dX2_has_27 : decode cX2_has 27 = .ok (.iconst 1, 1) := by decide +kernel
theorem dX2_has_28 : decode cX2_has 28 = .ok (.ireturn, 1) := by decide +kernel
theorem dX2_has_29 : decode cX2_has 29 = .ok (.iinc 3 1, 3) := by decide +kernel
theorem dX2_has_32 : decode cX2_has 32 = .ok (.goto (-30), 3) := by decide +kernel
theorem dX2_has_35 : decode cX2_has 35 = .ok (.iconst 0, 1) := by decide +kernel
theorem dX2_has_36 : decode cX2_has 36 = .ok (.ireturn, 1) := by decide +kernel
theorem dX2_add_0 : decode cX2_add 0 = .ok (.aload_n 0, 1) := by decide +kernel
theorem dX2_add_1 : decode cX2_add 1 = .ok (.iload_n 1, 1) := by decide +kernel
theorem dX2_add_2 : decode cX2_add 2 = .ok (.aload_n 0, 1) := by decide +kernel
theorem dX2_add_3 : decode cX2_add 3 = .ok (.getfield 9, 3) := by decide +kernel
theorem dX2_add_6 : decode cX2_add 6 = .ok (.iload_n 1, 1) := by decide +kernel
theorem dX2_add_7 : decode cX2_add 7 = .ok (.iaload, 1) := by decide +kernel
theorem dX2_add_8 : decode cX2_add 8 = .ok (.iload_n 2, 1) := by decide +kernel
theorem dX2_add_9 : decode cX2_add 9 = .ok (.iload_n 3, 1) := by decide +kernel
theorem dX2_add_10 : decode cX2_add 10 = .ok (.invokevirtual 34, 3) := by decide +kernel
theorem dX2_add_13 : decode cX2_add 13 = .ok (.aload_n 0, 1) := by decide +kernel
theorem dX2_add_14 : decode cX2_add 14 = .ok (.getfield 9, 3) := by decide +kernel
theorem dX2_add_17 : decode cX2_add 17 = .ok (.iload_n 1, 1) := by decide +kernel
theorem dX2_add_18 : decode cX2_add 18 = .ok (.dup2, 1) := by decide +kernel
theorem dX2_add_19 : decode cX2_add 19 = .ok (.iaload, 1) := by decide +kernel
theorem dX2_add_20 : decode cX2_add 20 = .ok (.iconst 1, 1) := by decide +kernel
theorem dX2_add_21 : decode cX2_add 21 = .ok (.iadd, 1) := by decide +kernel
theorem dX2_add_22 : decode cX2_add 22 = .ok (.iastore, 1) := by decide +kernel
theorem dX2_add_23 : decode cX2_add 23 = .ok (.aload_n 0, 1) := by decide +kernel
theorem dX2_add_24 : decode cX2_add 24 = .ok (.getfield 9, 3) := by decide +kernel
theorem dX2_add_27 : decode cX2_add 27 = .ok (.iload_n 1, 1) := by decide +kernel
theorem dX2_add_28 : decode cX2_add 28 = .ok (.iaload, 1) := by decide +kernel
theorem dX2_add_29 : decode cX2_add 29 = .ok (.iconst 1, 1) := by decide +kernel
theorem dX2_add_30 : decode cX2_add 30 = .ok (.isub, 1) := by decide +kernel
theorem dX2_add_31 : decode cX2_add 31 = .ok (.ireturn, 1) := by decide +kernel
theorem dX2_put_0 : decode cX2_put 0 = .ok (.aload_n 0, 1) := by decide +kernel
theorem dX2_put_1 : decode cX2_put 1 = .ok (.getfield 15, 3) := by decide +kernel
theorem dX2_put_4 : decode cX2_put 4 = .ok (.iload_n 1, 1) := by decide +kernel
theorem dX2_put_5 : decode cX2_put 5 = .ok (.bipush 8, 2) := by decide +kernel
theorem dX2_put_7 : decode cX2_put 7 = .ok (.imul, 1) := by decide +kernel
theorem dX2_put_8 : decode cX2_put 8 = .ok (.iload_n 2, 1) := by decide +kernel
theorem dX2_put_9 : decode cX2_put 9 = .ok (.iadd, 1) := by decide +kernel
theorem dX2_put_10 : decode cX2_put 10 = .ok (.iload 4, 2) := by decide +kernel
theorem dX2_put_12 : decode cX2_put 12 = .ok (.iastore, 1) := by decide +kernel
theorem dX2_put_13 : decode cX2_put 13 = .ok (.aload_n 0, 1) := by decide +kernel
theorem dX2_put_14 : decode cX2_put 14 = .ok (.getfield 18, 3) := by decide +kernel
theorem dX2_put_17 : decode cX2_put 17 = .ok (.iload_n 1, 1) := by decide +kernel
theorem dX2_put_18 : decode cX2_put 18 = .ok (.bipush 8, 2) := by decide +kernel
theorem dX2_put_20 : decode cX2_put 20 = .ok (.imul, 1) := by decide +kernel
theorem dX2_put_21 : decode cX2_put 21 = .ok (.iload_n 2, 1) := by decide +kernel
theorem dX2_put_22 : decode cX2_put 22 = .ok (.iadd, 1) := by decide +kernel
theorem dX2_put_23 : decode cX2_put 23 = .ok (.iload_n 3, 1) := by decide +kernel
theorem dX2_put_24 : decode cX2_put 24 = .ok (.iastore, 1) := by decide +kernel
theorem dX2_put_25 : decode cX2_put 25 = .ok (.return_, 1) := by decide +kernel
theorem dX2_use_0 : decode cX2_use 0 = .ok (.aload_n 0, 1) := by decide +kernel
theorem dX2_use_1 : decode cX2_use 1 = .ok (.getfield 21, 3) := by decide +kernel
theorem dX2_use_4 : decode cX2_use 4 = .ok (.iload_n 1, 1) := by decide +kernel
theorem dX2_use_5 : decode cX2_use 5 = .ok (.sipush 999, 3) := by decide +kernel
theorem dX2_use_8 : decode cX2_use 8 = .ok (.aload_n 0, 1) := by decide +kernel
theorem dX2_use_9 : decode cX2_use 9 = .ok (.getfield 21, 3) := by decide +kernel
theorem dX2_use_12 : decode cX2_use 12 = .ok (.iload_n 1, 1) := by decide +kernel
theorem dX2_use_13 : decode cX2_use 13 = .ok (.iaload, 1) := by decide +kernel
theorem dX2_use_14 : decode cX2_use 14 = .ok (.iconst 1, 1) := by decide +kernel
theorem dX2_use_15 : decode cX2_use 15 = .ok (.iadd, 1) := by decide +kernel
theorem dX2_use_16 : decode cX2_use 16 = .ok (.invokestatic 38, 3) := by decide +kernel
theorem dX2_use_19 : decode cX2_use 19 = .ok (.iastore, 1) := by decide +kernel
theorem dX2_use_20 : decode cX2_use 20 = .ok (.return_, 1) := by decide +kernel
theorem dX2_allEntries_0 : decode cX2_allEntries 0 = .ok (.iconst 0, 1) := by decide +kernel
theorem dX2_allEntries_1 : decode cX2_allEntries 1 = .ok (.istore_n 1, 1) := by decide +kernel
theorem dX2_allEntries_2 : decode cX2_allEntries 2 = .ok (.iconst 0, 1) := by decide +kernel
theorem dX2_allEntries_3 : decode cX2_allEntries 3 = .ok (.istore_n 2, 1) := by decide +kernel
theorem dX2_allEntries_4 : decode cX2_allEntries 4 = .ok (.iload_n 2, 1) := by decide +kernel
theorem dX2_allEntries_5 : decode cX2_allEntries 5 = .ok (.aload_n 0, 1) := by decide +kernel
theorem dX2_allEntries_6 : decode cX2_allEntries 6 = .ok (.getfield 24, 3) := by decide +kernel
theorem dX2_allEntries_9 : decode cX2_allEntries 9 = .ok (.if_icmp .ge 18, 3) := by decide +kernel
theorem dX2_allEntries_12 : decode cX2_allEntries 12 = .ok (.iload_n 1, 1) := by decide +kernel
theorem dX2_allEntries_13 : decode cX2_allEntries 13 = .ok (.aload_n 0, 1) := by decide +kernel
theorem dX2_allEntries_14 : decode cX2_allEntries 14 = .ok (.getfield 9, 3) := by decide +kernel
theorem dX2_allEntries_17 : decode cX2_allEntries 17 = .ok (.iload_n 2, 1) := by decide +kernel
theorem dX2_allEntries_18 : decode cX2_allEntries 18 = .ok (.iaload, 1) := by decide +kernel
theorem dX2_allEntries_19 : decode cX2_allEntries 19 = .ok (.iadd, 1) := by decide +kernel
theorem dX2_allEntries_20 : decode cX2_allEntries 20 = .ok (.istore_n 1, 1) := by decide +kernel
theorem dX2_allEntries_21 : decode cX2_allEntries 21 = .ok (.iinc 2 1, 3) := by decide +kernel
theorem dX2_allEntries_24 : decode cX2_allEntries 24 = .ok (.goto (-20), 3) := by decide +kernel
theorem dX2_allEntries_27 : decode cX2_allEntries 27 = .ok (.iload_n 1, 1) := by decide +kernel
theorem dX2_allEntries_28 : decode cX2_allEntries 28 = .ok (.ireturn, 1) := by decide +kernel
theorem dX2_dropUnused_0 : decode cX2_dropUnused 0 = .ok (.aload_n 0, 1) := by decide +kernel
theorem dX2_dropUnused_1 : decode cX2_dropUnused 1 = .ok (.invokevirtual 44, 3) := by decide +kernel
theorem dX2_dropUnused_4 : decode cX2_dropUnused 4 = .ok (.istore_n 1, 1) := by decide +kernel
theorem dX2_dropUnused_5 : decode cX2_dropUnused 5 = .ok (.iconst 0, 1) := by decide +kernel
theorem dX2_dropUnused_6 : decode cX2_dropUnused 6 = .ok (.istore_n 2, 1) := by decide +kernel
theorem dX2_dropUnused_7 : decode cX2_dropUnused 7 = .ok (.iload_n 2, 1) := by decide +kernel
theorem dX2_dropUnused_8 : decode cX2_dropUnused 8 = .ok (.aload_n 0, 1) := by decide +kernel
theorem dX2_dropUnused_9 : decode cX2_dropUnused 9 = .ok (.getfield 24, 3) := by decide +kernel
theorem dX2_dropUnused_12 : decode cX2_dropUnused 12 = .ok (.if_icmp .ge 85, 3) := by decide +kernel
theorem dX2_dropUnused_15 : decode cX2_dropUnused 15 = .ok (.iconst 0, 1) := by decide +kernel
theorem dX2_dropUnused_16 : decode cX2_dropUnused 16 = .ok (.istore_n 3, 1) := by decide +kernel
theorem dX2_dropUnused_17 : decode cX2_dropUnused 17 = .ok (.iconst 0, 1) := by decide +kernel
theorem dX2_dropUnused_18 : decode cX2_dropUnused 18 = .ok (.istore 4, 2) := by decide +kernel
theorem dX2_dropUnused_20 : decode cX2_dropUnused 20 = .ok (.iload 4, 2) := by decide +kernel
theorem dX2_dropUnused_22 : decode cX2_dropUnused 22 = .ok (.aload_n 0, 1) := by decide +kernel
theorem dX2_dropUnused_23 : decode cX2_dropUnused 23 = .ok (.getfield 9, 3) := by decide +kernel
theorem dX2_dropUnused_26 : decode cX2_dropUnused 26 = .ok (.iload_n 2, 1) := by decide +kernel
theorem dX2_dropUnused_27 : decode cX2_dropUnused 27 = .ok (.iaload, 1) := by decide +kernel
theorem dX2_dropUnused_28 : decode cX2_dropUnused 28 = .ok (.if_icmp .ge 56, 3) := by decide +kernel
theorem dX2_dropUnused_31 : decode cX2_dropUnused 31 = .ok (.iload_n 2, 1) := by decide +kernel
theorem dX2_dropUnused_32 : decode cX2_dropUnused 32 = .ok (.bipush 8, 2) := by decide +kernel
theorem dX2_dropUnused_34 : decode cX2_dropUnused 34 = .ok (.imul, 1) := by decide +kernel
theorem dX2_dropUnused_35 : decode cX2_dropUnused 35 = .ok (.iload 4, 2) := by decide +kernel
theorem dX2_dropUnused_37 : decode cX2_dropUnused 37 = .ok (.iadd, 1) := by decide +kernel
theorem dX2_dropUnused_38 : decode cX2_dropUnused 38 = .ok (.istore 5, 2) := by decide +kernel
theorem dX2_dropUnused_40 : decode cX2_dropUnused 40 = .ok (.aload_n 0, 1) := by decide +kernel
theorem dX2_dropUnused_41 : decode cX2_dropUnused 41 = .ok (.getfield 21, 3) := by decide +kernel
theorem dX2_dropUnused_44 : decode cX2_dropUnused 44 = .ok (.aload_n 0, 1) := by decide +kernel
theorem dX2_dropUnused_45 : decode cX2_dropUnused 45 = .ok (.getfield 18, 3) := by decide +kernel
theorem dX2_dropUnused_48 : decode cX2_dropUnused 48 = .ok (.iload 5, 2) := by decide +kernel
theorem dX2_dropUnused_50 : decode cX2_dropUnused 50 = .ok (.iaload, 1) := by decide +kernel
theorem dX2_dropUnused_51 : decode cX2_dropUnused 51 = .ok (.iaload, 1) := by decide +kernel
theorem dX2_dropUnused_52 : decode cX2_dropUnused 52 = .ok (.ifCond .le 26, 3) := by decide +kernel
theorem dX2_dropUnused_55 : decode cX2_dropUnused 55 = .ok (.aload_n 0, 1) := by decide +kernel
theorem dX2_dropUnused_56 : decode cX2_dropUnused 56 = .ok (.iload_n 2, 1) := by decide +kernel
theorem dX2_dropUnused_57 : decode cX2_dropUnused 57 = .ok (.iload_n 3, 1) := by decide +kernel
theorem dX2_dropUnused_58 : decode cX2_dropUnused 58 = .ok (.aload_n 0, 1) := by decide +kernel
theorem dX2_dropUnused_59 : decode cX2_dropUnused 59 = .ok (.getfield 18, 3) := by decide +kernel
theorem dX2_dropUnused_62 : decode cX2_dropUnused 62 = .ok (.iload 5, 2) := by decide +kernel
theorem dX2_dropUnused_64 : decode cX2_dropUnused 64 = .ok (.iaload, 1) := by decide +kernel
theorem dX2_dropUnused_65 : decode cX2_dropUnused 65 = .ok (.aload_n 0, 1) := by decide +kernel
theorem dX2_dropUnused_66 : decode cX2_dropUnused 66 = .ok (.getfield 15, 3) := by decide +kernel
theorem dX2_dropUnused_69 : decode cX2_dropUnused 69 = .ok (.iload 5, 2) := by decide +kernel
theorem dX2_dropUnused_71 : decode cX2_dropUnused 71 = .ok (.iaload, 1) := by decide +kernel
theorem dX2_dropUnused_72 : decode cX2_dropUnused 72 = .ok (.invokevirtual 34, 3) := by decide +kernel
theorem dX2_dropUnused_75 : decode cX2_dropUnused 75 = .ok (.iinc 3 1, 3) := by decide +kernel
theorem dX2_dropUnused_78 : decode cX2_dropUnused 78 = .ok (.iinc 4 1, 3) := by decide +kernel
theorem dX2_dropUnused_81 : decode cX2_dropUnused 81 = .ok (.goto (-61), 3) := by decide +kernel
theorem dX2_dropUnused_84 : decode cX2_dropUnused 84 = .ok (.aload_n 0, 1) := by decide +kernel
theorem dX2_dropUnused_85 : decode cX2_dropUnused 85 = .ok (.getfield 9, 3) := by decide +kernel
theorem dX2_dropUnused_88 : decode cX2_dropUnused 88 = .ok (.iload_n 2, 1) := by decide +kernel
theorem dX2_dropUnused_89 : decode cX2_dropUnused 89 = .ok (.iload_n 3, 1) := by decide +kernel
theorem dX2_dropUnused_90 : decode cX2_dropUnused 90 = .ok (.iastore, 1) := by decide +kernel
theorem dX2_dropUnused_91 : decode cX2_dropUnused 91 = .ok (.iinc 2 1, 3) := by decide +kernel
theorem dX2_dropUnused_94 : decode cX2_dropUnused 94 = .ok (.goto (-87), 3) := by decide +kernel
theorem dX2_dropUnused_97 : decode cX2_dropUnused 97 = .ok (.iconst 0, 1) := by decide +kernel
theorem dX2_dropUnused_98 : decode cX2_dropUnused 98 = .ok (.istore_n 2, 1) := by decide +kernel
theorem dX2_dropUnused_99 : decode cX2_dropUnused 99 = .ok (.iload_n 2, 1) := by decide +kernel
theorem dX2_dropUnused_100 : decode cX2_dropUnused 100 = .ok (.bipush 10, 2) := by decide +kernel
theorem dX2_dropUnused_102 : decode cX2_dropUnused 102 = .ok (.if_icmp .ge 16, 3) := by decide +kernel
theorem dX2_dropUnused_105 : decode cX2_dropUnused 105 = .ok (.aload_n 0, 1) := by decide +kernel
theorem dX2_dropUnused_106 : decode cX2_dropUnused 106 = .ok (.getfield 21, 3) := by decide +kernel
theorem dX2_dropUnused_109 : decode cX2_dropUnused 109 = .ok (.iload_n 2, 1) := by decide +kernel
theorem dX2_dropUnused_110 : decode cX2_dropUnused 110 = .ok (.iconst 0, 1) := by decide +kernel
theorem dX2_dropUnused_111 : decode cX2_dropUnused 111 = .ok (.iastore, 1) := by decide +kernel
theorem dX2_dropUnused_112 : decode cX2_dropUnused 112 = .ok (.iinc 2 1, 3) := by decide +kernel
theorem dX2_dropUnused_115 : decode cX2_dropUnused 115 = .ok (.goto (-16), 3) := by decide +kernel
theorem dX2_dropUnused_118 : decode cX2_dropUnused 118 = .ok (.iload_n 1, 1) := by decide +kernel
theorem dX2_dropUnused_119 : decode cX2_dropUnused 119 = .ok (.aload_n 0, 1) := by decide +kernel
theorem dX2_dropUnused_120 : decode cX2_dropUnused 120 = .ok (.invokevirtual 44, 3) := by decide +kernel
theorem dX2_dropUnused_123 : decode cX2_dropUnused 123 = .ok (.isub, 1) := by decide +kernel
theorem dX2_dropUnused_124 : decode cX2_dropUnused 124 = .ok (.ireturn, 1) := by decide +kernel
theorem dX2_digestOn_0 : decode cX2_digestOn 0 = .ok (.lload_n 1, 1) := by decide +kernel
theorem dX2_digestOn_1 : decode cX2_digestOn 1 = .ok (.lstore_n 3, 1) := by decide +kernel
theorem dX2_digestOn_2 : decode cX2_digestOn 2 = .ok (.iconst 0, 1) := by decide +kernel
theorem dX2_digestOn_3 : decode cX2_digestOn 3 = .ok (.istore 5, 2) := by decide +kernel
theorem dX2_digestOn_5 : decode cX2_digestOn 5 = .ok (.iload 5, 2) := by decide +kernel
theorem dX2_digestOn_7 : decode cX2_digestOn 7 = .ok (.aload_n 0, 1) := by decide +kernel
theorem dX2_digestOn_8 : decode cX2_digestOn 8 = .ok (.getfield 24, 3) := by decide +kernel
theorem dX2_digestOn_11 : decode cX2_digestOn 11 = .ok (.if_icmp .ge 87, 3) := by decide +kernel
theorem dX2_digestOn_14 : decode cX2_digestOn 14 = .ok (.ldc2_w 48, 3) := by decide +kernel
theorem dX2_digestOn_17 : decode cX2_digestOn 17 = .ok (.lload_n 3, 1) := by decide +kernel
theorem dX2_digestOn_18 : decode cX2_digestOn 18 = .ok (.lmul, 1) := by decide +kernel
theorem dX2_digestOn_19 : decode cX2_digestOn 19 = .ok (.aload_n 0, 1) := by decide +kernel
theorem dX2_digestOn_20 : decode cX2_digestOn 20 = .ok (.getfield 9, 3) := by decide +kernel
theorem dX2_digestOn_23 : decode cX2_digestOn 23 = .ok (.iload 5, 2) := by decide +kernel
theorem dX2_digestOn_25 : decode cX2_digestOn 25 = .ok (.iaload, 1) := by decide +kernel
theorem dX2_digestOn_26 : decode cX2_digestOn 26 = .ok (.i2l, 1) := by decide +kernel
theorem dX2_digestOn_27 : decode cX2_digestOn 27 = .ok (.ladd, 1) := by decide +kernel
theorem dX2_digestOn_28 : decode cX2_digestOn 28 = .ok (.lstore_n 3, 1) := by decide +kernel
theorem dX2_digestOn_29 : decode cX2_digestOn 29 = .ok (.iconst 0, 1) := by decide +kernel
theorem dX2_digestOn_30 : decode cX2_digestOn 30 = .ok (.istore 6, 2) := by decide +kernel
theorem dX2_digestOn_32 : decode cX2_digestOn 32 = .ok (.iload 6, 2) := by decide +kernel
theorem dX2_digestOn_34 : decode cX2_digestOn 34 = .ok (.aload_n 0, 1) := by decide +kernel
theorem dX2_digestOn_35 : decode cX2_digestOn 35 = .ok (.getfield 9, 3) := by decide +kernel
theorem dX2_digestOn_38 : decode cX2_digestOn 38 = .ok (.iload 5, 2) := by decide +kernel
theorem dX2_digestOn_40 : decode cX2_digestOn 40 = .ok (.iaload, 1) := by decide +kernel
theorem dX2_digestOn_41 : decode cX2_digestOn 41 = .ok (.if_icmp .ge 51, 3) := by decide +kernel
theorem dX2_digestOn_44 : decode cX2_digestOn 44 = .ok (.ldc2_w 48, 3) := by decide +kernel
theorem dX2_digestOn_47 : decode cX2_digestOn 47 = .ok (.lload_n 3, 1) := by decide +kernel
theorem dX2_digestOn_48 : decode cX2_digestOn 48 = .ok (.lmul, 1) := by decide +kernel
theorem dX2_digestOn_49 : decode cX2_digestOn 49 = .ok (.aload_n 0, 1) := by decide +kernel
theorem dX2_digestOn_50 : decode cX2_digestOn 50 = .ok (.getfield 15, 3) := by decide +kernel
theorem dX2_digestOn_53 : decode cX2_digestOn 53 = .ok (.iload 5, 2) := by decide +kernel
theorem dX2_digestOn_55 : decode cX2_digestOn 55 = .ok (.bipush 8, 2) := by decide +kernel
theorem dX2_digestOn_57 : decode cX2_digestOn 57 = .ok (.imul, 1) := by decide +kernel
theorem dX2_digestOn_58 : decode cX2_digestOn 58 = .ok (.iload 6, 2) := by decide +kernel
theorem dX2_digestOn_60 : decode cX2_digestOn 60 = .ok (.iadd, 1) := by decide +kernel
theorem dX2_digestOn_61 : decode cX2_digestOn 61 = .ok (.iaload, 1) := by decide +kernel
theorem dX2_digestOn_62 : decode cX2_digestOn 62 = .ok (.i2l, 1) := by decide +kernel
theorem dX2_digestOn_63 : decode cX2_digestOn 63 = .ok (.ladd, 1) := by decide +kernel
theorem dX2_digestOn_64 : decode cX2_digestOn 64 = .ok (.lstore_n 3, 1) := by decide +kernel
theorem dX2_digestOn_65 : decode cX2_digestOn 65 = .ok (.ldc2_w 48, 3) := by decide +kernel
theorem dX2_digestOn_68 : decode cX2_digestOn 68 = .ok (.lload_n 3, 1) := by decide +kernel
theorem dX2_digestOn_69 : decode cX2_digestOn 69 = .ok (.lmul, 1) := by decide +kernel
theorem dX2_digestOn_70 : decode cX2_digestOn 70 = .ok (.aload_n 0, 1) := by decide +kernel
theorem dX2_digestOn_71 : decode cX2_digestOn 71 = .ok (.getfield 18, 3) := by decide +kernel
theorem dX2_digestOn_74 : decode cX2_digestOn 74 = .ok (.iload 5, 2) := by decide +kernel
theorem dX2_digestOn_76 : decode cX2_digestOn 76 = .ok (.bipush 8, 2) := by decide +kernel
theorem dX2_digestOn_78 : decode cX2_digestOn 78 = .ok (.imul, 1) := by decide +kernel
theorem dX2_digestOn_79 : decode cX2_digestOn 79 = .ok (.iload 6, 2) := by decide +kernel
theorem dX2_digestOn_81 : decode cX2_digestOn 81 = .ok (.iadd, 1) := by decide +kernel
theorem dX2_digestOn_82 : decode cX2_digestOn 82 = .ok (.iaload, 1) := by decide +kernel
theorem dX2_digestOn_83 : decode cX2_digestOn 83 = .ok (.i2l, 1) := by decide +kernel
theorem dX2_digestOn_84 : decode cX2_digestOn 84 = .ok (.ladd, 1) := by decide +kernel
theorem dX2_digestOn_85 : decode cX2_digestOn 85 = .ok (.lstore_n 3, 1) := by decide +kernel
theorem dX2_digestOn_86 : decode cX2_digestOn 86 = .ok (.iinc 6 1, 3) := by decide +kernel
theorem dX2_digestOn_89 : decode cX2_digestOn 89 = .ok (.goto (-57), 3) := by decide +kernel
theorem dX2_digestOn_92 : decode cX2_digestOn 92 = .ok (.iinc 5 1, 3) := by decide +kernel
theorem dX2_digestOn_95 : decode cX2_digestOn 95 = .ok (.goto (-90), 3) := by decide +kernel
theorem dX2_digestOn_98 : decode cX2_digestOn 98 = .ok (.iconst 0, 1) := by decide +kernel
theorem dX2_digestOn_99 : decode cX2_digestOn 99 = .ok (.istore 5, 2) := by decide +kernel
theorem dX2_digestOn_101 : decode cX2_digestOn 101 = .ok (.iload 5, 2) := by decide +kernel
theorem dX2_digestOn_103 : decode cX2_digestOn 103 = .ok (.bipush 10, 2) := by decide +kernel
theorem dX2_digestOn_105 : decode cX2_digestOn 105 = .ok (.if_icmp .ge 24, 3) := by decide +kernel
theorem dX2_digestOn_108 : decode cX2_digestOn 108 = .ok (.ldc2_w 48, 3) := by decide +kernel
theorem dX2_digestOn_111 : decode cX2_digestOn 111 = .ok (.lload_n 3, 1) := by decide +kernel
theorem dX2_digestOn_112 : decode cX2_digestOn 112 = .ok (.lmul, 1) := by decide +kernel
theorem dX2_digestOn_113 : decode cX2_digestOn 113 = .ok (.aload_n 0, 1) := by decide +kernel
theorem dX2_digestOn_114 : decode cX2_digestOn 114 = .ok (.getfield 21, 3) := by decide +kernel
theorem dX2_digestOn_117 : decode cX2_digestOn 117 = .ok (.iload 5, 2) := by decide +kernel
theorem dX2_digestOn_119 : decode cX2_digestOn 119 = .ok (.iaload, 1) := by decide +kernel
theorem dX2_digestOn_120 : decode cX2_digestOn 120 = .ok (.i2l, 1) := by decide +kernel
theorem dX2_digestOn_121 : decode cX2_digestOn 121 = .ok (.ladd, 1) := by decide +kernel
theorem dX2_digestOn_122 : decode cX2_digestOn 122 = .ok (.lstore_n 3, 1) := by decide +kernel
theorem dX2_digestOn_123 : decode cX2_digestOn 123 = .ok (.iinc 5 1, 3) := by decide +kernel
theorem dX2_digestOn_126 : decode cX2_digestOn 126 = .ok (.goto (-25), 3) := by decide +kernel
theorem dX2_digestOn_129 : decode cX2_digestOn 129 = .ok (.lload_n 3, 1) := by decide +kernel
theorem dX2_digestOn_130 : decode cX2_digestOn 130 = .ok (.lreturn, 1) := by decide +kernel
theorem dX3_init_0 : decode cX3_init 0 = .ok (.aload_n 0, 1) := by decide +kernel
theorem dX3_init_1 : decode cX3_init 1 = .ok (.invokespecial 3, 3) := by decide +kernel
theorem dX3_init_4 : decode cX3_init 4 = .ok (.aload_n 0, 1) := by decide +kernel
theorem dX3_init_5 : decode cX3_init 5 = .ok (.bipush 60, 2) := by decide +kernel
theorem dX3_init_7 : decode cX3_init 7 = .ok (.newarray .int, 2) := by decide +kernel
theorem dX3_init_9 : decode cX3_init 9 = .ok (.putfield 9, 3) := by decide +kernel
theorem dX3_init_12 : decode cX3_init 12 = .ok (.aload_n 0, 1) := by decide +kernel
theorem dX3_init_13 : decode cX3_init 13 = .ok (.bipush 60, 2) := by decide +kernel
theorem dX3_init_15 : decode cX3_init 15 = .ok (.newarray .int, 2) := by decide +kernel
theorem dX3_init_17 : decode cX3_init 17 = .ok (.putfield 15, 3) := by decide +kernel
theorem dX3_init_20 : decode cX3_init 20 = .ok (.aload_n 0, 1) := by decide +kernel
theorem dX3_init_21 : decode cX3_init 21 = .ok (.bipush 60, 2) := by decide +kernel
theorem dX3_init_23 : decode cX3_init 23 = .ok (.newarray .int, 2) := by decide +kernel
theorem dX3_init_25 : decode cX3_init 25 = .ok (.putfield 18, 3) := by decide +kernel
theorem dX3_init_28 : decode cX3_init 28 = .ok (.aload_n 0, 1) := by decide +kernel
theorem dX3_init_29 : decode cX3_init 29 = .ok (.bipush 8, 2) := by decide +kernel
theorem dX3_init_31 : decode cX3_init 31 = .ok (.newarray .int, 2) := by decide +kernel
theorem dX3_init_33 : decode cX3_init 33 = .ok (.putfield 21, 3) := by decide +kernel
theorem dX3_init_36 : decode cX3_init 36 = .ok (.aload_n 0, 1) := by decide +kernel
theorem dX3_init_37 : decode cX3_init 37 = .ok (.bipush 8, 2) := by decide +kernel
theorem dX3_init_39 : decode cX3_init 39 = .ok (.newarray .int, 2) := by decide +kernel
theorem dX3_init_41 : decode cX3_init 41 = .ok (.putfield 24, 3) := by decide +kernel
theorem dX3_init_44 : decode cX3_init 44 = .ok (.aload_n 0, 1) := by decide +kernel
theorem dX3_init_45 : decode cX3_init 45 = .ok (.bipush 24, 2) := by decide +kernel
theorem dX3_init_47 : decode cX3_init 47 = .ok (.newarray .int, 2) := by decide +kernel
theorem dX3_init_49 : decode cX3_init 49 = .ok (.putfield 27, 3) := by decide +kernel
theorem dX3_init_52 : decode cX3_init 52 = .ok (.return_, 1) := by decide +kernel
theorem dX3_prefers_0 : decode cX3_prefers 0 = .ok (.iload_n 1, 1) := by decide +kernel
theorem dX3_prefers_1 : decode cX3_prefers 1 = .ok (.iload_n 2, 1) := by decide +kernel
theorem dX3_prefers_2 : decode cX3_prefers 2 = .ok (.if_icmp .le 7, 3) := by decide +kernel
theorem dX3_prefers_5 : decode cX3_prefers 5 = .ok (.iconst 1, 1) := by decide +kernel
theorem dX3_prefers_6 : decode cX3_prefers 6 = .ok (.goto 4, 3) := by decide +kernel
theorem dX3_prefers_9 : decode cX3_prefers 9 = .ok (.iconst 0, 1) := by decide +kernel
theorem dX3_prefers_10 : decode cX3_prefers 10 = .ok (.ireturn, 1) := by decide +kernel
theorem dX3_sees_0 : decode cX3_sees 0 = .ok (.iload_n 1, 1) := by decide +kernel
theorem dX3_sees_1 : decode cX3_sees 1 = .ok (.ireturn, 1) := by decide +kernel
theorem dX3_learn_0 : decode cX3_learn 0 = .ok (.aload_n 0, 1) := by decide +kernel
theorem dX3_learn_1 : decode cX3_learn 1 = .ok (.aload_n 1, 1) := by decide +kernel
theorem dX3_learn_2 : decode cX3_learn 2 = .ok (.getfield 30, 3) := by decide +kernel
theorem dX3_learn_5 : decode cX3_learn 5 = .ok (.iload_n 2, 1) := by decide +kernel
theorem dX3_learn_6 : decode cX3_learn 6 = .ok (.iaload, 1) := by decide +kernel
theorem dX3_learn_7 : decode cX3_learn 7 = .ok (.putfield 35, 3) := by decide +kernel
theorem dX3_learn_10 : decode cX3_learn 10 = .ok (.iconst 0, 1) := by decide +kernel
theorem dX3_learn_11 : decode cX3_learn 11 = .ok (.istore_n 3, 1) := by decide +kernel
theorem dX3_learn_12 : decode cX3_learn 12 = .ok (.iload_n 3, 1) := by decide +kernel
theorem dX3_learn_13 : decode cX3_learn 13 = .ok (.aload_n 0, 1) := by decide +kernel
theorem dX3_learn_14 : decode cX3_learn 14 = .ok (.getfield 35, 3) := by decide +kernel
theorem dX3_learn_17 : decode cX3_learn 17 = .ok (.if_icmp .ge 69, 3) := by decide +kernel
theorem dX3_learn_20 : decode cX3_learn 20 = .ok (.iload_n 2, 1) := by decide +kernel
theorem dX3_learn_21 : decode cX3_learn 21 = .ok (.bipush 8, 2) := by decide +kernel
theorem dX3_learn_23 : decode cX3_learn 23 = .ok (.imul, 1) := by decide +kernel
theorem dX3_learn_24 : decode cX3_learn 24 = .ok (.iload_n 3, 1) := by decide +kernel
theorem dX3_learn_25 : decode cX3_learn 25 = .ok (.iadd, 1) := by decide +kernel
theorem dX3_learn_26 : decode cX3_learn 26 = .ok (.istore 4, 2) := by decide +kernel
theorem dX3_learn_28 : decode cX3_learn 28 = .ok (.aload_n 0, 1) := by decide +kernel
theorem dX3_learn_29 : decode cX3_learn 29 = .ok (.getfield 21, 3) := by decide +kernel
theorem dX3_learn_32 : decode cX3_learn 32 = .ok (.iload_n 3, 1) := by decide +kernel
theorem dX3_learn_33 : decode cX3_learn 33 = .ok (.aload_n 1, 1) := by decide +kernel
theorem dX3_learn_34 : decode cX3_learn 34 = .ok (.getfield 38, 3) := by decide +kernel
theorem dX3_learn_37 : decode cX3_learn 37 = .ok (.iload 4, 2) := by decide +kernel
theorem dX3_learn_39 : decode cX3_learn 39 = .ok (.iaload, 1) := by decide +kernel
theorem dX3_learn_40 : decode cX3_learn 40 = .ok (.iastore, 1) := by decide +kernel
theorem dX3_learn_41 : decode cX3_learn 41 = .ok (.aload_n 0, 1) := by decide +kernel
theorem dX3_learn_42 : decode cX3_learn 42 = .ok (.getfield 24, 3) := by decide +kernel
theorem dX3_learn_45 : decode cX3_learn 45 = .ok (.iload_n 3, 1) := by decide +kernel
theorem dX3_learn_46 : decode cX3_learn 46 = .ok (.aload_n 1, 1) := by decide +kernel
theorem dX3_learn_47 : decode cX3_learn 47 = .ok (.getfield 39, 3) := by decide +kernel
theorem dX3_learn_50 : decode cX3_learn 50 = .ok (.iload 4, 2) := by decide +kernel
theorem dX3_learn_52 : decode cX3_learn 52 = .ok (.iaload, 1) := by decide +kernel
theorem dX3_learn_53 : decode cX3_learn 53 = .ok (.invokestatic 42, 3) := by decide +kernel
theorem dX3_learn_56 : decode cX3_learn 56 = .ok (.iastore, 1) := by decide +kernel
theorem dX3_learn_57 : decode cX3_learn 57 = .ok (.aload_n 1, 1) := by decide +kernel
theorem dX3_learn_58 : decode cX3_learn 58 = .ok (.getfield 39, 3) := by decide +kernel
theorem dX3_learn_61 : decode cX3_learn 61 = .ok (.iload 4, 2) := by decide +kernel
theorem dX3_learn_63 : decode cX3_learn 63 = .ok (.iaload, 1) := by decide +kernel
theorem dX3_learn_64 : decode cX3_learn 64 = .ok (.aload_n 0, 1) := by decide +kernel
theorem dX3_learn_65 : decode cX3_learn 65 = .ok (.getfield 24, 3) := by decide +kernel
theorem dX3_learn_68 : decode cX3_learn 68 = .ok (.iload_n 3, 1) := by decide +kernel
theorem dX3_learn_69 : decode cX3_learn 69 = .ok (.iaload, 1) := by decide +kernel
theorem dX3_learn_70 : decode cX3_learn 70 = .ok (.aload_n 0, 1) := by decide +kernel
theorem dX3_learn_71 : decode cX3_learn 71 = .ok (.getfield 27, 3) := by decide +kernel
theorem dX3_learn_74 : decode cX3_learn 74 = .ok (.iload_n 3, 1) := by decide +kernel
theorem dX3_learn_75 : decode cX3_learn 75 = .ok (.iconst 3, 1) := by decide +kernel
theorem dX3_learn_76 : decode cX3_learn 76 = .ok (.imul, 1) := by decide +kernel
theorem dX3_learn_77 : decode cX3_learn 77 = .ok (.invokestatic 48, 3) := by decide +kernel
theorem dX3_learn_80 : decode cX3_learn 80 = .ok (.iinc 3 1, 3) := by decide +kernel
theorem dX3_learn_83 : decode cX3_learn 83 = .ok (.goto (-71), 3) := by decide +kernel
theorem dX3_learn_86 : decode cX3_learn 86 = .ok (.return_, 1) := by decide +kernel
theorem dX3_listen_0 : decode cX3_listen 0 = .ok (.iload_n 2, 1) := by decide +kernel
theorem dX3_listen_1 : decode cX3_listen 1 = .ok (.aload_n 1, 1) := by decide +kernel
theorem dX3_listen_2 : decode cX3_listen 2 = .ok (.arraylength, 1) := by decide +kernel
theorem dX3_listen_3 : decode cX3_listen 3 = .ok (.aload_n 0, 1) := by decide +kernel
theorem dX3_listen_4 : decode cX3_listen 4 = .ok (.getfield 18, 3) := by decide +kernel
theorem dX3_listen_7 : decode cX3_listen 7 = .ok (.arraylength, 1) := by decide +kernel
theorem dX3_listen_8 : decode cX3_listen 8 = .ok (.invokestatic 52, 3) := by decide +kernel
theorem dX3_listen_11 : decode cX3_listen 11 = .ok (.invokestatic 52, 3) := by decide +kernel
theorem dX3_listen_14 : decode cX3_listen 14 = .ok (.istore_n 3, 1) := by decide +kernel
theorem dX3_listen_15 : decode cX3_listen 15 = .ok (.iconst 0, 1) := by decide +kernel
theorem dX3_listen_16 : decode cX3_listen 16 = .ok (.istore 4, 2) := by decide +kernel
theorem dX3_listen_18 : decode cX3_listen 18 = .ok (.iload 4, 2) := by decide +kernel
theorem dX3_listen_20 : decode cX3_listen 20 = .ok (.iload_n 3, 1) := by decide +kernel
theorem dX3_listen_21 : decode cX3_listen 21 = .ok (.if_icmp .ge 26, 3) := by decide +kernel
theorem dX3_listen_24 : decode cX3_listen 24 = .ok (.aload_n 0, 1) := by decide +kernel
theorem dX3_listen_25 : decode cX3_listen 25 = .ok (.getfield 18, 3) := by decide +kernel
theorem dX3_listen_28 : decode cX3_listen 28 = .ok (.iload 4, 2) := by decide +kernel
theorem dX3_listen_30 : decode cX3_listen 30 = .ok (.aload_n 0, 1) := by decide +kernel
theorem dX3_listen_31 : decode cX3_listen 31 = .ok (.aload_n 1, 1) := by decide +kernel
theorem dX3_listen_32 : decode cX3_listen 32 = .ok (.iload 4, 2) := by decide +kernel
theorem dX3_listen_34 : decode cX3_listen 34 = .ok (.iaload, 1) := by decide +kernel
theorem dX3_listen_35 : decode cX3_listen 35 = .ok (.iload 4, 2) := by decide +kernel
theorem dX3_listen_37 : decode cX3_listen 37 = .ok (.invokevirtual 58, 3) := by decide +kernel
theorem dX3_listen_40 : decode cX3_listen 40 = .ok (.iastore, 1) := by decide +kernel
theorem dX3_listen_41 : decode cX3_listen 41 = .ok (.iinc 4 1, 3) := by decide +kernel
theorem dX3_listen_44 : decode cX3_listen 44 = .ok (.goto (-26), 3) := by decide +kernel
theorem dX3_listen_47 : decode cX3_listen 47 = .ok (.aload_n 0, 1) := by decide +kernel
theorem dX3_listen_48 : decode cX3_listen 48 = .ok (.iconst (-1), 1) := by decide +kernel
theorem dX3_listen_49 : decode cX3_listen 49 = .ok (.putfield 61, 3) := by decide +kernel
theorem dX3_listen_52 : decode cX3_listen 52 = .ok (.aload_n 0, 1) := by decide +kernel
theorem dX3_listen_53 : decode cX3_listen 53 = .ok (.iconst 0, 1) := by decide +kernel
theorem dX3_listen_54 : decode cX3_listen 54 = .ok (.putfield 64, 3) := by decide +kernel
theorem dX3_listen_57 : decode cX3_listen 57 = .ok (.iconst 0, 1) := by decide +kernel
theorem dX3_listen_58 : decode cX3_listen 58 = .ok (.istore 4, 2) := by decide +kernel
theorem dX3_listen_60 : decode cX3_listen 60 = .ok (.iconst 0, 1) := by decide +kernel
theorem dX3_listen_61 : decode cX3_listen 61 = .ok (.istore 5, 2) := by decide +kernel
theorem dX3_listen_63 : decode cX3_listen 63 = .ok (.iload 5, 2) := by decide +kernel
theorem dX3_listen_65 : decode cX3_listen 65 = .ok (.iload_n 3, 1) := by decide +kernel
theorem dX3_listen_66 : decode cX3_listen 66 = .ok (.if_icmp .ge 86, 3) := by decide +kernel
theorem dX3_listen_69 : decode cX3_listen 69 = .ok (.iload 5, 2) := by decide +kernel
theorem dX3_listen_71 : decode cX3_listen 71 = .ok (.iload 4, 2) := by decide +kernel
theorem dX3_listen_73 : decode cX3_listen 73 = .ok (.if_icmp .ge 7, 3) := by decide +kernel
theorem dX3_listen_76 : decode cX3_listen 76 = .ok (.iconst (-1), 1) := by decide +kernel
theorem dX3_listen_77 : decode cX3_listen 77 = .ok (.goto 10, 3) := by decide +kernel
theorem dX3_listen_80 : decode cX3_listen 80 = .ok (.aload_n 0, 1) := by decide +kernel
theorem dX3_listen_81 : decode cX3_listen 81 = .ok (.iload 5, 2) := by decide +kernel
theorem dX3_listen_83 : decode cX3_listen 83 = .ok (.iload_n 3, 1) := by decide +kernel
theorem dX3_listen_84 : decode cX3_listen 84 = .ok (.invokevirtual 67, 3) := by decide +kernel
theorem dX3_listen_87 : decode cX3_listen 87 = .ok (.istore 6, 2) := by decide +kernel
theorem dX3_listen_89 : decode cX3_listen 89 = .ok (.iload 6, 2) := by decide +kernel
theorem dX3_listen_91 : decode cX3_listen 91 = .ok (.iconst (-1), 1) := by decide +kernel
theorem dX3_listen_92 : decode cX3_listen 92 = .ok (.if_icmp .eq 54, 3) := by decide +kernel
theorem dX3_listen_95 : decode cX3_listen 95 = .ok (.aload_n 0, 1) := by decide +kernel
theorem dX3_listen_96 : decode cX3_listen 96 = .ok (.getfield 9, 3) := by decide +kernel
theorem dX3_listen_99 : decode cX3_listen 99 = .ok (.aload_n 0, 1) := by decide +kernel
theorem dX3_listen_100 : decode cX3_listen 100 = .ok (.getfield 64, 3) := by decide +kernel
theorem dX3_listen_103 : decode cX3_listen 103 = .ok (.aload_n 0, 1) := by decide +kernel
theorem dX3_listen_104 : decode cX3_listen 104 = .ok (.getfield 21, 3) := by decide +kernel
theorem dX3_listen_107 : decode cX3_listen 107 = .ok (.iload 6, 2) := by decide +kernel
theorem dX3_listen_109 : decode cX3_listen 109 = .ok (.iaload, 1) := by decide +kernel
theorem dX3_listen_110 : decode cX3_listen 110 = .ok (.iastore, 1) := by decide +kernel
theorem dX3_listen_111 : decode cX3_listen 111 = .ok (.aload_n 0, 1) := by decide +kernel
theorem dX3_listen_112 : decode cX3_listen 112 = .ok (.getfield 15, 3) := by decide +kernel
theorem dX3_listen_115 : decode cX3_listen 115 = .ok (.aload_n 0, 1) := by decide +kernel
theorem dX3_listen_116 : decode cX3_listen 116 = .ok (.getfield 64, 3) := by decide +kernel
theorem dX3_listen_119 : decode cX3_listen 119 = .ok (.aload_n 0, 1) := by decide +kernel
theorem dX3_listen_120 : decode cX3_listen 120 = .ok (.getfield 61, 3) := by decide +kernel
theorem dX3_listen_123 : decode cX3_listen 123 = .ok (.iastore, 1) := by decide +kernel
theorem dX3_listen_124 : decode cX3_listen 124 = .ok (.aload_n 0, 1) := by decide +kernel
theorem dX3_listen_125 : decode cX3_listen 125 = .ok (.dup, 1) := by decide +kernel
theorem dX3_listen_126 : decode cX3_listen 126 = .ok (.getfield 64, 3) := by decide +kernel
theorem dX3_listen_129 : decode cX3_listen 129 = .ok (.iconst 1, 1) := by decide +kernel
theorem dX3_listen_130 : decode cX3_listen 130 = .ok (.iadd, 1) := by decide +kernel
theorem dX3_listen_131 : decode cX3_listen 131 = .ok (.putfield 64, 3) := by decide +kernel
theorem dX3_listen_134 : decode cX3_listen 134 = .ok (.iload 5, 2) := by decide +kernel
theorem dX3_listen_136 : decode cX3_listen 136 = .ok (.aload_n 0, 1) := by decide +kernel
theorem dX3_listen_137 : decode cX3_listen 137 = .ok (.getfield 24, 3) := by decide +kernel
theorem dX3_listen_140 : decode cX3_listen 140 = .ok (.iload 6, 2) := by decide +kernel
theorem dX3_listen_142 : decode cX3_listen 142 = .ok (.iaload, 1) := by decide +kernel
theorem dX3_listen_143 : decode cX3_listen 143 = .ok (.iadd, 1) := by decide +kernel
theorem dX3_listen_144 : decode cX3_listen 144 = .ok (.istore 4, 2) := by decide +kernel
theorem dX3_listen_146 : decode cX3_listen 146 = .ok (.iinc 5 1, 3) := by decide +kernel
theorem dX3_listen_149 : decode cX3_listen 149 = .ok (.goto (-86), 3) := by decide +kernel
theorem dX3_listen_152 : decode cX3_listen 152 = .ok (.return_, 1) := by decide +kernel
theorem dX3_timesOf_0 : decode cX3_timesOf 0 = .ok (.iconst 0, 1) := by decide +kernel
theorem dX3_timesOf_1 : decode cX3_timesOf 1 = .ok (.istore_n 2, 1) := by decide +kernel
theorem dX3_timesOf_2 : decode cX3_timesOf 2 = .ok (.iconst 0, 1) := by decide +kernel
theorem dX3_timesOf_3 : decode cX3_timesOf 3 = .ok (.istore_n 3, 1) := by decide +kernel
theorem dX3_timesOf_4 : decode cX3_timesOf 4 = .ok (.iload_n 3, 1) := by decide +kernel
theorem dX3_timesOf_5 : decode cX3_timesOf 5 = .ok (.aload_n 0, 1) := by decide +kernel
theorem dX3_timesOf_6 : decode cX3_timesOf 6 = .ok (.getfield 64, 3) := by decide +kernel
theorem dX3_timesOf_9 : decode cX3_timesOf 9 = .ok (.if_icmp .ge 22, 3) := by decide +kernel
theorem dX3_timesOf_12 : decode cX3_timesOf 12 = .ok (.aload_n 0, 1) := by decide +kernel
theorem dX3_timesOf_13 : decode cX3_timesOf 13 = .ok (.getfield 9, 3) := by decide +kernel
theorem dX3_timesOf_16 : decode cX3_timesOf 16 = .ok (.iload_n 3, 1) := by decide +kernel
theorem dX3_timesOf_17 : decode cX3_timesOf 17 = .ok (.iaload, 1) := by decide +kernel
theorem dX3_timesOf_18 : decode cX3_timesOf 18 = .ok (.iload_n 1, 1) := by decide +kernel
theorem dX3_timesOf_19 : decode cX3_timesOf 19 = .ok (.if_icmp .ne 6, 3) := by decide +kernel
theorem dX3_timesOf_22 : decode cX3_timesOf 22 = .ok (.iinc 2 1, 3) := by decide +kernel
theorem dX3_timesOf_25 : decode cX3_timesOf 25 = .ok (.iinc 3 1, 3) := by decide +kernel
theorem dX3_timesOf_28 : decode cX3_timesOf 28 = .ok (.goto (-24), 3) := by decide +kernel
theorem dX3_timesOf_31 : decode cX3_timesOf 31 = .ok (.iload_n 2, 1) := by decide +kernel
theorem dX3_timesOf_32 : decode cX3_timesOf 32 = .ok (.ireturn, 1) := by decide +kernel
theorem dX3_choice_0 : decode cX3_choice 0 = .ok (.iconst (-1), 1) := by decide +kernel
theorem dX3_choice_1 : decode cX3_choice 1 = .ok (.istore_n 3, 1) := by decide +kernel
theorem dX3_choice_2 : decode cX3_choice 2 = .ok (.iconst 0, 1) := by decide +kernel
theorem dX3_choice_3 : decode cX3_choice 3 = .ok (.istore 4, 2) := by decide +kernel
theorem dX3_choice_5 : decode cX3_choice 5 = .ok (.iload 4, 2) := by decide +kernel
theorem dX3_choice_7 : decode cX3_choice 7 = .ok (.aload_n 0, 1) := by decide +kernel
theorem dX3_choice_8 : decode cX3_choice 8 = .ok (.getfield 35, 3) := by decide +kernel
theorem dX3_choice_11 : decode cX3_choice 11 = .ok (.if_icmp .ge 60, 3) := by decide +kernel
theorem dX3_choice_14 : decode cX3_choice 14 = .ok (.iload_n 1, 1) := by decide +kernel
theorem dX3_choice_15 : decode cX3_choice 15 = .ok (.aload_n 0, 1) := by decide +kernel
theorem dX3_choice_16 : decode cX3_choice 16 = .ok (.getfield 24, 3) := by decide +kernel
theorem dX3_choice_19 : decode cX3_choice 19 = .ok (.iload 4, 2) := by decide +kernel
theorem dX3_choice_21 : decode cX3_choice 21 = .ok (.iaload, 1) := by decide +kernel
theorem dX3_choice_22 : decode cX3_choice 22 = .ok (.iadd, 1) := by decide +kernel
theorem dX3_choice_23 : decode cX3_choice 23 = .ok (.iload_n 2, 1) := by decide +kernel
theorem dX3_choice_24 : decode cX3_choice 24 = .ok (.if_icmp .gt 41, 3) := by decide +kernel
theorem dX3_choice_27 : decode cX3_choice 27 = .ok (.aload_n 0, 1) := by decide +kernel
theorem dX3_choice_28 : decode cX3_choice 28 = .ok (.iload 4, 2) := by decide +kernel
theorem dX3_choice_30 : decode cX3_choice 30 = .ok (.iload_n 1, 1) := by decide +kernel
theorem dX3_choice_31 : decode cX3_choice 31 = .ok (.invokevirtual 70, 3) := by decide +kernel
theorem dX3_choice_34 : decode cX3_choice 34 = .ok (.ifCond .eq 31, 3) := by decide +kernel
theorem dX3_choice_37 : decode cX3_choice 37 = .ok (.iload_n 3, 1) := by decide +kernel
theorem dX3_choice_38 : decode cX3_choice 38 = .ok (.iconst (-1), 1) := by decide +kernel
theorem dX3_choice_39 : decode cX3_choice 39 = .ok (.if_icmp .eq 23, 3) := by decide +kernel
theorem dX3_choice_42 : decode cX3_choice 42 = .ok (.aload_n 0, 1) := by decide +kernel
theorem dX3_choice_43 : decode cX3_choice 43 = .ok (.aload_n 0, 1) := by decide +kernel
theorem dX3_choice_44 : decode cX3_choice 44 = .ok (.getfield 24, 3) := by decide +kernel
theorem dX3_choice_47 : decode cX3_choice 47 = .ok (.iload 4, 2) := by decide +kernel
theorem dX3_choice_49 : decode cX3_choice 49 = .ok (.iaload, 1) := by decide +kernel
theorem dX3_choice_50 : decode cX3_choice 50 = .ok (.aload_n 0, 1) := by decide +kernel
theorem dX3_choice_51 : decode cX3_choice 51 = .ok (.getfield 24, 3) := by decide +kernel
theorem dX3_choice_54 : decode cX3_choice 54 = .ok (.iload_n 3, 1) := by decide +kernel
theorem dX3_choice_55 : decode cX3_choice 55 = .ok (.iaload, 1) := by decide +kernel
theorem dX3_choice_56 : decode cX3_choice 56 = .ok (.invokevirtual 74, 3) := by decide +kernel
theorem dX3_choice_59 : decode cX3_choice 59 = .ok (.ifCond .eq 6, 3) := by decide +kernel
theorem dX3_choice_62 : decode cX3_choice 62 = .ok (.iload 4, 2) := by decide +kernel
theorem dX3_choice_64 : decode cX3_choice 64 = .ok (.istore_n 3, 1) := by decide +kernel
theorem dX3_choice_65 : decode cX3_choice 65 = .ok (.iinc 4 1, 3) := by decide +kernel
theorem dX3_choice_68 : decode cX3_choice 68 = .ok (.goto (-63), 3) := by decide +kernel
theorem dX3_choice_71 : decode cX3_choice 71 = .ok (.iload_n 3, 1) := by decide +kernel
theorem dX3_choice_72 : decode cX3_choice 72 = .ok (.ireturn, 1) := by decide +kernel
theorem dX3_shows_0 : decode cX3_shows 0 = .ok (.iconst 0, 1) := by decide +kernel
theorem dX3_shows_1 : decode cX3_shows 1 = .ok (.istore_n 3, 1) := by decide +kernel
theorem dX3_shows_2 : decode cX3_shows 2 = .ok (.iload_n 3, 1) := by decide +kernel
theorem dX3_shows_3 : decode cX3_shows 3 = .ok (.aload_n 0, 1) := by decide +kernel
theorem dX3_shows_4 : decode cX3_shows 4 = .ok (.getfield 24, 3) := by decide +kernel
theorem dX3_shows_7 : decode cX3_shows 7 = .ok (.iload_n 1, 1) := by decide +kernel
theorem dX3_shows_8 : decode cX3_shows 8 = .ok (.iaload, 1) := by decide +kernel
theorem dX3_shows_9 : decode cX3_shows 9 = .ok (.if_icmp .ge 46, 3) := by decide +kernel
theorem dX3_shows_12 : decode cX3_shows 12 = .ok (.aload_n 0, 1) := by decide +kernel
theorem dX3_shows_13 : decode cX3_shows 13 = .ok (.aload_n 0, 1) := by decide +kernel
theorem dX3_shows_14 : decode cX3_shows 14 = .ok (.getfield 61, 3) := by decide +kernel
theorem dX3_shows_17 : decode cX3_shows 17 = .ok (.iload_n 2, 1) := by decide +kernel
theorem dX3_shows_18 : decode cX3_shows 18 = .ok (.iload_n 3, 1) := by decide +kernel
theorem dX3_shows_19 : decode cX3_shows 19 = .ok (.iadd, 1) := by decide +kernel
theorem dX3_shows_20 : decode cX3_shows 20 = .ok (.invokestatic 77, 3) := by decide +kernel
theorem dX3_shows_23 : decode cX3_shows 23 = .ok (.putfield 61, 3) := by decide +kernel
theorem dX3_shows_26 : decode cX3_shows 26 = .ok (.aload_n 0, 1) := by decide +kernel
theorem dX3_shows_27 : decode cX3_shows 27 = .ok (.getfield 18, 3) := by decide +kernel
theorem dX3_shows_30 : decode cX3_shows 30 = .ok (.iload_n 2, 1) := by decide +kernel
theorem dX3_shows_31 : decode cX3_shows 31 = .ok (.iload_n 3, 1) := by decide +kernel
theorem dX3_shows_32 : decode cX3_shows 32 = .ok (.iadd, 1) := by decide +kernel
theorem dX3_shows_33 : decode cX3_shows 33 = .ok (.iaload, 1) := by decide +kernel
theorem dX3_shows_34 : decode cX3_shows 34 = .ok (.aload_n 0, 1) := by decide +kernel
theorem dX3_shows_35 : decode cX3_shows 35 = .ok (.getfield 27, 3) := by decide +kernel
theorem dX3_shows_38 : decode cX3_shows 38 = .ok (.iload_n 1, 1) := by decide +kernel
theorem dX3_shows_39 : decode cX3_shows 39 = .ok (.iconst 3, 1) := by decide +kernel
theorem dX3_shows_40 : decode cX3_shows 40 = .ok (.imul, 1) := by decide +kernel
theorem dX3_shows_41 : decode cX3_shows 41 = .ok (.iload_n 3, 1) := by decide +kernel
theorem dX3_shows_42 : decode cX3_shows 42 = .ok (.iadd, 1) := by decide +kernel
theorem dX3_shows_43 : decode cX3_shows 43 = .ok (.iaload, 1) := by decide +kernel
theorem dX3_shows_44 : decode cX3_shows 44 = .ok (.if_icmp .eq 5, 3) := by decide +kernel
theorem dX3_shows_47 : decode cX3_shows 47 = .ok (.iconst 0, 1) := by decide +kernel
theorem dX3_shows_48 : decode cX3_shows 48 = .ok (.ireturn, 1) := by decide +kernel
theorem dX3_shows_49 : decode cX3_shows 49 = .ok (.iinc 3 1, 3) := by decide +kernel
theorem dX3_shows_52 : decode cX3_shows 52 = .ok (.goto (-50), 3) := by decide +kernel
theorem dX3_shows_55 : decode cX3_shows 55 = .ok (.iconst 1, 1) := by decide +kernel
theorem dX3_shows_56 : decode cX3_shows 56 = .ok (.ireturn, 1) := by decide +kernel
theorem dX4_init_0 : decode cX4_init 0 = .ok (.aload_n 0, 1) := by decide +kernel
theorem dX4_init_1 : decode cX4_init 1 = .ok (.invokespecial 1, 3) := by decide +kernel
theorem dX4_init_4 : decode cX4_init 4 = .ok (.return_, 1) := by decide +kernel
theorem dX4_prefers_0 : decode cX4_prefers 0 = .ok (.iload_n 1, 1) := by decide +kernel
theorem dX4_prefers_1 : decode cX4_prefers 1 = .ok (.iload_n 2, 1) := by decide +kernel
theorem dX4_prefers_2 : decode cX4_prefers 2 = .ok (.if_icmp .ge 7, 3) := by decide +kernel
theorem dX4_prefers_5 : decode cX4_prefers 5 = .ok (.iconst 1, 1) := by decide +kernel
theorem dX4_prefers_6 : decode cX4_prefers 6 = .ok (.goto 4, 3) := by decide +kernel
theorem dX4_prefers_9 : decode cX4_prefers 9 = .ok (.iconst 0, 1) := by decide +kernel
theorem dX4_prefers_10 : decode cX4_prefers 10 = .ok (.ireturn, 1) := by decide +kernel
theorem dX5_init_0 : decode cX5_init 0 = .ok (.aload_n 0, 1) := by decide +kernel
theorem dX5_init_1 : decode cX5_init 1 = .ok (.invokespecial 1, 3) := by decide +kernel
theorem dX5_init_4 : decode cX5_init 4 = .ok (.return_, 1) := by decide +kernel
theorem dX5_sees_0 : decode cX5_sees 0 = .ok (.aload_n 0, 1) := by decide +kernel
theorem dX5_sees_1 : decode cX5_sees 1 = .ok (.iload_n 1, 1) := by decide +kernel
theorem dX5_sees_2 : decode cX5_sees 2 = .ok (.iload_n 2, 1) := by decide +kernel
theorem dX5_sees_3 : decode cX5_sees 3 = .ok (.invokespecial 7, 3) := by decide +kernel
theorem dX5_sees_6 : decode cX5_sees 6 = .ok (.iconst 1, 1) := by decide +kernel
theorem dX5_sees_7 : decode cX5_sees 7 = .ok (.ixor, 1) := by decide +kernel
theorem dX5_sees_8 : decode cX5_sees 8 = .ok (.ireturn, 1) := by decide +kernel
theorem dX6_init_0 : decode cX6_init 0 = .ok (.aload_n 0, 1) := by decide +kernel
theorem dX6_init_1 : decode cX6_init 1 = .ok (.invokespecial 3, 3) := by decide +kernel
theorem dX6_init_4 : decode cX6_init 4 = .ok (.aload_n 0, 1) := by decide +kernel
theorem dX6_init_5 : decode cX6_init 5 = .ok (.bipush 6, 2) := by decide +kernel
theorem dX6_init_7 : decode cX6_init 7 = .ok (.anewarray 9, 3) := by decide +kernel
theorem dX6_init_10 : decode cX6_init 10 = .ok (.dup, 1) := by decide +kernel
theorem dX6_init_11 : decode cX6_init 11 = .ok (.iconst 0, 1) := by decide +kernel
theorem dX6_init_12 : decode cX6_init 12 = .ok (.new 9, 3) := by decide +kernel
theorem dX6_init_15 : decode cX6_init 15 = .ok (.dup, 1) := by decide +kernel
theorem dX6_init_16 : decode cX6_init 16 = .ok (.invokespecial 11, 3) := by decide +kernel
theorem dX6_init_19 : decode cX6_init 19 = .ok (.aastore, 1) := by decide +kernel
theorem dX6_init_20 : decode cX6_init 20 = .ok (.dup, 1) := by decide +kernel
theorem dX6_init_21 : decode cX6_init 21 = .ok (.iconst 1, 1) := by decide +kernel
theorem dX6_init_22 : decode cX6_init 22 = .ok (.new 9, 3) := by decide +kernel
theorem dX6_init_25 : decode cX6_init 25 = .ok (.dup, 1) := by decide +kernel
theorem dX6_init_26 : decode cX6_init 26 = .ok (.invokespecial 11, 3) := by decide +kernel
theorem dX6_init_29 : decode cX6_init 29 = .ok (.aastore, 1) := by decide +kernel
theorem dX6_init_30 : decode cX6_init 30 = .ok (.dup, 1) := by decide +kernel
theorem dX6_init_31 : decode cX6_init 31 = .ok (.iconst 2, 1) := by decide +kernel
theorem dX6_init_32 : decode cX6_init 32 = .ok (.new 9, 3) := by decide +kernel
theorem dX6_init_35 : decode cX6_init 35 = .ok (.dup, 1) := by decide +kernel
theorem dX6_init_36 : decode cX6_init 36 = .ok (.invokespecial 11, 3) := by decide +kernel
theorem dX6_init_39 : decode cX6_init 39 = .ok (.aastore, 1) := by decide +kernel
theorem dX6_init_40 : decode cX6_init 40 = .ok (.dup, 1) := by decide +kernel
theorem dX6_init_41 : decode cX6_init 41 = .ok (.iconst 3, 1) := by decide +kernel
theorem dX6_init_42 : decode cX6_init 42 = .ok (.new 9, 3) := by decide +kernel
theorem dX6_init_45 : decode cX6_init 45 = .ok (.dup, 1) := by decide +kernel
theorem dX6_init_46 : decode cX6_init 46 = .ok (.invokespecial 11, 3) := by decide +kernel
theorem dX6_init_49 : decode cX6_init 49 = .ok (.aastore, 1) := by decide +kernel
theorem dX6_init_50 : decode cX6_init 50 = .ok (.dup, 1) := by decide +kernel
theorem dX6_init_51 : decode cX6_init 51 = .ok (.iconst 4, 1) := by decide +kernel
theorem dX6_init_52 : decode cX6_init 52 = .ok (.new 9, 3) := by decide +kernel
theorem dX6_init_55 : decode cX6_init 55 = .ok (.dup, 1) := by decide +kernel
theorem dX6_init_56 : decode cX6_init 56 = .ok (.invokespecial 11, 3) := by decide +kernel
theorem dX6_init_59 : decode cX6_init 59 = .ok (.aastore, 1) := by decide +kernel
theorem dX6_init_60 : decode cX6_init 60 = .ok (.dup, 1) := by decide +kernel
theorem dX6_init_61 : decode cX6_init 61 = .ok (.iconst 5, 1) := by decide +kernel
theorem dX6_init_62 : decode cX6_init 62 = .ok (.new 9, 3) := by decide +kernel
theorem dX6_init_65 : decode cX6_init 65 = .ok (.dup, 1) := by decide +kernel
theorem dX6_init_66 : decode cX6_init 66 = .ok (.invokespecial 11, 3) := by decide +kernel
theorem dX6_init_69 : decode cX6_init 69 = .ok (.aastore, 1) := by decide +kernel
theorem dX6_init_70 : decode cX6_init 70 = .ok (.putfield 12, 3) := by decide +kernel
theorem dX6_init_73 : decode cX6_init 73 = .ok (.return_, 1) := by decide +kernel
theorem dX6_keep_0 : decode cX6_keep 0 = .ok (.aload_n 0, 1) := by decide +kernel
theorem dX6_keep_1 : decode cX6_keep 1 = .ok (.getfield 18, 3) := by decide +kernel
theorem dX6_keep_4 : decode cX6_keep 4 = .ok (.bipush 6, 2) := by decide +kernel
theorem dX6_keep_6 : decode cX6_keep 6 = .ok (.if_icmp .ne 7, 3) := by decide +kernel
theorem dX6_keep_9 : decode cX6_keep 9 = .ok (.aload_n 0, 1) := by decide +kernel
theorem dX6_keep_10 : decode cX6_keep 10 = .ok (.invokevirtual 22, 3) := by decide +kernel
theorem dX6_keep_13 : decode cX6_keep 13 = .ok (.aload_n 0, 1) := by decide +kernel
theorem dX6_keep_14 : decode cX6_keep 14 = .ok (.getfield 12, 3) := by decide +kernel
theorem dX6_keep_17 : decode cX6_keep 17 = .ok (.aload_n 0, 1) := by decide +kernel
theorem dX6_keep_18 : decode cX6_keep 18 = .ok (.getfield 18, 3) := by decide +kernel
theorem dX6_keep_21 : decode cX6_keep 21 = .ok (.aaload, 1) := by decide +kernel
theorem dX6_keep_22 : decode cX6_keep 22 = .ok (.aload_n 1, 1) := by decide +kernel
theorem dX6_keep_23 : decode cX6_keep 23 = .ok (.invokevirtual 25, 3) := by decide +kernel
theorem dX6_keep_26 : decode cX6_keep 26 = .ok (.aload_n 0, 1) := by decide +kernel
theorem dX6_keep_27 : decode cX6_keep 27 = .ok (.dup, 1) := by decide +kernel
theorem dX6_keep_28 : decode cX6_keep 28 = .ok (.getfield 18, 3) := by decide +kernel
theorem dX6_keep_31 : decode cX6_keep 31 = .ok (.iconst 1, 1) := by decide +kernel
theorem dX6_keep_32 : decode cX6_keep 32 = .ok (.iadd, 1) := by decide +kernel
theorem dX6_keep_33 : decode cX6_keep 33 = .ok (.putfield 18, 3) := by decide +kernel
theorem dX6_keep_36 : decode cX6_keep 36 = .ok (.return_, 1) := by decide +kernel
theorem dX6_letTheOldestGo_0 : decode cX6_letTheOldestGo 0 = .ok (.aload_n 0, 1) := by decide +kernel
theorem dX6_letTheOldestGo_1 : decode cX6_letTheOldestGo 1 = .ok (.getfield 12, 3) := by decide +kernel
theorem dX6_letTheOldestGo_4 : decode cX6_letTheOldestGo 4 = .ok (.iconst 0, 1) := by decide +kernel
theorem dX6_letTheOldestGo_5 : decode cX6_letTheOldestGo 5 = .ok (.aaload, 1) := by decide +kernel
theorem dX6_letTheOldestGo_6 : decode cX6_letTheOldestGo 6 = .ok (.astore_n 1, 1) := by decide +kernel
theorem dX6_letTheOldestGo_7 : decode cX6_letTheOldestGo 7 = .ok (.iconst 1, 1) := by decide +kernel
theorem dX6_letTheOldestGo_8 : decode cX6_letTheOldestGo 8 = .ok (.istore_n 2, 1) := by decide +kernel
theorem dX6_letTheOldestGo_9 : decode cX6_letTheOldestGo 9 = .ok (.iload_n 2, 1) := by decide +kernel
theorem dX6_letTheOldestGo_10 : decode cX6_letTheOldestGo 10 = .ok (.bipush 6, 2) := by decide +kernel
theorem dX6_letTheOldestGo_12 : decode cX6_letTheOldestGo 12 = .ok (.if_icmp .ge 23, 3) := by decide +kernel
theorem dX6_letTheOldestGo_15 : decode cX6_letTheOldestGo 15 = .ok (.aload_n 0, 1) := by decide +kernel
theorem dX6_letTheOldestGo_16 : decode cX6_letTheOldestGo 16 = .ok (.getfield 12, 3) := by decide +kernel
theorem dX6_letTheOldestGo_19 : decode cX6_letTheOldestGo 19 = .ok (.iload_n 2, 1) := by decide +kernel
theorem dX6_letTheOldestGo_20 : decode cX6_letTheOldestGo 20 = .ok (.iconst 1, 1) := by decide +kernel
theorem dX6_letTheOldestGo_21 : decode cX6_letTheOldestGo 21 = .ok (.isub, 1) := by decide +kernel
theorem dX6_letTheOldestGo_22 : decode cX6_letTheOldestGo 22 = .ok (.aload_n 0, 1) := by decide +kernel
theorem dX6_letTheOldestGo_23 : decode cX6_letTheOldestGo 23 = .ok (.getfield 12, 3) := by decide +kernel
theorem dX6_letTheOldestGo_26 : decode cX6_letTheOldestGo 26 = .ok (.iload_n 2, 1) := by decide +kernel
theorem dX6_letTheOldestGo_27 : decode cX6_letTheOldestGo 27 = .ok (.aaload, 1) := by decide +kernel
theorem dX6_letTheOldestGo_28 : decode cX6_letTheOldestGo 28 = .ok (.aastore, 1) := by decide +kernel
theorem dX6_letTheOldestGo_29 : decode cX6_letTheOldestGo 29 = .ok (.iinc 2 1, 3) := by decide +kernel
theorem dX6_letTheOldestGo_32 : decode cX6_letTheOldestGo 32 = .ok (.goto (-23), 3) := by decide +kernel
theorem dX6_letTheOldestGo_35 : decode cX6_letTheOldestGo 35 = .ok (.aload_n 0, 1) := by decide +kernel
theorem dX6_letTheOldestGo_36 : decode cX6_letTheOldestGo 36 = .ok (.getfield 12, 3) := by decide +kernel
theorem dX6_letTheOldestGo_39 : decode cX6_letTheOldestGo 39 = .ok (.iconst 5, 1) := by decide +kernel
theorem dX6_letTheOldestGo_40 : decode cX6_letTheOldestGo 40 = .ok (.aload_n 1, 1) := by decide +kernel
theorem dX6_letTheOldestGo_41 : decode cX6_letTheOldestGo 41 = .ok (.aastore, 1) := by decide +kernel
theorem dX6_letTheOldestGo_42 : decode cX6_letTheOldestGo 42 = .ok (.aload_n 0, 1) := by decide +kernel
theorem dX6_letTheOldestGo_43 : decode cX6_letTheOldestGo 43 = .ok (.dup, 1) := by decide +kernel
theorem dX6_letTheOldestGo_44 : decode cX6_letTheOldestGo 44 = .ok (.getfield 18, 3) := by decide +kernel
theorem dX6_letTheOldestGo_47 : decode cX6_letTheOldestGo 47 = .ok (.iconst 1, 1) := by decide +kernel
theorem dX6_letTheOldestGo_48 : decode cX6_letTheOldestGo 48 = .ok (.isub, 1) := by decide +kernel
theorem dX6_letTheOldestGo_49 : decode cX6_letTheOldestGo 49 = .ok (.putfield 18, 3) := by decide +kernel
theorem dX6_letTheOldestGo_52 : decode cX6_letTheOldestGo 52 = .ok (.return_, 1) := by decide +kernel
theorem dX6_bringBack_0 : decode cX6_bringBack 0 = .ok (.aload_n 0, 1) := by decide +kernel
theorem dX6_bringBack_1 : decode cX6_bringBack 1 = .ok (.getfield 18, 3) := by decide +kernel
theorem dX6_bringBack_4 : decode cX6_bringBack 4 = .ok (.ifCond .le 26, 3) := by decide +kernel
theorem dX6_bringBack_7 : decode cX6_bringBack 7 = .ok (.aload_n 0, 1) := by decide +kernel
theorem dX6_bringBack_8 : decode cX6_bringBack 8 = .ok (.dup, 1) := by decide +kernel
theorem dX6_bringBack_9 : decode cX6_bringBack 9 = .ok (.getfield 18, 3) := by decide +kernel
theorem dX6_bringBack_12 : decode cX6_bringBack 12 = .ok (.iconst 1, 1) := by decide +kernel
theorem dX6_bringBack_13 : decode cX6_bringBack 13 = .ok (.isub, 1) := by decide +kernel
theorem dX6_bringBack_14 : decode cX6_bringBack 14 = .ok (.putfield 18, 3) := by decide +kernel
theorem dX6_bringBack_17 : decode cX6_bringBack 17 = .ok (.aload_n 1, 1) := by decide +kernel
theorem dX6_bringBack_18 : decode cX6_bringBack 18 = .ok (.aload_n 0, 1) := by decide +kernel
theorem dX6_bringBack_19 : decode cX6_bringBack 19 = .ok (.getfield 12, 3) := by decide +kernel
theorem dX6_bringBack_22 : decode cX6_bringBack 22 = .ok (.aload_n 0, 1) := by decide +kernel
theorem dX6_bringBack_23 : decode cX6_bringBack 23 = .ok (.getfield 18, 3) := by decide +kernel
theorem dX6_bringBack_26 : decode cX6_bringBack 26 = .ok (.aaload, 1) := by decide +kernel
theorem dX6_bringBack_27 : decode cX6_bringBack 27 = .ok (.invokevirtual 25, 3) := by decide +kernel
theorem dX6_bringBack_30 : decode cX6_bringBack 30 = .ok (.return_, 1) := by decide +kernel
theorem dX6_take_0 : decode cX6_take 0 = .ok (.aload_n 0, 1) := by decide +kernel
theorem dX6_take_1 : decode cX6_take 1 = .ok (.aload_n 1, 1) := by decide +kernel
theorem dX6_take_2 : decode cX6_take 2 = .ok (.getfield 18, 3) := by decide +kernel
theorem dX6_take_5 : decode cX6_take 5 = .ok (.putfield 18, 3) := by decide +kernel
theorem dX6_take_8 : decode cX6_take 8 = .ok (.iconst 0, 1) := by decide +kernel
theorem dX6_take_9 : decode cX6_take 9 = .ok (.istore_n 2, 1) := by decide +kernel
theorem dX6_take_10 : decode cX6_take 10 = .ok (.iload_n 2, 1) := by decide +kernel
theorem dX6_take_11 : decode cX6_take 11 = .ok (.aload_n 0, 1) := by decide +kernel
theorem dX6_take_12 : decode cX6_take 12 = .ok (.getfield 18, 3) := by decide +kernel
theorem dX6_take_15 : decode cX6_take 15 = .ok (.if_icmp .ge 24, 3) := by decide +kernel
theorem dX6_take_18 : decode cX6_take 18 = .ok (.aload_n 0, 1) := by decide +kernel
theorem dX6_take_19 : decode cX6_take 19 = .ok (.getfield 12, 3) := by decide +kernel
theorem dX6_take_22 : decode cX6_take 22 = .ok (.iload_n 2, 1) := by decide +kernel
theorem dX6_take_23 : decode cX6_take 23 = .ok (.aaload, 1) := by decide +kernel
theorem dX6_take_24 : decode cX6_take 24 = .ok (.aload_n 1, 1) := by decide +kernel
theorem dX6_take_25 : decode cX6_take 25 = .ok (.getfield 12, 3) := by decide +kernel
theorem dX6_take_28 : decode cX6_take 28 = .ok (.iload_n 2, 1) := by decide +kernel
theorem dX6_take_29 : decode cX6_take 29 = .ok (.aaload, 1) := by decide +kernel
theorem dX6_take_30 : decode cX6_take 30 = .ok (.invokevirtual 25, 3) := by decide +kernel
theorem dX6_take_33 : decode cX6_take 33 = .ok (.iinc 2 1, 3) := by decide +kernel
theorem dX6_take_36 : decode cX6_take 36 = .ok (.goto (-26), 3) := by decide +kernel
theorem dX6_take_39 : decode cX6_take 39 = .ok (.return_, 1) := by decide +kernel
theorem dX7_beats_0 : decode cX7_beats 0 = .ok (.bipush 12, 2) := by decide +kernel
theorem dX7_beats_2 : decode cX7_beats 2 = .ok (.istore_n 1, 1) := by decide +kernel
theorem dX7_beats_3 : decode cX7_beats 3 = .ok (.iconst 1, 1) := by decide +kernel
theorem dX7_beats_4 : decode cX7_beats 4 = .ok (.istore_n 2, 1) := by decide +kernel
theorem dX7_beats_5 : decode cX7_beats 5 = .ok (.iload_n 2, 1) := by decide +kernel
theorem dX7_beats_6 : decode cX7_beats 6 = .ok (.bipush 6, 2) := by decide +kernel
theorem dX7_beats_8 : decode cX7_beats 8 = .ok (.if_icmp .gt 28, 3) := by decide +kernel
theorem dX7_beats_11 : decode cX7_beats 11 = .ok (.iload_n 0, 1) := by decide +kernel
theorem dX7_beats_12 : decode cX7_beats 12 = .ok (.iload_n 1, 1) := by decide +kernel
theorem dX7_beats_13 : decode cX7_beats 13 = .ok (.if_icmp .lt 12, 3) := by decide +kernel
theorem dX7_beats_16 : decode cX7_beats 16 = .ok (.iload_n 0, 1) := by decide +kernel
theorem dX7_beats_17 : decode cX7_beats 17 = .ok (.iconst 2, 1) := by decide +kernel
theorem dX7_beats_18 : decode cX7_beats 18 = .ok (.iload_n 1, 1) := by decide +kernel
theorem dX7_beats_19 : decode cX7_beats 19 = .ok (.imul, 1) := by decide +kernel
theorem dX7_beats_20 : decode cX7_beats 20 = .ok (.if_icmp .ge 5, 3) := by decide +kernel
theorem dX7_beats_23 : decode cX7_beats 23 = .ok (.iload_n 2, 1) := by decide +kernel
theorem dX7_beats_24 : decode cX7_beats 24 = .ok (.ireturn, 1) := by decide +kernel
theorem dX7_beats_25 : decode cX7_beats 25 = .ok (.iload_n 1, 1) := by decide +kernel
theorem dX7_beats_26 : decode cX7_beats 26 = .ok (.bipush 12, 2) := by decide +kernel
theorem dX7_beats_28 : decode cX7_beats 28 = .ok (.imul, 1) := by decide +kernel
theorem dX7_beats_29 : decode cX7_beats 29 = .ok (.istore_n 1, 1) := by decide +kernel
theorem dX7_beats_30 : decode cX7_beats 30 = .ok (.iinc 2 1, 3) := by decide +kernel
theorem dX7_beats_33 : decode cX7_beats 33 = .ok (.goto (-28), 3) := by decide +kernel
theorem dX7_beats_36 : decode cX7_beats 36 = .ok (.iconst 0, 1) := by decide +kernel
theorem dX7_beats_37 : decode cX7_beats 37 = .ok (.ireturn, 1) := by decide +kernel
theorem dX7_spell_0 : decode cX7_spell 0 = .ok (.iload_n 0, 1) := by decide +kernel
theorem dX7_spell_1 : decode cX7_spell 1 = .ok (.istore 4, 2) := by decide +kernel
theorem dX7_spell_3 : decode cX7_spell 3 = .ok (.iload_n 3, 1) := by decide +kernel
theorem dX7_spell_4 : decode cX7_spell 4 = .ok (.iload_n 1, 1) := by decide +kernel
theorem dX7_spell_5 : decode cX7_spell 5 = .ok (.iadd, 1) := by decide +kernel
theorem dX7_spell_6 : decode cX7_spell 6 = .ok (.iconst 1, 1) := by decide +kernel
theorem dX7_spell_7 : decode cX7_spell 7 = .ok (.isub, 1) := by decide +kernel
theorem dX7_spell_8 : decode cX7_spell 8 = .ok (.istore 5, 2) := by decide +kernel
theorem dX7_spell_10 : decode cX7_spell 10 = .ok (.iload 5, 2) := by decide +kernel
theorem dX7_spell_12 : decode cX7_spell 12 = .ok (.iload_n 3, 1) := by decide +kernel
theorem dX7_spell_13 : decode cX7_spell 13 = .ok (.if_icmp .lt 32, 3) := by decide +kernel
theorem dX7_spell_16 : decode cX7_spell 16 = .ok (.iload 5, 2) := by decide +kernel
theorem dX7_spell_18 : decode cX7_spell 18 = .ok (.aload_n 2, 1) := by decide +kernel
theorem dX7_spell_19 : decode cX7_spell 19 = .ok (.arraylength, 1) := by decide +kernel
theorem dX7_spell_20 : decode cX7_spell 20 = .ok (.if_icmp .ge 25, 3) := by decide +kernel
theorem dX7_spell_23 : decode cX7_spell 23 = .ok (.aload_n 2, 1) := by decide +kernel
theorem dX7_spell_24 : decode cX7_spell 24 = .ok (.iload 5, 2) := by decide +kernel
theorem dX7_spell_26 : decode cX7_spell 26 = .ok (.iload 4, 2) := by decide +kernel
theorem dX7_spell_28 : decode cX7_spell 28 = .ok (.bipush 12, 2) := by decide +kernel
theorem dX7_spell_30 : decode cX7_spell 30 = .ok (.irem, 1) := by decide +kernel
theorem dX7_spell_31 : decode cX7_spell 31 = .ok (.iastore, 1) := by decide +kernel
theorem dX7_spell_32 : decode cX7_spell 32 = .ok (.iload 4, 2) := by decide +kernel
theorem dX7_spell_34 : decode cX7_spell 34 = .ok (.bipush 12, 2) := by decide +kernel
theorem dX7_spell_36 : decode cX7_spell 36 = .ok (.idiv, 1) := by decide +kernel
theorem dX7_spell_37 : decode cX7_spell 37 = .ok (.istore 4, 2) := by decide +kernel
theorem dX7_spell_39 : decode cX7_spell 39 = .ok (.iinc 5 (-1), 3) := by decide +kernel
theorem dX7_spell_42 : decode cX7_spell 42 = .ok (.goto (-32), 3) := by decide +kernel
theorem dX7_spell_45 : decode cX7_spell 45 = .ok (.return_, 1) := by decide +kernel
theorem dX7_number_0 : decode cX7_number 0 = .ok (.iconst 1, 1) := by decide +kernel
theorem dX7_number_1 : decode cX7_number 1 = .ok (.istore_n 2, 1) := by decide +kernel
theorem dX7_number_2 : decode cX7_number 2 = .ok (.iconst 0, 1) := by decide +kernel
theorem dX7_number_3 : decode cX7_number 3 = .ok (.istore_n 3, 1) := by decide +kernel
theorem dX7_number_4 : decode cX7_number 4 = .ok (.iload_n 3, 1) := by decide +kernel
theorem dX7_number_5 : decode cX7_number 5 = .ok (.iload_n 1, 1) := by decide +kernel
theorem dX7_number_6 : decode cX7_number 6 = .ok (.if_icmp .ge 24, 3) := by decide +kernel
theorem dX7_number_9 : decode cX7_number 9 = .ok (.iload_n 3, 1) := by decide +kernel
theorem dX7_number_10 : decode cX7_number 10 = .ok (.aload_n 0, 1) := by decide +kernel
theorem dX7_number_11 : decode cX7_number 11 = .ok (.arraylength, 1) := by decide +kernel
theorem dX7_number_12 : decode cX7_number 12 = .ok (.if_icmp .ge 18, 3) := by decide +kernel
theorem dX7_number_15 : decode cX7_number 15 = .ok (.iload_n 2, 1) := by decide +kernel
theorem dX7_number_16 : decode cX7_number 16 = .ok (.bipush 12, 2) := by decide +kernel
theorem dX7_number_18 : decode cX7_number 18 = .ok (.imul, 1) := by decide +kernel
theorem dX7_number_19 : decode cX7_number 19 = .ok (.aload_n 0, 1) := by decide +kernel
theorem dX7_number_20 : decode cX7_number 20 = .ok (.iload_n 3, 1) := by decide +kernel
theorem dX7_number_21 : decode cX7_number 21 = .ok (.iaload, 1) := by decide +kernel
theorem dX7_number_22 : decode cX7_number 22 = .ok (.iadd, 1) := by decide +kernel
theorem dX7_number_23 : decode cX7_number 23 = .ok (.istore_n 2, 1) := by decide +kernel
theorem dX7_number_24 : decode cX7_number 24 = .ok (.iinc 3 1, 3) := by decide +kernel
theorem dX7_number_27 : decode cX7_number 27 = .ok (.goto (-23), 3) := by decide +kernel
theorem dX7_number_30 : decode cX7_number 30 = .ok (.iload_n 2, 1) := by decide +kernel
theorem dX7_number_31 : decode cX7_number 31 = .ok (.ireturn, 1) := by decide +kernel
theorem dX7_isLawful_0 : decode cX7_isLawful 0 = .ok (.iconst 1, 1) := by decide +kernel
theorem dX7_isLawful_1 : decode cX7_isLawful 1 = .ok (.istore_n 2, 1) := by decide +kernel
theorem dX7_isLawful_2 : decode cX7_isLawful 2 = .ok (.iload_n 2, 1) := by decide +kernel
theorem dX7_isLawful_3 : decode cX7_isLawful 3 = .ok (.iload_n 1, 1) := by decide +kernel
theorem dX7_isLawful_4 : decode cX7_isLawful 4 = .ok (.if_icmp .ge 37, 3) := by decide +kernel
theorem dX7_isLawful_7 : decode cX7_isLawful 7 = .ok (.iload_n 2, 1) := by decide +kernel
theorem dX7_isLawful_8 : decode cX7_isLawful 8 = .ok (.aload_n 0, 1) := by decide +kernel
theorem dX7_isLawful_9 : decode cX7_isLawful 9 = .ok (.arraylength, 1) := by decide +kernel
theorem dX7_isLawful_10 : decode cX7_isLawful 10 = .ok (.if_icmp .ge 31, 3) := by decide +kernel
theorem dX7_isLawful_13 : decode cX7_isLawful 13 = .ok (.aload_n 0, 1) := by decide +kernel
theorem dX7_isLawful_14 : decode cX7_isLawful 14 = .ok (.iload_n 2, 1) := by decide +kernel
theorem dX7_isLawful_15 : decode cX7_isLawful 15 = .ok (.iaload, 1) := by decide +kernel
theorem dX7_isLawful_16 : decode cX7_isLawful 16 = .ok (.iconst 2, 1) := by decide +kernel
theorem dX7_isLawful_17 : decode cX7_isLawful 17 = .ok (.idiv, 1) := by decide +kernel
theorem dX7_isLawful_18 : decode cX7_isLawful 18 = .ok (.aload_n 0, 1) := by decide +kernel
theorem dX7_isLawful_19 : decode cX7_isLawful 19 = .ok (.iload_n 2, 1) := by decide +kernel
theorem dX7_isLawful_20 : decode cX7_isLawful 20 = .ok (.iconst 1, 1) := by decide +kernel
theorem dX7_isLawful_21 : decode cX7_isLawful 21 = .ok (.isub, 1) := by decide +kernel
theorem dX7_isLawful_22 : decode cX7_isLawful 22 = .ok (.iaload, 1) := by decide +kernel
theorem dX7_isLawful_23 : decode cX7_isLawful 23 = .ok (.iconst 2, 1) := by decide +kernel
theorem dX7_isLawful_24 : decode cX7_isLawful 24 = .ok (.idiv, 1) := by decide +kernel
theorem dX7_isLawful_25 : decode cX7_isLawful 25 = .ok (.isub, 1) := by decide +kernel
theorem dX7_isLawful_26 : decode cX7_isLawful 26 = .ok (.invokestatic 9, 3) := by decide +kernel
theorem dX7_isLawful_29 : decode cX7_isLawful 29 = .ok (.iconst 1, 1) := by decide +kernel
theorem dX7_isLawful_30 : decode cX7_isLawful 30 = .ok (.if_icmp .le 5, 3) := by decide +kernel
theorem dX7_isLawful_33 : decode cX7_isLawful 33 = .ok (.iconst 0, 1) := by decide +kernel
theorem dX7_isLawful_34 : decode cX7_isLawful 34 = .ok (.ireturn, 1) := by decide +kernel
theorem dX7_isLawful_35 : decode cX7_isLawful 35 = .ok (.iinc 2 1, 3) := by decide +kernel
theorem dX7_isLawful_38 : decode cX7_isLawful 38 = .ok (.goto (-36), 3) := by decide +kernel
theorem dX7_isLawful_41 : decode cX7_isLawful 41 = .ok (.iconst 1, 1) := by decide +kernel
theorem dX7_isLawful_42 : decode cX7_isLawful 42 = .ok (.ireturn, 1) := by decide +kernel
theorem dX7_draw_0 : decode cX7_draw 0 = .ok (.iconst 0, 1) := by decide +kernel
theorem dX7_draw_1 : decode cX7_draw 1 = .ok (.istore 4, 2) := by decide +kernel
theorem dX7_draw_3 : decode cX7_draw 3 = .ok (.iload 4, 2) := by decide +kernel
theorem dX7_draw_5 : decode cX7_draw 5 = .ok (.iload_n 1, 1) := by decide +kernel
theorem dX7_draw_6 : decode cX7_draw 6 = .ok (.if_icmp .ge 71, 3) := by decide +kernel
theorem dX7_draw_9 : decode cX7_draw 9 = .ok (.iload 4, 2) := by decide +kernel
theorem dX7_draw_11 : decode cX7_draw 11 = .ok (.aload_n 0, 1) := by decide +kernel
theorem dX7_draw_12 : decode cX7_draw 12 = .ok (.arraylength, 1) := by decide +kernel
theorem dX7_draw_13 : decode cX7_draw 13 = .ok (.if_icmp .ge 64, 3) := by decide +kernel
theorem dX7_draw_16 : decode cX7_draw 16 = .ok (.iload 4, 2) := by decide +kernel
theorem dX7_draw_18 : decode cX7_draw 18 = .ok (.aload_n 3, 1) := by decide +kernel
theorem dX7_draw_19 : decode cX7_draw 19 = .ok (.arraylength, 1) := by decide +kernel
theorem dX7_draw_20 : decode cX7_draw 20 = .ok (.if_icmp .ge 57, 3) := by decide +kernel
theorem dX7_draw_23 : decode cX7_draw 23 = .ok (.iload_n 2, 1) := by decide +kernel
theorem dX7_draw_24 : decode cX7_draw 24 = .ok (.iload 4, 2) := by decide +kernel
theorem dX7_draw_26 : decode cX7_draw 26 = .ok (.ishr, 1) := by decide +kernel
theorem dX7_draw_27 : decode cX7_draw 27 = .ok (.iconst 1, 1) := by decide +kernel
theorem dX7_draw_28 : decode cX7_draw 28 = .ok (.iand, 1) := by decide +kernel
theorem dX7_draw_29 : decode cX7_draw 29 = .ok (.iconst 1, 1) := by decide +kernel
theorem dX7_draw_30 : decode cX7_draw 30 = .ok (.if_icmp .ne 16, 3) := by decide +kernel
theorem dX7_draw_33 : decode cX7_draw 33 = .ok (.aload_n 0, 1) := by decide +kernel
theorem dX7_draw_34 : decode cX7_draw 34 = .ok (.iload 4, 2) := by decide +kernel
theorem dX7_draw_36 : decode cX7_draw 36 = .ok (.iaload, 1) := by decide +kernel
theorem dX7_draw_37 : decode cX7_draw 37 = .ok (.bipush 10, 2) := by decide +kernel
theorem dX7_draw_39 : decode cX7_draw 39 = .ok (.if_icmp .ge 7, 3) := by decide +kernel
theorem dX7_draw_42 : decode cX7_draw 42 = .ok (.iconst 1, 1) := by decide +kernel
theorem dX7_draw_43 : decode cX7_draw 43 = .ok (.goto 4, 3) := by decide +kernel
theorem dX7_draw_46 : decode cX7_draw 46 = .ok (.iconst 0, 1) := by decide +kernel
theorem dX7_draw_47 : decode cX7_draw 47 = .ok (.istore 5, 2) := by decide +kernel
theorem dX7_draw_49 : decode cX7_draw 49 = .ok (.aload_n 3, 1) := by decide +kernel
theorem dX7_draw_50 : decode cX7_draw 50 = .ok (.iload 4, 2) := by decide +kernel
theorem dX7_draw_52 : decode cX7_draw 52 = .ok (.iload 5, 2) := by decide +kernel
theorem dX7_draw_54 : decode cX7_draw 54 = .ok (.ifCond .eq 12, 3) := by decide +kernel
theorem dX7_draw_57 : decode cX7_draw 57 = .ok (.aload_n 0, 1) := by decide +kernel
theorem dX7_draw_58 : decode cX7_draw 58 = .ok (.iload 4, 2) := by decide +kernel
theorem dX7_draw_60 : decode cX7_draw 60 = .ok (.iaload, 1) := by decide +kernel
theorem dX7_draw_61 : decode cX7_draw 61 = .ok (.iconst 2, 1) := by decide +kernel
theorem dX7_draw_62 : decode cX7_draw 62 = .ok (.iadd, 1) := by decide +kernel
theorem dX7_draw_63 : decode cX7_draw 63 = .ok (.goto 7, 3) := by decide +kernel
theorem dX7_draw_66 : decode cX7_draw 66 = .ok (.aload_n 0, 1) := by decide +kernel
theorem dX7_draw_67 : decode cX7_draw 67 = .ok (.iload 4, 2) := by decide +kernel
theorem dX7_draw_69 : decode cX7_draw 69 = .ok (.iaload, 1) := by decide +kernel
theorem dX7_draw_70 : decode cX7_draw 70 = .ok (.iastore, 1) := by decide +kernel
theorem dX7_draw_71 : decode cX7_draw 71 = .ok (.iinc 4 1, 3) := by decide +kernel
theorem dX7_draw_74 : decode cX7_draw 74 = .ok (.goto (-71), 3) := by decide +kernel
theorem dX7_draw_77 : decode cX7_draw 77 = .ok (.return_, 1) := by decide +kernel
theorem dX8_init_0 : decode cX8_init 0 = .ok (.aload_n 0, 1) := by decide +kernel
theorem dX8_init_1 : decode cX8_init 1 = .ok (.invokespecial 3, 3) := by decide +kernel
theorem dX8_init_4 : decode cX8_init 4 = .ok (.aload_n 0, 1) := by decide +kernel
theorem dX8_init_5 : decode cX8_init 5 = .ok (.sipush 250, 3) := by decide +kernel
theorem dX8_init_8 : decode cX8_init 8 = .ok (.newarray .int, 2) := by decide +kernel
theorem dX8_init_10 : decode cX8_init 10 = .ok (.putfield 9, 3) := by decide +kernel
theorem dX8_init_13 : decode cX8_init 13 = .ok (.aload_n 0, 1) := by decide +kernel
theorem dX8_init_14 : decode cX8_init 14 = .ok (.new 15, 3) := by decide +kernel
theorem dX8_init_17 : decode cX8_init 17 = .ok (.dup, 1) := by decide +kernel
theorem dX8_init_18 : decode cX8_init 18 = .ok (.invokespecial 17, 3) := by decide +kernel
theorem dX8_init_21 : decode cX8_init 21 = .ok (.putfield 18, 3) := by decide +kernel
theorem dX8_init_24 : decode cX8_init 24 = .ok (.return_, 1) := by decide +kernel
theorem dX8_put_0 : decode cX8_put 0 = .ok (.aload_n 0, 1) := by decide +kernel
theorem dX8_put_1 : decode cX8_put 1 = .ok (.getfield 22, 3) := by decide +kernel
theorem dX8_put_4 : decode cX8_put 4 = .ok (.aload_n 0, 1) := by decide +kernel
theorem dX8_put_5 : decode cX8_put 5 = .ok (.getfield 9, 3) := by decide +kernel
theorem dX8_put_8 : decode cX8_put 8 = .ok (.arraylength, 1) := by decide +kernel
theorem dX8_put_9 : decode cX8_put 9 = .ok (.if_icmp .ge 23, 3) := by decide +kernel
theorem dX8_put_12 : decode cX8_put 12 = .ok (.aload_n 0, 1) := by decide +kernel
theorem dX8_put_13 : decode cX8_put 13 = .ok (.getfield 9, 3) := by decide +kernel
theorem dX8_put_16 : decode cX8_put 16 = .ok (.aload_n 0, 1) := by decide +kernel
theorem dX8_put_17 : decode cX8_put 17 = .ok (.getfield 22, 3) := by decide +kernel
theorem dX8_put_20 : decode cX8_put 20 = .ok (.iload_n 1, 1) := by decide +kernel
theorem dX8_put_21 : decode cX8_put 21 = .ok (.iastore, 1) := by decide +kernel
theorem dX8_put_22 : decode cX8_put 22 = .ok (.aload_n 0, 1) := by decide +kernel
theorem dX8_put_23 : decode cX8_put 23 = .ok (.dup, 1) := by decide +kernel
theorem dX8_put_24 : decode cX8_put 24 = .ok (.getfield 22, 3) := by decide +kernel
theorem dX8_put_27 : decode cX8_put 27 = .ok (.iconst 1, 1) := by decide +kernel
theorem dX8_put_28 : decode cX8_put 28 = .ok (.iadd, 1) := by decide +kernel
theorem dX8_put_29 : decode cX8_put 29 = .ok (.putfield 22, 3) := by decide +kernel
theorem dX8_put_32 : decode cX8_put 32 = .ok (.return_, 1) := by decide +kernel
theorem dX8_fault_0 : decode cX8_fault 0 = .ok (.aload_n 0, 1) := by decide +kernel
theorem dX8_fault_1 : decode cX8_fault 1 = .ok (.getfield 18, 3) := by decide +kernel
theorem dX8_fault_4 : decode cX8_fault 4 = .ok (.iconst 0, 1) := by decide +kernel
theorem dX8_fault_5 : decode cX8_fault 5 = .ok (.putfield 26, 3) := by decide +kernel
theorem dX8_fault_8 : decode cX8_fault 8 = .ok (.aload_n 0, 1) := by decide +kernel
theorem dX8_fault_9 : decode cX8_fault 9 = .ok (.iconst 0, 1) := by decide +kernel
theorem dX8_fault_10 : decode cX8_fault 10 = .ok (.putfield 29, 3) := by decide +kernel
theorem dX8_fault_13 : decode cX8_fault 13 = .ok (.aload_n 0, 1) := by decide +kernel
theorem dX8_fault_14 : decode cX8_fault 14 = .ok (.iconst 0, 1) := by decide +kernel
theorem dX8_fault_15 : decode cX8_fault 15 = .ok (.putfield 32, 3) := by decide +kernel
theorem dX8_fault_18 : decode cX8_fault 18 = .ok (.aload_n 0, 1) := by decide +kernel
theorem dX8_fault_19 : decode cX8_fault 19 = .ok (.iconst 0, 1) := by decide +kernel
theorem dX8_fault_20 : decode cX8_fault 20 = .ok (.putfield 35, 3) := by decide +kernel
theorem dX8_fault_23 : decode cX8_fault 23 = .ok (.aload_n 0, 1) := by decide +kernel
theorem dX8_fault_24 : decode cX8_fault 24 = .ok (.invokevirtual 38, 3) := by decide +kernel
theorem dX8_fault_27 : decode cX8_fault 27 = .ok (.iconst 0, 1) := by decide +kernel
theorem dX8_fault_28 : decode cX8_fault 28 = .ok (.istore_n 1, 1) := by decide +kernel
theorem dX8_fault_29 : decode cX8_fault 29 = .ok (.iload_n 1, 1) := by decide +kernel
theorem dX8_fault_30 : decode cX8_fault 30 = .ok (.sipush 250, 3) := by decide +kernel
theorem dX8_fault_33 : decode cX8_fault 33 = .ok (.if_icmp .ge 42, 3) := by decide +kernel
theorem dX8_fault_36 : decode cX8_fault 36 = .ok (.aload_n 0, 1) := by decide +kernel
theorem dX8_fault_37 : decode cX8_fault 37 = .ok (.getfield 41, 3) := by decide +kernel
theorem dX8_fault_40 : decode cX8_fault 40 = .ok (.ifCond .eq 35, 3) := by decide +kernel
theorem dX8_fault_43 : decode cX8_fault 43 = .ok (.aload_n 0, 1) := by decide +kernel
theorem dX8_fault_44 : decode cX8_fault 44 = .ok (.invokevirtual 44, 3) := by decide +kernel
theorem dX8_fault_47 : decode cX8_fault 47 = .ok (.ifCond .ne 8, 3) := by decide +kernel
theorem dX8_fault_50 : decode cX8_fault 50 = .ok (.aload_n 0, 1) := by decide +kernel
theorem dX8_fault_51 : decode cX8_fault 51 = .ok (.getfield 48, 3) := by decide +kernel
theorem dX8_fault_54 : decode cX8_fault 54 = .ok (.ireturn, 1) := by decide +kernel
theorem dX8_fault_55 : decode cX8_fault 55 = .ok (.aload_n 0, 1) := by decide +kernel
theorem dX8_fault_56 : decode cX8_fault 56 = .ok (.dup, 1) := by decide +kernel
theorem dX8_fault_57 : decode cX8_fault 57 = .ok (.getfield 32, 3) := by decide +kernel
theorem dX8_fault_60 : decode cX8_fault 60 = .ok (.iconst 1, 1) := by decide +kernel
theorem dX8_fault_61 : decode cX8_fault 61 = .ok (.iadd, 1) := by decide +kernel
theorem dX8_fault_62 : decode cX8_fault 62 = .ok (.putfield 32, 3) := by decide +kernel
theorem dX8_fault_65 : decode cX8_fault 65 = .ok (.aload_n 0, 1) := by decide +kernel
theorem dX8_fault_66 : decode cX8_fault 66 = .ok (.invokevirtual 38, 3) := by decide +kernel
theorem dX8_fault_69 : decode cX8_fault 69 = .ok (.iinc 1 1, 3) := by decide +kernel
theorem dX8_fault_72 : decode cX8_fault 72 = .ok (.goto (-43), 3) := by decide +kernel
theorem dX8_fault_75 : decode cX8_fault 75 = .ok (.iconst (-1), 1) := by decide +kernel
theorem dX8_fault_76 : decode cX8_fault 76 = .ok (.ireturn, 1) := by decide +kernel
theorem dX8_isItem_0 : decode cX8_isItem 0 = .ok (.aload_n 0, 1) := by decide +kernel
theorem dX8_isItem_1 : decode cX8_isItem 1 = .ok (.ldc 51, 2) := by decide +kernel
theorem dX8_isItem_3 : decode cX8_isItem 3 = .ok (.invokevirtual 53, 3) := by decide +kernel
theorem dX8_isItem_6 : decode cX8_isItem 6 = .ok (.ifCond .eq 8, 3) := by decide +kernel
theorem dX8_isItem_9 : decode cX8_isItem 9 = .ok (.aload_n 0, 1) := by decide +kernel
theorem dX8_isItem_10 : decode cX8_isItem 10 = .ok (.invokevirtual 57, 3) := by decide +kernel
theorem dX8_isItem_13 : decode cX8_isItem 13 = .ok (.ireturn, 1) := by decide +kernel
theorem dX8_isItem_14 : decode cX8_isItem 14 = .ok (.aload_n 0, 1) := by decide +kernel
theorem dX8_isItem_15 : decode cX8_isItem 15 = .ok (.ldc 60, 2) := by decide +kernel
theorem dX8_isItem_17 : decode cX8_isItem 17 = .ok (.invokevirtual 53, 3) := by decide +kernel
theorem dX8_isItem_20 : decode cX8_isItem 20 = .ok (.ifCond .eq 8, 3) := by decide +kernel
theorem dX8_isItem_23 : decode cX8_isItem 23 = .ok (.aload_n 0, 1) := by decide +kernel
theorem dX8_isItem_24 : decode cX8_isItem 24 = .ok (.invokevirtual 62, 3) := by decide +kernel
theorem dX8_isItem_27 : decode cX8_isItem 27 = .ok (.ireturn, 1) := by decide +kernel
theorem dX8_isItem_28 : decode cX8_isItem 28 = .ok (.aload_n 0, 1) := by decide +kernel
theorem dX8_isItem_29 : decode cX8_isItem 29 = .ok (.ldc 65, 2) := by decide +kernel
theorem dX8_isItem_31 : decode cX8_isItem 31 = .ok (.invokevirtual 53, 3) := by decide +kernel
theorem dX8_isItem_34 : decode cX8_isItem 34 = .ok (.ifCond .eq 14, 3) := by decide +kernel
theorem dX8_isItem_37 : decode cX8_isItem 37 = .ok (.aload_n 0, 1) := by decide +kernel
theorem dX8_isItem_38 : decode cX8_isItem 38 = .ok (.invokevirtual 67, 3) := by decide +kernel
theorem dX8_isItem_41 : decode cX8_isItem 41 = .ok (.ifCond .eq 7, 3) := by decide +kernel
theorem dX8_isItem_44 : decode cX8_isItem 44 = .ok (.iconst 1, 1) := by decide +kernel
theorem dX8_isItem_45 : decode cX8_isItem 45 = .ok (.goto 4, 3) := by decide +kernel
theorem dX8_isItem_48 : decode cX8_isItem 48 = .ok (.iconst 0, 1) := by decide +kernel
theorem dX8_isItem_49 : decode cX8_isItem 49 = .ok (.ireturn, 1) := by decide +kernel
theorem dX8_isCodeItem_0 : decode cX8_isCodeItem 0 = .ok (.aload_n 0, 1) := by decide +kernel
theorem dX8_isCodeItem_1 : decode cX8_isCodeItem 1 = .ok (.getfield 18, 3) := by decide +kernel
theorem dX8_isCodeItem_4 : decode cX8_isCodeItem 4 = .ok (.getfield 26, 3) := by decide +kernel
theorem dX8_isCodeItem_7 : decode cX8_isCodeItem 7 = .ok (.iconst 3, 1) := by decide +kernel
theorem dX8_isCodeItem_8 : decode cX8_isCodeItem 8 = .ok (.if_icmp .lt 5, 3) := by decide +kernel
theorem dX8_isCodeItem_11 : decode cX8_isCodeItem 11 = .ok (.iconst 0, 1) := by decide +kernel
theorem dX8_isCodeItem_12 : decode cX8_isCodeItem 12 = .ok (.ireturn, 1) := by decide +kernel
theorem dX8_isCodeItem_13 : decode cX8_isCodeItem 13 = .ok (.aload_n 0, 1) := by decide +kernel
theorem dX8_isCodeItem_14 : decode cX8_isCodeItem 14 = .ok (.invokevirtual 38, 3) := by decide +kernel
theorem dX8_isCodeItem_17 : decode cX8_isCodeItem 17 = .ok (.aload_n 0, 1) := by decide +kernel
theorem dX8_isCodeItem_18 : decode cX8_isCodeItem 18 = .ok (.getfield 41, 3) := by decide +kernel
theorem dX8_isCodeItem_21 : decode cX8_isCodeItem 21 = .ok (.iconst 3, 1) := by decide +kernel
theorem dX8_isCodeItem_22 : decode cX8_isCodeItem 22 = .ok (.if_icmp .eq 5, 3) := by decide +kernel
theorem dX8_isCodeItem_25 : decode cX8_isCodeItem 25 = .ok (.iconst 0, 1) := by decide +kernel
theorem dX8_isCodeItem_26 : decode cX8_isCodeItem 26 = .ok (.ireturn, 1) := by decide +kernel
theorem dX8_isCodeItem_27 : decode cX8_isCodeItem 27 = .ok (.aload_n 0, 1) := by decide +kernel
theorem dX8_isCodeItem_28 : decode cX8_isCodeItem 28 = .ok (.getfield 18, 3) := by decide +kernel
theorem dX8_isCodeItem_31 : decode cX8_isCodeItem 31 = .ok (.invokevirtual 70, 3) := by decide +kernel
theorem dX8_isCodeItem_34 : decode cX8_isCodeItem 34 = .ok (.pop, 1) := by decide +kernel
theorem dX8_isCodeItem_35 : decode cX8_isCodeItem 35 = .ok (.iconst 1, 1) := by decide +kernel
theorem dX8_isCodeItem_36 : decode cX8_isCodeItem 36 = .ok (.ireturn, 1) := by decide +kernel
theorem dX8_isEntryItem_0 : decode cX8_isEntryItem 0 = .ok (.aload_n 0, 1) := by decide +kernel
theorem dX8_isEntryItem_1 : decode cX8_isEntryItem 1 = .ok (.invokevirtual 38, 3) := by decide +kernel
theorem dX8_isEntryItem_4 : decode cX8_isEntryItem 4 = .ok (.aload_n 0, 1) := by decide +kernel
theorem dX8_isEntryItem_5 : decode cX8_isEntryItem 5 = .ok (.getfield 74, 3) := by decide +kernel
theorem dX8_isEntryItem_8 : decode cX8_isEntryItem 8 = .ok (.istore_n 1, 1) := by decide +kernel
theorem dX8_isEntryItem_9 : decode cX8_isEntryItem 9 = .ok (.aload_n 0, 1) := by decide +kernel
theorem dX8_isEntryItem_10 : decode cX8_isEntryItem 10 = .ok (.aload_n 0, 1) := by decide +kernel
theorem dX8_isEntryItem_11 : decode cX8_isEntryItem 11 = .ok (.getfield 18, 3) := by decide +kernel
theorem dX8_isEntryItem_14 : decode cX8_isEntryItem 14 = .ok (.getfield 26, 3) := by decide +kernel
theorem dX8_isEntryItem_17 : decode cX8_isEntryItem 17 = .ok (.invokevirtual 77, 3) := by decide +kernel
theorem dX8_isEntryItem_20 : decode cX8_isEntryItem 20 = .ok (.ifCond .eq 17, 3) := by decide +kernel
theorem dX8_isEntryItem_23 : decode cX8_isEntryItem 23 = .ok (.aload_n 0, 1) := by decide +kernel
theorem dX8_isEntryItem_24 : decode cX8_isEntryItem 24 = .ok (.getfield 18, 3) := by decide +kernel
theorem dX8_isEntryItem_27 : decode cX8_isEntryItem 27 = .ok (.getfield 81, 3) := by decide +kernel
theorem dX8_isEntryItem_30 : decode cX8_isEntryItem 30 = .ok (.iload_n 1, 1) := by decide +kernel
theorem dX8_isEntryItem_31 : decode cX8_isEntryItem 31 = .ok (.iaload, 1) := by decide +kernel
theorem dX8_isEntryItem_32 : decode cX8_isEntryItem 32 = .ok (.bipush 8, 2) := by decide +kernel
theorem dX8_isEntryItem_34 : decode cX8_isEntryItem 34 = .ok (.if_icmp .lt 5, 3) := by decide +kernel
theorem dX8_isEntryItem_37 : decode cX8_isEntryItem 37 = .ok (.iconst 0, 1) := by decide +kernel
theorem dX8_isEntryItem_38 : decode cX8_isEntryItem 38 = .ok (.ireturn, 1) := by decide +kernel
theorem dX8_isEntryItem_39 : decode cX8_isEntryItem 39 = .ok (.aload_n 0, 1) := by decide +kernel
theorem dX8_isEntryItem_40 : decode cX8_isEntryItem 40 = .ok (.invokevirtual 38, 3) := by decide +kernel
theorem dX8_isEntryItem_43 : decode cX8_isEntryItem 43 = .ok (.aload_n 0, 1) := by decide +kernel
theorem dX8_isEntryItem_44 : decode cX8_isEntryItem 44 = .ok (.getfield 74, 3) := by decide +kernel
theorem dX8_isEntryItem_47 : decode cX8_isEntryItem 47 = .ok (.istore_n 2, 1) := by decide +kernel
theorem dX8_isEntryItem_48 : decode cX8_isEntryItem 48 = .ok (.aload_n 0, 1) := by decide +kernel
theorem dX8_isEntryItem_49 : decode cX8_isEntryItem 49 = .ok (.bipush 10, 2) := by decide +kernel
theorem dX8_isEntryItem_51 : decode cX8_isEntryItem 51 = .ok (.invokevirtual 77, 3) := by decide +kernel
theorem dX8_isEntryItem_54 : decode cX8_isEntryItem 54 = .ok (.ifCond .ne 5, 3) := by decide +kernel
theorem dX8_isEntryItem_57 : decode cX8_isEntryItem 57 = .ok (.iconst 0, 1) := by decide +kernel
theorem dX8_isEntryItem_58 : decode cX8_isEntryItem 58 = .ok (.ireturn, 1) := by decide +kernel
theorem dX8_isEntryItem_59 : decode cX8_isEntryItem 59 = .ok (.aload_n 0, 1) := by decide +kernel
theorem dX8_isEntryItem_60 : decode cX8_isEntryItem 60 = .ok (.invokevirtual 38, 3) := by decide +kernel
theorem dX8_isEntryItem_63 : decode cX8_isEntryItem 63 = .ok (.aload_n 0, 1) := by decide +kernel
theorem dX8_isEntryItem_64 : decode cX8_isEntryItem 64 = .ok (.bipush 12, 2) := by decide +kernel
theorem dX8_isEntryItem_66 : decode cX8_isEntryItem 66 = .ok (.invokevirtual 77, 3) := by decide +kernel
theorem dX8_isEntryItem_69 : decode cX8_isEntryItem 69 = .ok (.ifCond .ne 5, 3) := by decide +kernel
theorem dX8_isEntryItem_72 : decode cX8_isEntryItem 72 = .ok (.iconst 0, 1) := by decide +kernel
theorem dX8_isEntryItem_73 : decode cX8_isEntryItem 73 = .ok (.ireturn, 1) := by decide +kernel
theorem dX8_isEntryItem_74 : decode cX8_isEntryItem 74 = .ok (.iconst 1, 1) := by decide +kernel
theorem dX8_isEntryItem_75 : decode cX8_isEntryItem 75 = .ok (.istore_n 3, 1) := by decide +kernel
theorem dX8_isEntryItem_76 : decode cX8_isEntryItem 76 = .ok (.iconst 0, 1) := by decide +kernel
theorem dX8_isEntryItem_77 : decode cX8_isEntryItem 77 = .ok (.istore 4, 2) := by decide +kernel
theorem dX8_isEntryItem_79 : decode cX8_isEntryItem 79 = .ok (.iload 4, 2) := by decide +kernel
theorem dX8_isEntryItem_81 : decode cX8_isEntryItem 81 = .ok (.iconst 3, 1) := by decide +kernel
theorem dX8_isEntryItem_82 : decode cX8_isEntryItem 82 = .ok (.if_icmp .ge 32, 3) := by decide +kernel
theorem dX8_isEntryItem_85 : decode cX8_isEntryItem 85 = .ok (.aload_n 0, 1) := by decide +kernel
theorem dX8_isEntryItem_86 : decode cX8_isEntryItem 86 = .ok (.bipush 12, 2) := by decide +kernel
theorem dX8_isEntryItem_88 : decode cX8_isEntryItem 88 = .ok (.invokevirtual 77, 3) := by decide +kernel
theorem dX8_isEntryItem_91 : decode cX8_isEntryItem 91 = .ok (.ifCond .eq 23, 3) := by decide +kernel
theorem dX8_isEntryItem_94 : decode cX8_isEntryItem 94 = .ok (.iload_n 3, 1) := by decide +kernel
theorem dX8_isEntryItem_95 : decode cX8_isEntryItem 95 = .ok (.bipush 12, 2) := by decide +kernel
theorem dX8_isEntryItem_97 : decode cX8_isEntryItem 97 = .ok (.imul, 1) := by decide +kernel
theorem dX8_isEntryItem_98 : decode cX8_isEntryItem 98 = .ok (.aload_n 0, 1) := by decide +kernel
theorem dX8_isEntryItem_99 : decode cX8_isEntryItem 99 = .ok (.getfield 74, 3) := by decide +kernel
theorem dX8_isEntryItem_102 : decode cX8_isEntryItem 102 = .ok (.iadd, 1) := by decide +kernel
theorem dX8_isEntryItem_103 : decode cX8_isEntryItem 103 = .ok (.istore_n 3, 1) := by decide +kernel
theorem dX8_isEntryItem_104 : decode cX8_isEntryItem 104 = .ok (.aload_n 0, 1) := by decide +kernel
theorem dX8_isEntryItem_105 : decode cX8_isEntryItem 105 = .ok (.invokevirtual 38, 3) := by decide +kernel
theorem dX8_isEntryItem_108 : decode cX8_isEntryItem 108 = .ok (.iinc 4 1, 3) := by decide +kernel
theorem dX8_isEntryItem_111 : decode cX8_isEntryItem 111 = .ok (.goto (-32), 3) := by decide +kernel
theorem dX8_isEntryItem_114 : decode cX8_isEntryItem 114 = .ok (.aload_n 0, 1) := by decide +kernel
theorem dX8_isEntryItem_115 : decode cX8_isEntryItem 115 = .ok (.getfield 41, 3) := by decide +kernel
theorem dX8_isEntryItem_118 : decode cX8_isEntryItem 118 = .ok (.iconst 3, 1) := by decide +kernel
theorem dX8_isEntryItem_119 : decode cX8_isEntryItem 119 = .ok (.if_icmp .ne 15, 3) := by decide +kernel
theorem dX8_isEntryItem_122 : decode cX8_isEntryItem 122 = .ok (.aload_n 0, 1) := by decide +kernel
theorem dX8_isEntryItem_123 : decode cX8_isEntryItem 123 = .ok (.getfield 18, 3) := by decide +kernel
theorem dX8_isEntryItem_126 : decode cX8_isEntryItem 126 = .ok (.iload_n 1, 1) := by decide +kernel
theorem dX8_isEntryItem_127 : decode cX8_isEntryItem 127 = .ok (.iload_n 3, 1) := by decide +kernel
theorem dX8_isEntryItem_128 : decode cX8_isEntryItem 128 = .ok (.invokevirtual 84, 3) := by decide +kernel
theorem dX8_isEntryItem_131 : decode cX8_isEntryItem 131 = .ok (.ifCond .eq 5, 3) := by decide +kernel
theorem dX8_isEntryItem_134 : decode cX8_isEntryItem 134 = .ok (.iconst 0, 1) := by decide +kernel
theorem dX8_isEntryItem_135 : decode cX8_isEntryItem 135 = .ok (.ireturn, 1) := by decide +kernel
theorem dX8_isEntryItem_136 : decode cX8_isEntryItem 136 = .ok (.aload_n 0, 1) := by decide +kernel
theorem dX8_isEntryItem_137 : decode cX8_isEntryItem 137 = .ok (.getfield 18, 3) := by decide +kernel
theorem dX8_isEntryItem_140 : decode cX8_isEntryItem 140 = .ok (.iload_n 1, 1) := by decide +kernel
theorem dX8_isEntryItem_141 : decode cX8_isEntryItem 141 = .ok (.iload_n 2, 1) := by decide +kernel
theorem dX8_isEntryItem_142 : decode cX8_isEntryItem 142 = .ok (.iload_n 3, 1) := by decide +kernel
theorem dX8_isEntryItem_143 : decode cX8_isEntryItem 143 = .ok (.invokevirtual 88, 3) := by decide +kernel
theorem dX8_isEntryItem_146 : decode cX8_isEntryItem 146 = .ok (.pop, 1) := by decide +kernel
theorem dX8_isEntryItem_147 : decode cX8_isEntryItem 147 = .ok (.iconst 1, 1) := by decide +kernel
theorem dX8_isEntryItem_148 : decode cX8_isEntryItem 148 = .ok (.ireturn, 1) := by decide +kernel
theorem dX8_isDraughtItem_0 : decode cX8_isDraughtItem 0 = .ok (.aload_n 0, 1) := by decide +kernel
theorem dX8_isDraughtItem_1 : decode cX8_isDraughtItem 1 = .ok (.invokevirtual 38, 3) := by decide +kernel
theorem dX8_isDraughtItem_4 : decode cX8_isDraughtItem 4 = .ok (.aload_n 0, 1) := by decide +kernel
theorem dX8_isDraughtItem_5 : decode cX8_isDraughtItem 5 = .ok (.getfield 74, 3) := by decide +kernel
theorem dX8_isDraughtItem_8 : decode cX8_isDraughtItem 8 = .ok (.istore_n 1, 1) := by decide +kernel
theorem dX8_isDraughtItem_9 : decode cX8_isDraughtItem 9 = .ok (.aload_n 0, 1) := by decide +kernel
theorem dX8_isDraughtItem_10 : decode cX8_isDraughtItem 10 = .ok (.bipush 64, 2) := by decide +kernel
theorem dX8_isDraughtItem_12 : decode cX8_isDraughtItem 12 = .ok (.invokevirtual 77, 3) := by decide +kernel
theorem dX8_isDraughtItem_15 : decode cX8_isDraughtItem 15 = .ok (.ifCond .ne 5, 3) := by decide +kernel
theorem dX8_isDraughtItem_18 : decode cX8_isDraughtItem 18 = .ok (.iconst 0, 1) := by decide +kernel
theorem dX8_isDraughtItem_19 : decode cX8_isDraughtItem 19 = .ok (.ireturn, 1) := by decide +kernel
theorem dX8_isDraughtItem_20 : decode cX8_isDraughtItem 20 = .ok (.aload_n 0, 1) := by decide +kernel
theorem dX8_isDraughtItem_21 : decode cX8_isDraughtItem 21 = .ok (.invokevirtual 38, 3) := by decide +kernel
theorem dX8_isDraughtItem_24 : decode cX8_isDraughtItem 24 = .ok (.aload_n 0, 1) := by decide +kernel
theorem dX8_isDraughtItem_25 : decode cX8_isDraughtItem 25 = .ok (.getfield 41, 3) := by decide +kernel
theorem dX8_isDraughtItem_28 : decode cX8_isDraughtItem 28 = .ok (.iconst 3, 1) := by decide +kernel
theorem dX8_isDraughtItem_29 : decode cX8_isDraughtItem 29 = .ok (.if_icmp .eq 5, 3) := by decide +kernel
theorem dX8_isDraughtItem_32 : decode cX8_isDraughtItem 32 = .ok (.iconst 0, 1) := by decide +kernel
theorem dX8_isDraughtItem_33 : decode cX8_isDraughtItem 33 = .ok (.ireturn, 1) := by decide +kernel
theorem dX8_isDraughtItem_34 : decode cX8_isDraughtItem 34 = .ok (.aload_n 0, 1) := by decide +kernel
theorem dX8_isDraughtItem_35 : decode cX8_isDraughtItem 35 = .ok (.iload_n 1, 1) := by decide +kernel
theorem dX8_isDraughtItem_36 : decode cX8_isDraughtItem 36 = .ok (.putfield 29, 3) := by decide +kernel
theorem dX8_isDraughtItem_39 : decode cX8_isDraughtItem 39 = .ok (.iconst 1, 1) := by decide +kernel
theorem dX8_isDraughtItem_40 : decode cX8_isDraughtItem 40 = .ok (.ireturn, 1) := by decide +kernel
theorem dX8_isNumberBelow_0 : decode cX8_isNumberBelow 0 = .ok (.aload_n 0, 1) := by decide +kernel
theorem dX8_isNumberBelow_1 : decode cX8_isNumberBelow 1 = .ok (.getfield 41, 3) := by decide +kernel
theorem dX8_isNumberBelow_4 : decode cX8_isNumberBelow 4 = .ok (.iconst 2, 1) := by decide +kernel
theorem dX8_isNumberBelow_5 : decode cX8_isNumberBelow 5 = .ok (.if_icmp .ne 15, 3) := by decide +kernel
theorem dX8_isNumberBelow_8 : decode cX8_isNumberBelow 8 = .ok (.aload_n 0, 1) := by decide +kernel
theorem dX8_isNumberBelow_9 : decode cX8_isNumberBelow 9 = .ok (.getfield 74, 3) := by decide +kernel
theorem dX8_isNumberBelow_12 : decode cX8_isNumberBelow 12 = .ok (.iload_n 1, 1) := by decide +kernel
theorem dX8_isNumberBelow_13 : decode cX8_isNumberBelow 13 = .ok (.if_icmp .ge 7, 3) := by decide +kernel
theorem dX8_isNumberBelow_16 : decode cX8_isNumberBelow 16 = .ok (.iconst 1, 1) := by decide +kernel
theorem dX8_isNumberBelow_17 : decode cX8_isNumberBelow 17 = .ok (.goto 4, 3) := by decide +kernel
theorem dX8_isNumberBelow_20 : decode cX8_isNumberBelow 20 = .ok (.iconst 0, 1) := by decide +kernel
theorem dX8_isNumberBelow_21 : decode cX8_isNumberBelow 21 = .ok (.ireturn, 1) := by decide +kernel
theorem dX8_isName_0 : decode cX8_isName 0 = .ok (.aload_n 0, 1) := by decide +kernel
theorem dX8_isName_1 : decode cX8_isName 1 = .ok (.getfield 41, 3) := by decide +kernel
theorem dX8_isName_4 : decode cX8_isName 4 = .ok (.iconst 1, 1) := by decide +kernel
theorem dX8_isName_5 : decode cX8_isName 5 = .ok (.if_icmp .ne 19, 3) := by decide +kernel
theorem dX8_isName_8 : decode cX8_isName 8 = .ok (.aload_n 0, 1) := by decide +kernel
theorem dX8_isName_9 : decode cX8_isName 9 = .ok (.getfield 35, 3) := by decide +kernel
theorem dX8_isName_12 : decode cX8_isName 12 = .ok (.aload_n 0, 1) := by decide +kernel
theorem dX8_isName_13 : decode cX8_isName 13 = .ok (.getfield 48, 3) := by decide +kernel
theorem dX8_isName_16 : decode cX8_isName 16 = .ok (.isub, 1) := by decide +kernel
theorem dX8_isName_17 : decode cX8_isName 17 = .ok (.aload_n 1, 1) := by decide +kernel
theorem dX8_isName_18 : decode cX8_isName 18 = .ok (.invokevirtual 92, 3) := by decide +kernel
theorem dX8_isName_21 : decode cX8_isName 21 = .ok (.if_icmp .eq 5, 3) := by decide +kernel
theorem dX8_isName_24 : decode cX8_isName 24 = .ok (.iconst 0, 1) := by decide +kernel
theorem dX8_isName_25 : decode cX8_isName 25 = .ok (.ireturn, 1) := by decide +kernel
theorem dX8_isName_26 : decode cX8_isName 26 = .ok (.iconst 0, 1) := by decide +kernel
theorem dX8_isName_27 : decode cX8_isName 27 = .ok (.istore_n 2, 1) := by decide +kernel
theorem dX8_isName_28 : decode cX8_isName 28 = .ok (.iload_n 2, 1) := by decide +kernel
theorem dX8_isName_29 : decode cX8_isName 29 = .ok (.aload_n 1, 1) := by decide +kernel
theorem dX8_isName_30 : decode cX8_isName 30 = .ok (.invokevirtual 92, 3) := by decide +kernel
theorem dX8_isName_33 : decode cX8_isName 33 = .ok (.if_icmp .ge 30, 3) := by decide +kernel
theorem dX8_isName_36 : decode cX8_isName 36 = .ok (.aload_n 0, 1) := by decide +kernel
theorem dX8_isName_37 : decode cX8_isName 37 = .ok (.getfield 9, 3) := by decide +kernel
theorem dX8_isName_40 : decode cX8_isName 40 = .ok (.aload_n 0, 1) := by decide +kernel
theorem dX8_isName_41 : decode cX8_isName 41 = .ok (.getfield 48, 3) := by decide +kernel
theorem dX8_isName_44 : decode cX8_isName 44 = .ok (.iload_n 2, 1) := by decide +kernel
theorem dX8_isName_45 : decode cX8_isName 45 = .ok (.iadd, 1) := by decide +kernel
theorem dX8_isName_46 : decode cX8_isName 46 = .ok (.iaload, 1) := by decide +kernel
theorem dX8_isName_47 : decode cX8_isName 47 = .ok (.aload_n 1, 1) := by decide +kernel
theorem dX8_isName_48 : decode cX8_isName 48 = .ok (.iload_n 2, 1) := by decide +kernel
theorem dX8_isName_49 : decode cX8_isName 49 = .ok (.invokevirtual 96, 3) := by decide +kernel
theorem dX8_isName_52 : decode cX8_isName 52 = .ok (.if_icmp .eq 5, 3) := by decide +kernel
theorem dX8_isName_55 : decode cX8_isName 55 = .ok (.iconst 0, 1) := by decide +kernel
theorem dX8_isName_56 : decode cX8_isName 56 = .ok (.ireturn, 1) := by decide +kernel
theorem dX8_isName_57 : decode cX8_isName 57 = .ok (.iinc 2 1, 3) := by decide +kernel
theorem dX8_isName_60 : decode cX8_isName 60 = .ok (.goto (-32), 3) := by decide +kernel
theorem dX8_isName_63 : decode cX8_isName 63 = .ok (.iconst 1, 1) := by decide +kernel
theorem dX8_isName_64 : decode cX8_isName 64 = .ok (.ireturn, 1) := by decide +kernel
theorem dX8_goOn_0 : decode cX8_goOn 0 = .ok (.aload_n 0, 1) := by decide +kernel
theorem dX8_goOn_1 : decode cX8_goOn 1 = .ok (.aload_n 0, 1) := by decide +kernel
theorem dX8_goOn_2 : decode cX8_goOn 2 = .ok (.getfield 35, 3) := by decide +kernel
theorem dX8_goOn_5 : decode cX8_goOn 5 = .ok (.putfield 48, 3) := by decide +kernel
theorem dX8_goOn_8 : decode cX8_goOn 8 = .ok (.aload_n 0, 1) := by decide +kernel
theorem dX8_goOn_9 : decode cX8_goOn 9 = .ok (.getfield 48, 3) := by decide +kernel
theorem dX8_goOn_12 : decode cX8_goOn 12 = .ok (.aload_n 0, 1) := by decide +kernel
theorem dX8_goOn_13 : decode cX8_goOn 13 = .ok (.getfield 22, 3) := by decide +kernel
theorem dX8_goOn_16 : decode cX8_goOn 16 = .ok (.if_icmp .ge 30, 3) := by decide +kernel
theorem dX8_goOn_19 : decode cX8_goOn 19 = .ok (.aload_n 0, 1) := by decide +kernel
theorem dX8_goOn_20 : decode cX8_goOn 20 = .ok (.getfield 9, 3) := by decide +kernel
theorem dX8_goOn_23 : decode cX8_goOn 23 = .ok (.aload_n 0, 1) := by decide +kernel
theorem dX8_goOn_24 : decode cX8_goOn 24 = .ok (.getfield 48, 3) := by decide +kernel
theorem dX8_goOn_27 : decode cX8_goOn 27 = .ok (.iaload, 1) := by decide +kernel
theorem dX8_goOn_28 : decode cX8_goOn 28 = .ok (.bipush 32, 2) := by decide +kernel
theorem dX8_goOn_30 : decode cX8_goOn 30 = .ok (.if_icmp .ne 16, 3) := by decide +kernel
theorem dX8_goOn_33 : decode cX8_goOn 33 = .ok (.aload_n 0, 1) := by decide +kernel
theorem dX8_goOn_34 : decode cX8_goOn 34 = .ok (.dup, 1) := by decide +kernel
theorem dX8_goOn_35 : decode cX8_goOn 35 = .ok (.getfield 48, 3) := by decide +kernel
theorem dX8_goOn_38 : decode cX8_goOn 38 = .ok (.iconst 1, 1) := by decide +kernel
theorem dX8_goOn_39 : decode cX8_goOn 39 = .ok (.iadd, 1) := by decide +kernel
theorem dX8_goOn_40 : decode cX8_goOn 40 = .ok (.putfield 48, 3) := by decide +kernel
theorem dX8_goOn_43 : decode cX8_goOn 43 = .ok (.goto (-35), 3) := by decide +kernel
theorem dX8_goOn_46 : decode cX8_goOn 46 = .ok (.aload_n 0, 1) := by decide +kernel
theorem dX8_goOn_47 : decode cX8_goOn 47 = .ok (.aload_n 0, 1) := by decide +kernel
theorem dX8_goOn_48 : decode cX8_goOn 48 = .ok (.getfield 48, 3) := by decide +kernel
theorem dX8_goOn_51 : decode cX8_goOn 51 = .ok (.putfield 35, 3) := by decide +kernel
theorem dX8_goOn_54 : decode cX8_goOn 54 = .ok (.aload_n 0, 1) := by decide +kernel
theorem dX8_goOn_55 : decode cX8_goOn 55 = .ok (.iconst 0, 1) := by decide +kernel
theorem dX8_goOn_56 : decode cX8_goOn 56 = .ok (.putfield 74, 3) := by decide +kernel
theorem dX8_goOn_59 : decode cX8_goOn 59 = .ok (.aload_n 0, 1) := by decide +kernel
theorem dX8_goOn_60 : decode cX8_goOn 60 = .ok (.getfield 48, 3) := by decide +kernel
theorem dX8_goOn_63 : decode cX8_goOn 63 = .ok (.aload_n 0, 1) := by decide +kernel
theorem dX8_goOn_64 : decode cX8_goOn 64 = .ok (.getfield 22, 3) := by decide +kernel
theorem dX8_goOn_67 : decode cX8_goOn 67 = .ok (.if_icmp .lt 11, 3) := by decide +kernel
theorem dX8_goOn_70 : decode cX8_goOn 70 = .ok (.aload_n 0, 1) := by decide +kernel
theorem dX8_goOn_71 : decode cX8_goOn 71 = .ok (.iconst 0, 1) := by decide +kernel
theorem dX8_goOn_72 : decode cX8_goOn 72 = .ok (.putfield 41, 3) := by decide +kernel
theorem dX8_goOn_75 : decode cX8_goOn 75 = .ok (.goto 80, 3) := by decide +kernel
theorem dX8_goOn_78 : decode cX8_goOn 78 = .ok (.aload_n 0, 1) := by decide +kernel
theorem dX8_goOn_79 : decode cX8_goOn 79 = .ok (.getfield 9, 3) := by decide +kernel
theorem dX8_goOn_82 : decode cX8_goOn 82 = .ok (.aload_n 0, 1) := by decide +kernel
theorem dX8_goOn_83 : decode cX8_goOn 83 = .ok (.getfield 48, 3) := by decide +kernel
theorem dX8_goOn_86 : decode cX8_goOn 86 = .ok (.iaload, 1) := by decide +kernel
theorem dX8_goOn_87 : decode cX8_goOn 87 = .ok (.invokestatic 100, 3) := by decide +kernel
theorem dX8_goOn_90 : decode cX8_goOn 90 = .ok (.ifCond .eq 10, 3) := by decide +kernel
theorem dX8_goOn_93 : decode cX8_goOn 93 = .ok (.aload_n 0, 1) := by decide +kernel
theorem dX8_goOn_94 : decode cX8_goOn 94 = .ok (.invokevirtual 103, 3) := by decide +kernel
theorem dX8_goOn_97 : decode cX8_goOn 97 = .ok (.goto 58, 3) := by decide +kernel
theorem dX8_goOn_100 : decode cX8_goOn 100 = .ok (.aload_n 0, 1) := by decide +kernel
theorem dX8_goOn_101 : decode cX8_goOn 101 = .ok (.getfield 9, 3) := by decide +kernel
theorem dX8_goOn_104 : decode cX8_goOn 104 = .ok (.aload_n 0, 1) := by decide +kernel
theorem dX8_goOn_105 : decode cX8_goOn 105 = .ok (.getfield 48, 3) := by decide +kernel
theorem dX8_goOn_108 : decode cX8_goOn 108 = .ok (.iaload, 1) := by decide +kernel
theorem dX8_goOn_109 : decode cX8_goOn 109 = .ok (.invokestatic 106, 3) := by decide +kernel
theorem dX8_goOn_112 : decode cX8_goOn 112 = .ok (.ifCond .eq 10, 3) := by decide +kernel
theorem dX8_goOn_115 : decode cX8_goOn 115 = .ok (.aload_n 0, 1) := by decide +kernel
theorem dX8_goOn_116 : decode cX8_goOn 116 = .ok (.invokevirtual 109, 3) := by decide +kernel
theorem dX8_goOn_119 : decode cX8_goOn 119 = .ok (.goto 36, 3) := by decide +kernel
theorem dX8_goOn_122 : decode cX8_goOn 122 = .ok (.aload_n 0, 1) := by decide +kernel
theorem dX8_goOn_123 : decode cX8_goOn 123 = .ok (.aload_n 0, 1) := by decide +kernel
theorem dX8_goOn_124 : decode cX8_goOn 124 = .ok (.getfield 9, 3) := by decide +kernel
theorem dX8_goOn_127 : decode cX8_goOn 127 = .ok (.aload_n 0, 1) := by decide +kernel
theorem dX8_goOn_128 : decode cX8_goOn 128 = .ok (.getfield 48, 3) := by decide +kernel
theorem dX8_goOn_131 : decode cX8_goOn 131 = .ok (.iaload, 1) := by decide +kernel
theorem dX8_goOn_132 : decode cX8_goOn 132 = .ok (.bipush 59, 2) := by decide +kernel
theorem dX8_goOn_134 : decode cX8_goOn 134 = .ok (.if_icmp .ne 7, 3) := by decide +kernel
theorem dX8_goOn_137 : decode cX8_goOn 137 = .ok (.iconst 3, 1) := by decide +kernel
theorem dX8_goOn_138 : decode cX8_goOn 138 = .ok (.goto 4, 3) := by decide +kernel
theorem dX8_goOn_141 : decode cX8_goOn 141 = .ok (.iconst 4, 1) := by decide +kernel
theorem dX8_goOn_142 : decode cX8_goOn 142 = .ok (.putfield 41, 3) := by decide +kernel
theorem dX8_goOn_145 : decode cX8_goOn 145 = .ok (.aload_n 0, 1) := by decide +kernel
theorem dX8_goOn_146 : decode cX8_goOn 146 = .ok (.dup, 1) := by decide +kernel
theorem dX8_goOn_147 : decode cX8_goOn 147 = .ok (.getfield 35, 3) := by decide +kernel
theorem dX8_goOn_150 : decode cX8_goOn 150 = .ok (.iconst 1, 1) := by decide +kernel
theorem dX8_goOn_151 : decode cX8_goOn 151 = .ok (.iadd, 1) := by decide +kernel
theorem dX8_goOn_152 : decode cX8_goOn 152 = .ok (.putfield 35, 3) := by decide +kernel
theorem dX8_goOn_155 : decode cX8_goOn 155 = .ok (.return_, 1) := by decide +kernel
theorem dX8_goOverLetters_0 : decode cX8_goOverLetters 0 = .ok (.aload_n 0, 1) := by decide +kernel
theorem dX8_goOverLetters_1 : decode cX8_goOverLetters 1 = .ok (.iconst 1, 1) := by decide +kernel
theorem dX8_goOverLetters_2 : decode cX8_goOverLetters 2 = .ok (.putfield 41, 3) := by decide +kernel
theorem dX8_goOverLetters_5 : decode cX8_goOverLetters 5 = .ok (.aload_n 0, 1) := by decide +kernel
theorem dX8_goOverLetters_6 : decode cX8_goOverLetters 6 = .ok (.getfield 35, 3) := by decide +kernel
theorem dX8_goOverLetters_9 : decode cX8_goOverLetters 9 = .ok (.aload_n 0, 1) := by decide +kernel
theorem dX8_goOverLetters_10 : decode cX8_goOverLetters 10 = .ok (.getfield 22, 3) := by decide +kernel
theorem dX8_goOverLetters_13 : decode cX8_goOverLetters 13 = .ok (.if_icmp .ge 31, 3) := by decide +kernel
theorem dX8_goOverLetters_16 : decode cX8_goOverLetters 16 = .ok (.aload_n 0, 1) := by decide +kernel
theorem dX8_goOverLetters_17 : decode cX8_goOverLetters 17 = .ok (.getfield 9, 3) := by decide +kernel
theorem dX8_goOverLetters_20 : decode cX8_goOverLetters 20 = .ok (.aload_n 0, 1) := by decide +kernel
theorem dX8_goOverLetters_21 : decode cX8_goOverLetters 21 = .ok (.getfield 35, 3) := by decide +kernel
theorem dX8_goOverLetters_24 : decode cX8_goOverLetters 24 = .ok (.iaload, 1) := by decide +kernel
theorem dX8_goOverLetters_25 : decode cX8_goOverLetters 25 = .ok (.invokestatic 100, 3) := by decide +kernel
theorem dX8_goOverLetters_28 : decode cX8_goOverLetters 28 = .ok (.ifCond .eq 16, 3) := by decide +kernel
theorem dX8_goOverLetters_31 : decode cX8_goOverLetters 31 = .ok (.aload_n 0, 1) := by decide +kernel
theorem dX8_goOverLetters_32 : decode cX8_goOverLetters 32 = .ok (.dup, 1) := by decide +kernel
theorem dX8_goOverLetters_33 : decode cX8_goOverLetters 33 = .ok (.getfield 35, 3) := by decide +kernel
theorem dX8_goOverLetters_36 : decode cX8_goOverLetters 36 = .ok (.iconst 1, 1) := by decide +kernel
theorem dX8_goOverLetters_37 : decode cX8_goOverLetters 37 = .ok (.iadd, 1) := by decide +kernel
theorem dX8_goOverLetters_38 : decode cX8_goOverLetters 38 = .ok (.putfield 35, 3) := by decide +kernel
theorem dX8_goOverLetters_41 : decode cX8_goOverLetters 41 = .ok (.goto (-36), 3) := by decide +kernel
theorem dX8_goOverLetters_44 : decode cX8_goOverLetters 44 = .ok (.return_, 1) := by decide +kernel
theorem dX8_goOverFigures_0 : decode cX8_goOverFigures 0 = .ok (.aload_n 0, 1) := by decide +kernel
theorem dX8_goOverFigures_1 : decode cX8_goOverFigures 1 = .ok (.getfield 35, 3) := by decide +kernel
theorem dX8_goOverFigures_4 : decode cX8_goOverFigures 4 = .ok (.aload_n 0, 1) := by decide +kernel
theorem dX8_goOverFigures_5 : decode cX8_goOverFigures 5 = .ok (.getfield 22, 3) := by decide +kernel
theorem dX8_goOverFigures_8 : decode cX8_goOverFigures 8 = .ok (.if_icmp .ge 55, 3) := by decide +kernel
theorem dX8_goOverFigures_11 : decode cX8_goOverFigures 11 = .ok (.aload_n 0, 1) := by decide +kernel
theorem dX8_goOverFigures_12 : decode cX8_goOverFigures 12 = .ok (.getfield 9, 3) := by decide +kernel
theorem dX8_goOverFigures_15 : decode cX8_goOverFigures 15 = .ok (.aload_n 0, 1) := by decide +kernel
theorem dX8_goOverFigures_16 : decode cX8_goOverFigures 16 = .ok (.getfield 35, 3) := by decide +kernel
theorem dX8_goOverFigures_19 : decode cX8_goOverFigures 19 = .ok (.iaload, 1) := by decide +kernel
theorem dX8_goOverFigures_20 : decode cX8_goOverFigures 20 = .ok (.invokestatic 106, 3) := by decide +kernel
theorem dX8_goOverFigures_23 : decode cX8_goOverFigures 23 = .ok (.ifCond .eq 40, 3) := by decide +kernel
theorem dX8_goOverFigures_26 : decode cX8_goOverFigures 26 = .ok (.aload_n 0, 1) := by decide +kernel
theorem dX8_goOverFigures_27 : decode cX8_goOverFigures 27 = .ok (.aload_n 0, 1) := by decide +kernel
theorem dX8_goOverFigures_28 : decode cX8_goOverFigures 28 = .ok (.getfield 74, 3) := by decide +kernel
theorem dX8_goOverFigures_31 : decode cX8_goOverFigures 31 = .ok (.bipush 10, 2) := by decide +kernel
theorem dX8_goOverFigures_33 : decode cX8_goOverFigures 33 = .ok (.imul, 1) := by decide +kernel
theorem dX8_goOverFigures_34 : decode cX8_goOverFigures 34 = .ok (.aload_n 0, 1) := by decide +kernel
theorem dX8_goOverFigures_35 : decode cX8_goOverFigures 35 = .ok (.getfield 9, 3) := by decide +kernel
theorem dX8_goOverFigures_38 : decode cX8_goOverFigures 38 = .ok (.aload_n 0, 1) := by decide +kernel
theorem dX8_goOverFigures_39 : decode cX8_goOverFigures 39 = .ok (.getfield 35, 3) := by decide +kernel
theorem dX8_goOverFigures_42 : decode cX8_goOverFigures 42 = .ok (.iaload, 1) := by decide +kernel
theorem dX8_goOverFigures_43 : decode cX8_goOverFigures 43 = .ok (.iadd, 1) := by decide +kernel
theorem dX8_goOverFigures_44 : decode cX8_goOverFigures 44 = .ok (.bipush 48, 2) := by decide +kernel
theorem dX8_goOverFigures_46 : decode cX8_goOverFigures 46 = .ok (.isub, 1) := by decide +kernel
theorem dX8_goOverFigures_47 : decode cX8_goOverFigures 47 = .ok (.putfield 74, 3) := by decide +kernel
theorem dX8_goOverFigures_50 : decode cX8_goOverFigures 50 = .ok (.aload_n 0, 1) := by decide +kernel
theorem dX8_goOverFigures_51 : decode cX8_goOverFigures 51 = .ok (.dup, 1) := by decide +kernel
theorem dX8_goOverFigures_52 : decode cX8_goOverFigures 52 = .ok (.getfield 35, 3) := by decide +kernel
theorem dX8_goOverFigures_55 : decode cX8_goOverFigures 55 = .ok (.iconst 1, 1) := by decide +kernel
theorem dX8_goOverFigures_56 : decode cX8_goOverFigures 56 = .ok (.iadd, 1) := by decide +kernel
theorem dX8_goOverFigures_57 : decode cX8_goOverFigures 57 = .ok (.putfield 35, 3) := by decide +kernel
theorem dX8_goOverFigures_60 : decode cX8_goOverFigures 60 = .ok (.goto (-60), 3) := by decide +kernel
theorem dX8_goOverFigures_63 : decode cX8_goOverFigures 63 = .ok (.aload_n 0, 1) := by decide +kernel
theorem dX8_goOverFigures_64 : decode cX8_goOverFigures 64 = .ok (.aload_n 0, 1) := by decide +kernel
theorem dX8_goOverFigures_65 : decode cX8_goOverFigures 65 = .ok (.getfield 35, 3) := by decide +kernel
theorem dX8_goOverFigures_68 : decode cX8_goOverFigures 68 = .ok (.aload_n 0, 1) := by decide +kernel
theorem dX8_goOverFigures_69 : decode cX8_goOverFigures 69 = .ok (.getfield 48, 3) := by decide +kernel
theorem dX8_goOverFigures_72 : decode cX8_goOverFigures 72 = .ok (.isub, 1) := by decide +kernel
theorem dX8_goOverFigures_73 : decode cX8_goOverFigures 73 = .ok (.iconst 2, 1) := by decide +kernel
theorem dX8_goOverFigures_74 : decode cX8_goOverFigures 74 = .ok (.if_icmp .gt 7, 3) := by decide +kernel
theorem dX8_goOverFigures_77 : decode cX8_goOverFigures 77 = .ok (.iconst 2, 1) := by decide +kernel
theorem dX8_goOverFigures_78 : decode cX8_goOverFigures 78 = .ok (.goto 4, 3) := by decide +kernel
theorem dX8_goOverFigures_81 : decode cX8_goOverFigures 81 = .ok (.iconst 4, 1) := by decide +kernel
theorem dX8_goOverFigures_82 : decode cX8_goOverFigures 82 = .ok (.putfield 41, 3) := by decide +kernel
theorem dX8_goOverFigures_85 : decode cX8_goOverFigures 85 = .ok (.return_, 1) := by decide +kernel
theorem dX8_isLetter_0 : decode cX8_isLetter 0 = .ok (.iload_n 0, 1) := by decide +kernel
theorem dX8_isLetter_1 : decode cX8_isLetter 1 = .ok (.bipush 97, 2) := by decide +kernel
theorem dX8_isLetter_3 : decode cX8_isLetter 3 = .ok (.if_icmp .lt 13, 3) := by decide +kernel
theorem dX8_isLetter_6 : decode cX8_isLetter 6 = .ok (.iload_n 0, 1) := by decide +kernel
theorem dX8_isLetter_7 : decode cX8_isLetter 7 = .ok (.bipush 122, 2) := by decide +kernel
theorem dX8_isLetter_9 : decode cX8_isLetter 9 = .ok (.if_icmp .gt 7, 3) := by decide +kernel
theorem dX8_isLetter_12 : decode cX8_isLetter 12 = .ok (.iconst 1, 1) := by decide +kernel
theorem dX8_isLetter_13 : decode cX8_isLetter 13 = .ok (.goto 4, 3) := by decide +kernel
theorem dX8_isLetter_16 : decode cX8_isLetter 16 = .ok (.iconst 0, 1) := by decide +kernel
theorem dX8_isLetter_17 : decode cX8_isLetter 17 = .ok (.ireturn, 1) := by decide +kernel
theorem dX8_isFigure_0 : decode cX8_isFigure 0 = .ok (.iload_n 0, 1) := by decide +kernel
theorem dX8_isFigure_1 : decode cX8_isFigure 1 = .ok (.bipush 48, 2) := by decide +kernel
theorem dX8_isFigure_3 : decode cX8_isFigure 3 = .ok (.if_icmp .lt 13, 3) := by decide +kernel
theorem dX8_isFigure_6 : decode cX8_isFigure 6 = .ok (.iload_n 0, 1) := by decide +kernel
theorem dX8_isFigure_7 : decode cX8_isFigure 7 = .ok (.bipush 57, 2) := by decide +kernel
theorem dX8_isFigure_9 : decode cX8_isFigure 9 = .ok (.if_icmp .gt 7, 3) := by decide +kernel
theorem dX8_isFigure_12 : decode cX8_isFigure 12 = .ok (.iconst 1, 1) := by decide +kernel
theorem dX8_isFigure_13 : decode cX8_isFigure 13 = .ok (.goto 4, 3) := by decide +kernel
theorem dX8_isFigure_16 : decode cX8_isFigure 16 = .ok (.iconst 0, 1) := by decide +kernel
theorem dX8_isFigure_17 : decode cX8_isFigure 17 = .ok (.ireturn, 1) := by decide +kernel
theorem dX9_init_0 : decode cX9_init 0 = .ok (.aload_n 0, 1) := by decide +kernel
theorem dX9_init_1 : decode cX9_init 1 = .ok (.invokespecial 3, 3) := by decide +kernel
theorem dX9_init_4 : decode cX9_init 4 = .ok (.aload_n 0, 1) := by decide +kernel
theorem dX9_init_5 : decode cX9_init 5 = .ok (.new 9, 3) := by decide +kernel
theorem dX9_init_8 : decode cX9_init 8 = .ok (.dup, 1) := by decide +kernel
theorem dX9_init_9 : decode cX9_init 9 = .ok (.invokespecial 11, 3) := by decide +kernel
theorem dX9_init_12 : decode cX9_init 12 = .ok (.putfield 12, 3) := by decide +kernel
theorem dX9_init_15 : decode cX9_init 15 = .ok (.aload_n 0, 1) := by decide +kernel
theorem dX9_init_16 : decode cX9_init 16 = .ok (.new 18, 3) := by decide +kernel
theorem dX9_init_19 : decode cX9_init 19 = .ok (.dup, 1) := by decide +kernel
theorem dX9_init_20 : decode cX9_init 20 = .ok (.invokespecial 20, 3) := by decide +kernel
theorem dX9_init_23 : decode cX9_init 23 = .ok (.putfield 21, 3) := by decide +kernel
theorem dX9_init_26 : decode cX9_init 26 = .ok (.aload_n 0, 1) := by decide +kernel
theorem dX9_init_27 : decode cX9_init 27 = .ok (.bipush 6, 2) := by decide +kernel
theorem dX9_init_29 : decode cX9_init 29 = .ok (.newarray .int, 2) := by decide +kernel
theorem dX9_init_31 : decode cX9_init 31 = .ok (.putfield 25, 3) := by decide +kernel
theorem dX9_init_34 : decode cX9_init 34 = .ok (.aload_n 0, 1) := by decide +kernel
theorem dX9_init_35 : decode cX9_init 35 = .ok (.iconst 4, 1) := by decide +kernel
theorem dX9_init_36 : decode cX9_init 36 = .ok (.newarray .int, 2) := by decide +kernel
theorem dX9_init_38 : decode cX9_init 38 = .ok (.putfield 29, 3) := by decide +kernel
theorem dX9_init_41 : decode cX9_init 41 = .ok (.aload_n 0, 1) := by decide +kernel
theorem dX9_init_42 : decode cX9_init 42 = .ok (.bipush 8, 2) := by decide +kernel
theorem dX9_init_44 : decode cX9_init 44 = .ok (.newarray .int, 2) := by decide +kernel
theorem dX9_init_46 : decode cX9_init 46 = .ok (.putfield 32, 3) := by decide +kernel
theorem dX9_init_49 : decode cX9_init 49 = .ok (.aload_n 0, 1) := by decide +kernel
theorem dX9_init_50 : decode cX9_init 50 = .ok (.bipush 8, 2) := by decide +kernel
theorem dX9_init_52 : decode cX9_init 52 = .ok (.newarray .int, 2) := by decide +kernel
theorem dX9_init_54 : decode cX9_init 54 = .ok (.putfield 35, 3) := by decide +kernel
theorem dX9_init_57 : decode cX9_init 57 = .ok (.return_, 1) := by decide +kernel
theorem dX9_take_0 : decode cX9_take 0 = .ok (.aload_n 0, 1) := by decide +kernel
theorem dX9_take_1 : decode cX9_take 1 = .ok (.getfield 12, 3) := by decide +kernel
theorem dX9_take_4 : decode cX9_take 4 = .ok (.aload_n 1, 1) := by decide +kernel
theorem dX9_take_5 : decode cX9_take 5 = .ok (.getfield 12, 3) := by decide +kernel
theorem dX9_take_8 : decode cX9_take 8 = .ok (.invokevirtual 38, 3) := by decide +kernel
theorem dX9_take_11 : decode cX9_take 11 = .ok (.aload_n 0, 1) := by decide +kernel
theorem dX9_take_12 : decode cX9_take 12 = .ok (.getfield 21, 3) := by decide +kernel
theorem dX9_take_15 : decode cX9_take 15 = .ok (.aload_n 1, 1) := by decide +kernel
theorem dX9_take_16 : decode cX9_take 16 = .ok (.getfield 21, 3) := by decide +kernel
theorem dX9_take_19 : decode cX9_take 19 = .ok (.invokevirtual 42, 3) := by decide +kernel
theorem dX9_take_22 : decode cX9_take 22 = .ok (.aload_n 0, 1) := by decide +kernel
theorem dX9_take_23 : decode cX9_take 23 = .ok (.aload_n 1, 1) := by decide +kernel
theorem dX9_take_24 : decode cX9_take 24 = .ok (.getfield 45, 3) := by decide +kernel
theorem dX9_take_27 : decode cX9_take 27 = .ok (.putfield 45, 3) := by decide +kernel
theorem dX9_take_30 : decode cX9_take 30 = .ok (.aload_n 1, 1) := by decide +kernel
theorem dX9_take_31 : decode cX9_take 31 = .ok (.getfield 25, 3) := by decide +kernel
theorem dX9_take_34 : decode cX9_take 34 = .ok (.iconst 0, 1) := by decide +kernel
theorem dX9_take_35 : decode cX9_take 35 = .ok (.aload_n 0, 1) := by decide +kernel
theorem dX9_take_36 : decode cX9_take 36 = .ok (.getfield 25, 3) := by decide +kernel
theorem dX9_take_39 : decode cX9_take 39 = .ok (.iconst 0, 1) := by decide +kernel
theorem dX9_take_40 : decode cX9_take 40 = .ok (.aload_n 0, 1) := by decide +kernel
theorem dX9_take_41 : decode cX9_take 41 = .ok (.getfield 25, 3) := by decide +kernel
theorem dX9_take_44 : decode cX9_take 44 = .ok (.arraylength, 1) := by decide +kernel
theorem dX9_take_45 : decode cX9_take 45 = .ok (.invokestatic 49, 3) := by decide +kernel
theorem dX9_take_48 : decode cX9_take 48 = .ok (.aload_n 0, 1) := by decide +kernel
theorem dX9_take_49 : decode cX9_take 49 = .ok (.aload_n 1, 1) := by decide +kernel
theorem dX9_take_50 : decode cX9_take 50 = .ok (.getfield 55, 3) := by decide +kernel
theorem dX9_take_53 : decode cX9_take 53 = .ok (.putfield 55, 3) := by decide +kernel
theorem dX9_take_56 : decode cX9_take 56 = .ok (.aload_n 1, 1) := by decide +kernel
theorem dX9_take_57 : decode cX9_take 57 = .ok (.getfield 29, 3) := by decide +kernel
theorem dX9_take_60 : decode cX9_take 60 = .ok (.iconst 0, 1) := by decide +kernel
theorem dX9_take_61 : decode cX9_take 61 = .ok (.aload_n 0, 1) := by decide +kernel
theorem dX9_take_62 : decode cX9_take 62 = .ok (.getfield 29, 3) := by decide +kernel
theorem dX9_take_65 : decode cX9_take 65 = .ok (.iconst 0, 1) := by decide +kernel
theorem dX9_take_66 : decode cX9_take 66 = .ok (.aload_n 0, 1) := by decide +kernel
theorem dX9_take_67 : decode cX9_take 67 = .ok (.getfield 29, 3) := by decide +kernel
theorem dX9_take_70 : decode cX9_take 70 = .ok (.arraylength, 1) := by decide +kernel
theorem dX9_take_71 : decode cX9_take 71 = .ok (.invokestatic 49, 3) := by decide +kernel
theorem dX9_take_74 : decode cX9_take 74 = .ok (.aload_n 0, 1) := by decide +kernel
theorem dX9_take_75 : decode cX9_take 75 = .ok (.aload_n 1, 1) := by decide +kernel
theorem dX9_take_76 : decode cX9_take 76 = .ok (.getfield 58, 3) := by decide +kernel
theorem dX9_take_79 : decode cX9_take 79 = .ok (.putfield 58, 3) := by decide +kernel
theorem dX9_take_82 : decode cX9_take 82 = .ok (.aload_n 1, 1) := by decide +kernel
theorem dX9_take_83 : decode cX9_take 83 = .ok (.getfield 32, 3) := by decide +kernel
theorem dX9_take_86 : decode cX9_take 86 = .ok (.iconst 0, 1) := by decide +kernel
theorem dX9_take_87 : decode cX9_take 87 = .ok (.aload_n 0, 1) := by decide +kernel
theorem dX9_take_88 : decode cX9_take 88 = .ok (.getfield 32, 3) := by decide +kernel
theorem dX9_take_91 : decode cX9_take 91 = .ok (.iconst 0, 1) := by decide +kernel
theorem dX9_take_92 : decode cX9_take 92 = .ok (.aload_n 0, 1) := by decide +kernel
theorem dX9_take_93 : decode cX9_take 93 = .ok (.getfield 32, 3) := by decide +kernel
theorem dX9_take_96 : decode cX9_take 96 = .ok (.arraylength, 1) := by decide +kernel
theorem dX9_take_97 : decode cX9_take 97 = .ok (.invokestatic 49, 3) := by decide +kernel
theorem dX9_take_100 : decode cX9_take 100 = .ok (.aload_n 1, 1) := by decide +kernel
theorem dX9_take_101 : decode cX9_take 101 = .ok (.getfield 35, 3) := by decide +kernel
theorem dX9_take_104 : decode cX9_take 104 = .ok (.iconst 0, 1) := by decide +kernel
theorem dX9_take_105 : decode cX9_take 105 = .ok (.aload_n 0, 1) := by decide +kernel
theorem dX9_take_106 : decode cX9_take 106 = .ok (.getfield 35, 3) := by decide +kernel
theorem dX9_take_109 : decode cX9_take 109 = .ok (.iconst 0, 1) := by decide +kernel
theorem dX9_take_110 : decode cX9_take 110 = .ok (.aload_n 0, 1) := by decide +kernel
theorem dX9_take_111 : decode cX9_take 111 = .ok (.getfield 35, 3) := by decide +kernel
theorem dX9_take_114 : decode cX9_take 114 = .ok (.arraylength, 1) := by decide +kernel
theorem dX9_take_115 : decode cX9_take 115 = .ok (.invokestatic 49, 3) := by decide +kernel
theorem dX9_take_118 : decode cX9_take 118 = .ok (.aload_n 0, 1) := by decide +kernel
theorem dX9_take_119 : decode cX9_take 119 = .ok (.aload_n 1, 1) := by decide +kernel
theorem dX9_take_120 : decode cX9_take 120 = .ok (.getfield 61, 3) := by decide +kernel
theorem dX9_take_123 : decode cX9_take 123 = .ok (.putfield 61, 3) := by decide +kernel
theorem dX9_take_126 : decode cX9_take 126 = .ok (.return_, 1) := by decide +kernel
theorem dX10_init_0 : decode cX10_init 0 = .ok (.aload_n 0, 1) := by decide +kernel
theorem dX10_init_1 : decode cX10_init 1 = .ok (.invokespecial 3, 3) := by decide +kernel
theorem dX10_init_4 : decode cX10_init 4 = .ok (.aload_n 0, 1) := by decide +kernel
theorem dX10_init_5 : decode cX10_init 5 = .ok (.bipush 6, 2) := by decide +kernel
theorem dX10_init_7 : decode cX10_init 7 = .ok (.newarray .int, 2) := by decide +kernel
theorem dX10_init_9 : decode cX10_init 9 = .ok (.putfield 9, 3) := by decide +kernel
theorem dX10_init_12 : decode cX10_init 12 = .ok (.return_, 1) := by decide +kernel
theorem dX10_begin_0 : decode cX10_begin 0 = .ok (.aload_n 0, 1) := by decide +kernel
theorem dX10_begin_1 : decode cX10_begin 1 = .ok (.iload_n 1, 1) := by decide +kernel
theorem dX10_begin_2 : decode cX10_begin 2 = .ok (.aload_n 0, 1) := by decide +kernel
theorem dX10_begin_3 : decode cX10_begin 3 = .ok (.getfield 9, 3) := by decide +kernel
theorem dX10_begin_6 : decode cX10_begin 6 = .ok (.arraylength, 1) := by decide +kernel
theorem dX10_begin_7 : decode cX10_begin 7 = .ok (.invokestatic 15, 3) := by decide +kernel
theorem dX10_begin_10 : decode cX10_begin 10 = .ok (.putfield 21, 3) := by decide +kernel
theorem dX10_begin_13 : decode cX10_begin 13 = .ok (.aload_n 0, 1) := by decide +kernel
theorem dX10_begin_14 : decode cX10_begin 14 = .ok (.iconst 0, 1) := by decide +kernel
theorem dX10_begin_15 : decode cX10_begin 15 = .ok (.invokevirtual 25, 3) := by decide +kernel
theorem dX10_begin_18 : decode cX10_begin 18 = .ok (.return_, 1) := by decide +kernel
theorem dX10_step_0 : decode cX10_step 0 = .ok (.iload_n 1, 1) := by decide +kernel
theorem dX10_step_1 : decode cX10_step 1 = .ok (.aload_n 0, 1) := by decide +kernel
theorem dX10_step_2 : decode cX10_step 2 = .ok (.getfield 21, 3) := by decide +kernel
theorem dX10_step_5 : decode cX10_step 5 = .ok (.iconst 1, 1) := by decide +kernel
theorem dX10_step_6 : decode cX10_step 6 = .ok (.isub, 1) := by decide +kernel
theorem dX10_step_7 : decode cX10_step 7 = .ok (.invokestatic 15, 3) := by decide +kernel
theorem dX10_step_10 : decode cX10_step 10 = .ok (.istore_n 2, 1) := by decide +kernel
theorem dX10_step_11 : decode cX10_step 11 = .ok (.iload_n 2, 1) := by decide +kernel
theorem dX10_step_12 : decode cX10_step 12 = .ok (.ifCond .lt 42, 3) := by decide +kernel
theorem dX10_step_15 : decode cX10_step 15 = .ok (.aload_n 0, 1) := by decide +kernel
theorem dX10_step_16 : decode cX10_step 16 = .ok (.getfield 9, 3) := by decide +kernel
theorem dX10_step_19 : decode cX10_step 19 = .ok (.iload_n 2, 1) := by decide +kernel
theorem dX10_step_20 : decode cX10_step 20 = .ok (.iaload, 1) := by decide +kernel
theorem dX10_step_21 : decode cX10_step 21 = .ok (.aload_n 0, 1) := by decide +kernel
theorem dX10_step_22 : decode cX10_step 22 = .ok (.iload_n 2, 1) := by decide +kernel
theorem dX10_step_23 : decode cX10_step 23 = .ok (.invokevirtual 29, 3) := by decide +kernel
theorem dX10_step_26 : decode cX10_step 26 = .ok (.if_icmp .ge 22, 3) := by decide +kernel
theorem dX10_step_29 : decode cX10_step 29 = .ok (.aload_n 0, 1) := by decide +kernel
theorem dX10_step_30 : decode cX10_step 30 = .ok (.getfield 9, 3) := by decide +kernel
theorem dX10_step_33 : decode cX10_step 33 = .ok (.iload_n 2, 1) := by decide +kernel
theorem dX10_step_34 : decode cX10_step 34 = .ok (.dup2, 1) := by decide +kernel
theorem dX10_step_35 : decode cX10_step 35 = .ok (.iaload, 1) := by decide +kernel
theorem dX10_step_36 : decode cX10_step 36 = .ok (.iconst 1, 1) := by decide +kernel
theorem dX10_step_37 : decode cX10_step 37 = .ok (.iadd, 1) := by decide +kernel
theorem dX10_step_38 : decode cX10_step 38 = .ok (.iastore, 1) := by decide +kernel
theorem dX10_step_39 : decode cX10_step 39 = .ok (.aload_n 0, 1) := by decide +kernel
theorem dX10_step_40 : decode cX10_step 40 = .ok (.iload_n 2, 1) := by decide +kernel
theorem dX10_step_41 : decode cX10_step 41 = .ok (.iconst 1, 1) := by decide +kernel
theorem dX10_step_42 : decode cX10_step 42 = .ok (.iadd, 1) := by decide +kernel
theorem dX10_step_43 : decode cX10_step 43 = .ok (.invokevirtual 25, 3) := by decide +kernel
theorem dX10_step_46 : decode cX10_step 46 = .ok (.iconst 1, 1) := by decide +kernel
theorem dX10_step_47 : decode cX10_step 47 = .ok (.ireturn, 1) := by decide +kernel
theorem dX10_step_48 : decode cX10_step 48 = .ok (.iinc 2 (-1), 3) := by decide +kernel
theorem dX10_step_51 : decode cX10_step 51 = .ok (.goto (-40), 3) := by decide +kernel
theorem dX10_step_54 : decode cX10_step 54 = .ok (.iconst 0, 1) := by decide +kernel
theorem dX10_step_55 : decode cX10_step 55 = .ok (.ireturn, 1) := by decide +kernel
theorem dX10_number_0 : decode cX10_number 0 = .ok (.aload_n 0, 1) := by decide +kernel
theorem dX10_number_1 : decode cX10_number 1 = .ok (.getfield 9, 3) := by decide +kernel
theorem dX10_number_4 : decode cX10_number 4 = .ok (.aload_n 0, 1) := by decide +kernel
theorem dX10_number_5 : decode cX10_number 5 = .ok (.getfield 21, 3) := by decide +kernel
theorem dX10_number_8 : decode cX10_number 8 = .ok (.invokestatic 33, 3) := by decide +kernel
theorem dX10_number_11 : decode cX10_number 11 = .ok (.ireturn, 1) := by decide +kernel
theorem dX10_greatest_0 : decode cX10_greatest 0 = .ok (.iload_n 1, 1) := by decide +kernel
theorem dX10_greatest_1 : decode cX10_greatest 1 = .ok (.ifCond .ne 8, 3) := by decide +kernel
theorem dX10_greatest_4 : decode cX10_greatest 4 = .ok (.bipush 11, 2) := by decide +kernel
theorem dX10_greatest_6 : decode cX10_greatest 6 = .ok (.goto 22, 3) := by decide +kernel
theorem dX10_greatest_9 : decode cX10_greatest 9 = .ok (.bipush 11, 2) := by decide +kernel
theorem dX10_greatest_11 : decode cX10_greatest 11 = .ok (.aload_n 0, 1) := by decide +kernel
theorem dX10_greatest_12 : decode cX10_greatest 12 = .ok (.getfield 9, 3) := by decide +kernel
theorem dX10_greatest_15 : decode cX10_greatest 15 = .ok (.iload_n 1, 1) := by decide +kernel
theorem dX10_greatest_16 : decode cX10_greatest 16 = .ok (.iconst 1, 1) := by decide +kernel
theorem dX10_greatest_17 : decode cX10_greatest 17 = .ok (.isub, 1) := by decide +kernel
theorem dX10_greatest_18 : decode cX10_greatest 18 = .ok (.iaload, 1) := by decide +kernel
theorem dX10_greatest_19 : decode cX10_greatest 19 = .ok (.iconst 2, 1) := by decide +kernel
theorem dX10_greatest_20 : decode cX10_greatest 20 = .ok (.idiv, 1) := by decide +kernel
theorem dX10_greatest_21 : decode cX10_greatest 21 = .ok (.iconst 2, 1) := by decide +kernel
theorem dX10_greatest_22 : decode cX10_greatest 22 = .ok (.imul, 1) := by decide +kernel
theorem dX10_greatest_23 : decode cX10_greatest 23 = .ok (.iconst 3, 1) := by decide +kernel
theorem dX10_greatest_24 : decode cX10_greatest 24 = .ok (.iadd, 1) := by decide +kernel
theorem dX10_greatest_25 : decode cX10_greatest 25 = .ok (.invokestatic 15, 3) := by decide +kernel
theorem dX10_greatest_28 : decode cX10_greatest 28 = .ok (.ireturn, 1) := by decide +kernel
theorem dX10_closeBehind_0 : decode cX10_closeBehind 0 = .ok (.iload_n 1, 1) := by decide +kernel
theorem dX10_closeBehind_1 : decode cX10_closeBehind 1 = .ok (.istore_n 2, 1) := by decide +kernel
theorem dX10_closeBehind_2 : decode cX10_closeBehind 2 = .ok (.iload_n 2, 1) := by decide +kernel
theorem dX10_closeBehind_3 : decode cX10_closeBehind 3 = .ok (.aload_n 0, 1) := by decide +kernel
theorem dX10_closeBehind_4 : decode cX10_closeBehind 4 = .ok (.getfield 21, 3) := by decide +kernel
theorem dX10_closeBehind_7 : decode cX10_closeBehind 7 = .ok (.if_icmp .ge 41, 3) := by decide +kernel
theorem dX10_closeBehind_10 : decode cX10_closeBehind 10 = .ok (.aload_n 0, 1) := by decide +kernel
theorem dX10_closeBehind_11 : decode cX10_closeBehind 11 = .ok (.getfield 9, 3) := by decide +kernel
theorem dX10_closeBehind_14 : decode cX10_closeBehind 14 = .ok (.iload_n 2, 1) := by decide +kernel
theorem dX10_closeBehind_15 : decode cX10_closeBehind 15 = .ok (.iload_n 2, 1) := by decide +kernel
theorem dX10_closeBehind_16 : decode cX10_closeBehind 16 = .ok (.ifCond .ne 7, 3) := by decide +kernel
theorem dX10_closeBehind_19 : decode cX10_closeBehind 19 = .ok (.iconst 0, 1) := by decide +kernel
theorem dX10_closeBehind_20 : decode cX10_closeBehind 20 = .ok (.goto 21, 3) := by decide +kernel
theorem dX10_closeBehind_23 : decode cX10_closeBehind 23 = .ok (.iconst 0, 1) := by decide +kernel
theorem dX10_closeBehind_24 : decode cX10_closeBehind 24 = .ok (.aload_n 0, 1) := by decide +kernel
theorem dX10_closeBehind_25 : decode cX10_closeBehind 25 = .ok (.getfield 9, 3) := by decide +kernel
theorem dX10_closeBehind_28 : decode cX10_closeBehind 28 = .ok (.iload_n 2, 1) := by decide +kernel
theorem dX10_closeBehind_29 : decode cX10_closeBehind 29 = .ok (.iconst 1, 1) := by decide +kernel
theorem dX10_closeBehind_30 : decode cX10_closeBehind 30 = .ok (.isub, 1) := by decide +kernel
theorem dX10_closeBehind_31 : decode cX10_closeBehind 31 = .ok (.iaload, 1) := by decide +kernel
theorem dX10_closeBehind_32 : decode cX10_closeBehind 32 = .ok (.iconst 2, 1) := by decide +kernel
theorem dX10_closeBehind_33 : decode cX10_closeBehind 33 = .ok (.idiv, 1) := by decide +kernel
theorem dX10_closeBehind_34 : decode cX10_closeBehind 34 = .ok (.iconst 2, 1) := by decide +kernel
theorem dX10_closeBehind_35 : decode cX10_closeBehind 35 = .ok (.imul, 1) := by decide +kernel
theorem dX10_closeBehind_36 : decode cX10_closeBehind 36 = .ok (.iconst 2, 1) := by decide +kernel
theorem dX10_closeBehind_37 : decode cX10_closeBehind 37 = .ok (.isub, 1) := by decide +kernel
theorem dX10_closeBehind_38 : decode cX10_closeBehind 38 = .ok (.invokestatic 39, 3) := by decide +kernel
theorem dX10_closeBehind_41 : decode cX10_closeBehind 41 = .ok (.iastore, 1) := by decide +kernel
theorem dX10_closeBehind_42 : decode cX10_closeBehind 42 = .ok (.iinc 2 1, 3) := by decide +kernel
theorem dX10_closeBehind_45 : decode cX10_closeBehind 45 = .ok (.goto (-43), 3) := by decide +kernel
theorem dX10_closeBehind_48 : decode cX10_closeBehind 48 = .ok (.return_, 1) := by decide +kernel
theorem dX11_init_0 : decode cX11_init 0 = .ok (.aload_n 0, 1) := by decide +kernel
theorem dX11_init_1 : decode cX11_init 1 = .ok (.invokespecial 1, 3) := by decide +kernel
theorem dX11_init_4 : decode cX11_init 4 = .ok (.aload_n 0, 1) := by decide +kernel
theorem dX11_init_5 : decode cX11_init 5 = .ok (.new 7, 3) := by decide +kernel
theorem dX11_init_8 : decode cX11_init 8 = .ok (.dup, 1) := by decide +kernel
theorem dX11_init_9 : decode cX11_init 9 = .ok (.invokespecial 9, 3) := by decide +kernel
theorem dX11_init_12 : decode cX11_init 12 = .ok (.putfield 10, 3) := by decide +kernel
theorem dX11_init_15 : decode cX11_init 15 = .ok (.aload_n 0, 1) := by decide +kernel
theorem dX11_init_16 : decode cX11_init 16 = .ok (.iconst 2, 1) := by decide +kernel
theorem dX11_init_17 : decode cX11_init 17 = .ok (.anewarray 7, 3) := by decide +kernel
theorem dX11_init_20 : decode cX11_init 20 = .ok (.dup, 1) := by decide +kernel
theorem dX11_init_21 : decode cX11_init 21 = .ok (.iconst 0, 1) := by decide +kernel
theorem dX11_init_22 : decode cX11_init 22 = .ok (.new 7, 3) := by decide +kernel
theorem dX11_init_25 : decode cX11_init 25 = .ok (.dup, 1) := by decide +kernel
theorem dX11_init_26 : decode cX11_init 26 = .ok (.invokespecial 9, 3) := by decide +kernel
theorem dX11_init_29 : decode cX11_init 29 = .ok (.aastore, 1) := by decide +kernel
theorem dX11_init_30 : decode cX11_init 30 = .ok (.dup, 1) := by decide +kernel
theorem dX11_init_31 : decode cX11_init 31 = .ok (.iconst 1, 1) := by decide +kernel
theorem dX11_init_32 : decode cX11_init 32 = .ok (.new 7, 3) := by decide +kernel
theorem dX11_init_35 : decode cX11_init 35 = .ok (.dup, 1) := by decide +kernel
theorem dX11_init_36 : decode cX11_init 36 = .ok (.invokespecial 9, 3) := by decide +kernel
theorem dX11_init_39 : decode cX11_init 39 = .ok (.aastore, 1) := by decide +kernel
theorem dX11_init_40 : decode cX11_init 40 = .ok (.putfield 16, 3) := by decide +kernel
theorem dX11_init_43 : decode cX11_init 43 = .ok (.aload_n 0, 1) := by decide +kernel
theorem dX11_init_44 : decode cX11_init 44 = .ok (.iconst 2, 1) := by decide +kernel
theorem dX11_init_45 : decode cX11_init 45 = .ok (.newarray .boolean, 2) := by decide +kernel
theorem dX11_init_47 : decode cX11_init 47 = .ok (.putfield 20, 3) := by decide +kernel
theorem dX11_init_50 : decode cX11_init 50 = .ok (.aload_n 0, 1) := by decide +kernel
theorem dX11_init_51 : decode cX11_init 51 = .ok (.new 24, 3) := by decide +kernel
theorem dX11_init_54 : decode cX11_init 54 = .ok (.dup, 1) := by decide +kernel
theorem dX11_init_55 : decode cX11_init 55 = .ok (.invokespecial 26, 3) := by decide +kernel
theorem dX11_init_58 : decode cX11_init 58 = .ok (.putfield 27, 3) := by decide +kernel
theorem dX11_init_61 : decode cX11_init 61 = .ok (.aload_n 0, 1) := by decide +kernel
theorem dX11_init_62 : decode cX11_init 62 = .ok (.iconst 3, 1) := by decide +kernel
theorem dX11_init_63 : decode cX11_init 63 = .ok (.newarray .int, 2) := by decide +kernel
theorem dX11_init_65 : decode cX11_init 65 = .ok (.putfield 31, 3) := by decide +kernel
theorem dX11_init_68 : decode cX11_init 68 = .ok (.aload_n 0, 1) := by decide +kernel
theorem dX11_init_69 : decode cX11_init 69 = .ok (.iconst 5, 1) := by decide +kernel
theorem dX11_init_70 : decode cX11_init 70 = .ok (.anewarray 35, 3) := by decide +kernel
theorem dX11_init_73 : decode cX11_init 73 = .ok (.dup, 1) := by decide +kernel
theorem dX11_init_74 : decode cX11_init 74 = .ok (.iconst 0, 1) := by decide +kernel
theorem dX11_init_75 : decode cX11_init 75 = .ok (.new 35, 3) := by decide +kernel
theorem dX11_init_78 : decode cX11_init 78 = .ok (.dup, 1) := by decide +kernel
theorem dX11_init_79 : decode cX11_init 79 = .ok (.invokespecial 37, 3) := by decide +kernel
theorem dX11_init_82 : decode cX11_init 82 = .ok (.aastore, 1) := by decide +kernel
theorem dX11_init_83 : decode cX11_init 83 = .ok (.dup, 1) := by decide +kernel
theorem dX11_init_84 : decode cX11_init 84 = .ok (.iconst 1, 1) := by decide +kernel
theorem dX11_init_85 : decode cX11_init 85 = .ok (.new 38, 3) := by decide +kernel
theorem dX11_init_88 : decode cX11_init 88 = .ok (.dup, 1) := by decide +kernel
theorem dX11_init_89 : decode cX11_init 89 = .ok (.invokespecial 40, 3) := by decide +kernel
theorem dX11_init_92 : decode cX11_init 92 = .ok (.aastore, 1) := by decide +kernel
theorem dX11_init_93 : decode cX11_init 93 = .ok (.dup, 1) := by decide +kernel
theorem dX11_init_94 : decode cX11_init 94 = .ok (.iconst 2, 1) := by decide +kernel
theorem dX11_init_95 : decode cX11_init 95 = .ok (.new 41, 3) := by decide +kernel
theorem dX11_init_98 : decode cX11_init 98 = .ok (.dup, 1) := by decide +kernel
theorem dX11_init_99 : decode cX11_init 99 = .ok (.invokespecial 43, 3) := by decide +kernel
theorem dX11_init_102 : decode cX11_init 102 = .ok (.aastore, 1) := by decide +kernel
theorem dX11_init_103 : decode cX11_init 103 = .ok (.dup, 1) := by decide +kernel
theorem dX11_init_104 : decode cX11_init 104 = .ok (.iconst 3, 1) := by decide +kernel
theorem dX11_init_105 : decode cX11_init 105 = .ok (.new 44, 3) := by decide +kernel
theorem dX11_init_108 : decode cX11_init 108 = .ok (.dup, 1) := by decide +kernel
theorem dX11_init_109 : decode cX11_init 109 = .ok (.invokespecial 46, 3) := by decide +kernel
theorem dX11_init_112 : decode cX11_init 112 = .ok (.aastore, 1) := by decide +kernel
theorem dX11_init_113 : decode cX11_init 113 = .ok (.dup, 1) := by decide +kernel
theorem dX11_init_114 : decode cX11_init 114 = .ok (.iconst 4, 1) := by decide +kernel
theorem dX11_init_115 : decode cX11_init 115 = .ok (.new 47, 3) := by decide +kernel
theorem dX11_init_118 : decode cX11_init 118 = .ok (.dup, 1) := by decide +kernel
theorem dX11_init_119 : decode cX11_init 119 = .ok (.invokespecial 49, 3) := by decide +kernel
theorem dX11_init_122 : decode cX11_init 122 = .ok (.aastore, 1) := by decide +kernel
theorem dX11_init_123 : decode cX11_init 123 = .ok (.putfield 50, 3) := by decide +kernel
theorem dX11_init_126 : decode cX11_init 126 = .ok (.aload_n 0, 1) := by decide +kernel
theorem dX11_init_127 : decode cX11_init 127 = .ok (.new 54, 3) := by decide +kernel
theorem dX11_init_130 : decode cX11_init 130 = .ok (.dup, 1) := by decide +kernel
theorem dX11_init_131 : decode cX11_init 131 = .ok (.invokespecial 56, 3) := by decide +kernel
theorem dX11_init_134 : decode cX11_init 134 = .ok (.putfield 57, 3) := by decide +kernel
theorem dX11_init_137 : decode cX11_init 137 = .ok (.aload_n 0, 1) := by decide +kernel
theorem dX11_init_138 : decode cX11_init 138 = .ok (.bipush 6, 2) := by decide +kernel
theorem dX11_init_140 : decode cX11_init 140 = .ok (.newarray .int, 2) := by decide +kernel
theorem dX11_init_142 : decode cX11_init 142 = .ok (.putfield 61, 3) := by decide +kernel
theorem dX11_init_145 : decode cX11_init 145 = .ok (.aload_n 0, 1) := by decide +kernel
theorem dX11_init_146 : decode cX11_init 146 = .ok (.bipush 6, 2) := by decide +kernel
theorem dX11_init_148 : decode cX11_init 148 = .ok (.newarray .int, 2) := by decide +kernel
theorem dX11_init_150 : decode cX11_init 150 = .ok (.putfield 64, 3) := by decide +kernel
theorem dX11_init_153 : decode cX11_init 153 = .ok (.aload_n 0, 1) := by decide +kernel
theorem dX11_init_154 : decode cX11_init 154 = .ok (.bipush 6, 2) := by decide +kernel
theorem dX11_init_156 : decode cX11_init 156 = .ok (.newarray .int, 2) := by decide +kernel
theorem dX11_init_158 : decode cX11_init 158 = .ok (.putfield 67, 3) := by decide +kernel
theorem dX11_init_161 : decode cX11_init 161 = .ok (.aload_n 0, 1) := by decide +kernel
theorem dX11_init_162 : decode cX11_init 162 = .ok (.bipush 60, 2) := by decide +kernel
theorem dX11_init_164 : decode cX11_init 164 = .ok (.newarray .int, 2) := by decide +kernel
theorem dX11_init_166 : decode cX11_init 166 = .ok (.putfield 70, 3) := by decide +kernel
theorem dX11_init_169 : decode cX11_init 169 = .ok (.return_, 1) := by decide +kernel
theorem dX11_code_0 : decode cX11_code 0 = .ok (.aload_n 0, 1) := by decide +kernel
theorem dX11_code_1 : decode cX11_code 1 = .ok (.getfield 10, 3) := by decide +kernel
theorem dX11_code_4 : decode cX11_code 4 = .ok (.getfield 73, 3) := by decide +kernel
theorem dX11_code_7 : decode cX11_code 7 = .ok (.getfield 77, 3) := by decide +kernel
theorem dX11_code_10 : decode cX11_code 10 = .ok (.iconst 3, 1) := by decide +kernel
theorem dX11_code_11 : decode cX11_code 11 = .ok (.if_icmp .lt 12, 3) := by decide +kernel
theorem dX11_code_14 : decode cX11_code 14 = .ok (.aload_n 0, 1) := by decide +kernel
theorem dX11_code_15 : decode cX11_code 15 = .ok (.bipush (-4), 2) := by decide +kernel
theorem dX11_code_17 : decode cX11_code 17 = .ok (.bipush (-4), 2) := by decide +kernel
theorem dX11_code_19 : decode cX11_code 19 = .ok (.invokevirtual 82, 3) := by decide +kernel
theorem dX11_code_22 : decode cX11_code 22 = .ok (.ireturn, 1) := by decide +kernel
theorem dX11_code_23 : decode cX11_code 23 = .ok (.aload_n 0, 1) := by decide +kernel
theorem dX11_code_24 : decode cX11_code 24 = .ok (.getfield 10, 3) := by decide +kernel
theorem dX11_code_27 : decode cX11_code 27 = .ok (.getfield 86, 3) := by decide +kernel
theorem dX11_code_30 : decode cX11_code 30 = .ok (.iconst 0, 1) := by decide +kernel
theorem dX11_code_31 : decode cX11_code 31 = .ok (.putfield 90, 3) := by decide +kernel
theorem dX11_code_34 : decode cX11_code 34 = .ok (.aload_n 0, 1) := by decide +kernel
theorem dX11_code_35 : decode cX11_code 35 = .ok (.getfield 10, 3) := by decide +kernel
theorem dX11_code_38 : decode cX11_code 38 = .ok (.getfield 73, 3) := by decide +kernel
theorem dX11_code_41 : decode cX11_code 41 = .ok (.invokevirtual 94, 3) := by decide +kernel
theorem dX11_code_44 : decode cX11_code 44 = .ok (.ireturn, 1) := by decide +kernel
theorem dX11_entry_0 : decode cX11_entry 0 = .ok (.iload_n 3, 1) := by decide +kernel
theorem dX11_entry_1 : decode cX11_entry 1 = .ok (.invokestatic 98, 3) := by decide +kernel
theorem dX11_entry_4 : decode cX11_entry 4 = .ok (.istore 4, 2) := by decide +kernel
theorem dX11_entry_6 : decode cX11_entry 6 = .ok (.aload_n 0, 1) := by decide +kernel
theorem dX11_entry_7 : decode cX11_entry 7 = .ok (.iload_n 1, 1) := by decide +kernel
theorem dX11_entry_8 : decode cX11_entry 8 = .ok (.invokevirtual 104, 3) := by decide +kernel
theorem dX11_entry_11 : decode cX11_entry 11 = .ok (.ifCond .eq 22, 3) := by decide +kernel
theorem dX11_entry_14 : decode cX11_entry 14 = .ok (.iload_n 2, 1) := by decide +kernel
theorem dX11_entry_15 : decode cX11_entry 15 = .ok (.invokestatic 108, 3) := by decide +kernel
theorem dX11_entry_18 : decode cX11_entry 18 = .ok (.ifCond .eq 15, 3) := by decide +kernel
theorem dX11_entry_21 : decode cX11_entry 21 = .ok (.iload 4, 2) := by decide +kernel
theorem dX11_entry_23 : decode cX11_entry 23 = .ok (.iconst 1, 1) := by decide +kernel
theorem dX11_entry_24 : decode cX11_entry 24 = .ok (.if_icmp .lt 9, 3) := by decide +kernel
theorem dX11_entry_27 : decode cX11_entry 27 = .ok (.iload 4, 2) := by decide +kernel
theorem dX11_entry_29 : decode cX11_entry 29 = .ok (.iconst 3, 1) := by decide +kernel
theorem dX11_entry_30 : decode cX11_entry 30 = .ok (.if_icmp .le 12, 3) := by decide +kernel
theorem dX11_entry_33 : decode cX11_entry 33 = .ok (.aload_n 0, 1) := by decide +kernel
theorem dX11_entry_34 : decode cX11_entry 34 = .ok (.bipush (-2), 2) := by decide +kernel
theorem dX11_entry_36 : decode cX11_entry 36 = .ok (.bipush (-2), 2) := by decide +kernel
theorem dX11_entry_38 : decode cX11_entry 38 = .ok (.invokevirtual 82, 3) := by decide +kernel
theorem dX11_entry_41 : decode cX11_entry 41 = .ok (.ireturn, 1) := by decide +kernel
theorem dX11_entry_42 : decode cX11_entry 42 = .ok (.aload_n 0, 1) := by decide +kernel
theorem dX11_entry_43 : decode cX11_entry 43 = .ok (.getfield 10, 3) := by decide +kernel
theorem dX11_entry_46 : decode cX11_entry 46 = .ok (.getfield 73, 3) := by decide +kernel
theorem dX11_entry_49 : decode cX11_entry 49 = .ok (.iload_n 1, 1) := by decide +kernel
theorem dX11_entry_50 : decode cX11_entry 50 = .ok (.iload_n 3, 1) := by decide +kernel
theorem dX11_entry_51 : decode cX11_entry 51 = .ok (.invokevirtual 111, 3) := by decide +kernel
theorem dX11_entry_54 : decode cX11_entry 54 = .ok (.ifCond .eq 12, 3) := by decide +kernel
theorem dX11_entry_57 : decode cX11_entry 57 = .ok (.aload_n 0, 1) := by decide +kernel
theorem dX11_entry_58 : decode cX11_entry 58 = .ok (.bipush (-3), 2) := by decide +kernel
theorem dX11_entry_60 : decode cX11_entry 60 = .ok (.bipush (-3), 2) := by decide +kernel
theorem dX11_entry_62 : decode cX11_entry 62 = .ok (.invokevirtual 82, 3) := by decide +kernel
theorem dX11_entry_65 : decode cX11_entry 65 = .ok (.ireturn, 1) := by decide +kernel
theorem dX11_entry_66 : decode cX11_entry 66 = .ok (.aload_n 0, 1) := by decide +kernel
theorem dX11_entry_67 : decode cX11_entry 67 = .ok (.getfield 10, 3) := by decide +kernel
theorem dX11_entry_70 : decode cX11_entry 70 = .ok (.getfield 73, 3) := by decide +kernel
theorem dX11_entry_73 : decode cX11_entry 73 = .ok (.getfield 115, 3) := by decide +kernel
theorem dX11_entry_76 : decode cX11_entry 76 = .ok (.iload_n 1, 1) := by decide +kernel
theorem dX11_entry_77 : decode cX11_entry 77 = .ok (.iaload, 1) := by decide +kernel
theorem dX11_entry_78 : decode cX11_entry 78 = .ok (.bipush 8, 2) := by decide +kernel
theorem dX11_entry_80 : decode cX11_entry 80 = .ok (.if_icmp .lt 12, 3) := by decide +kernel
theorem dX11_entry_83 : decode cX11_entry 83 = .ok (.aload_n 0, 1) := by decide +kernel
theorem dX11_entry_84 : decode cX11_entry 84 = .ok (.bipush (-4), 2) := by decide +kernel
theorem dX11_entry_86 : decode cX11_entry 86 = .ok (.bipush (-4), 2) := by decide +kernel
theorem dX11_entry_88 : decode cX11_entry 88 = .ok (.invokevirtual 82, 3) := by decide +kernel
theorem dX11_entry_91 : decode cX11_entry 91 = .ok (.ireturn, 1) := by decide +kernel
theorem dX11_entry_92 : decode cX11_entry 92 = .ok (.aload_n 0, 1) := by decide +kernel
theorem dX11_entry_93 : decode cX11_entry 93 = .ok (.getfield 10, 3) := by decide +kernel
theorem dX11_entry_96 : decode cX11_entry 96 = .ok (.getfield 86, 3) := by decide +kernel
theorem dX11_entry_99 : decode cX11_entry 99 = .ok (.iconst 0, 1) := by decide +kernel
theorem dX11_entry_100 : decode cX11_entry 100 = .ok (.putfield 90, 3) := by decide +kernel
theorem dX11_entry_103 : decode cX11_entry 103 = .ok (.aload_n 0, 1) := by decide +kernel
theorem dX11_entry_104 : decode cX11_entry 104 = .ok (.getfield 10, 3) := by decide +kernel
theorem dX11_entry_107 : decode cX11_entry 107 = .ok (.getfield 73, 3) := by decide +kernel
theorem dX11_entry_110 : decode cX11_entry 110 = .ok (.iload_n 1, 1) := by decide +kernel
theorem dX11_entry_111 : decode cX11_entry 111 = .ok (.iload_n 2, 1) := by decide +kernel
theorem dX11_entry_112 : decode cX11_entry 112 = .ok (.iload_n 3, 1) := by decide +kernel
theorem dX11_entry_113 : decode cX11_entry 113 = .ok (.invokevirtual 118, 3) := by decide +kernel
theorem dX11_entry_116 : decode cX11_entry 116 = .ok (.ireturn, 1) := by decide +kernel
theorem dX11_told_0 : decode cX11_told 0 = .ok (.aload_n 0, 1) := by decide +kernel
theorem dX11_told_1 : decode cX11_told 1 = .ok (.iload_n 1, 1) := by decide +kernel
theorem dX11_told_2 : decode cX11_told 2 = .ok (.invokevirtual 104, 3) := by decide +kernel
theorem dX11_told_5 : decode cX11_told 5 = .ok (.ifCond .eq 32, 3) := by decide +kernel
theorem dX11_told_8 : decode cX11_told 8 = .ok (.iload_n 2, 1) := by decide +kernel
theorem dX11_told_9 : decode cX11_told 9 = .ok (.ifCond .lt 28, 3) := by decide +kernel
theorem dX11_told_12 : decode cX11_told 12 = .ok (.iload_n 2, 1) := by decide +kernel
theorem dX11_told_13 : decode cX11_told 13 = .ok (.aload_n 0, 1) := by decide +kernel
theorem dX11_told_14 : decode cX11_told 14 = .ok (.getfield 10, 3) := by decide +kernel
theorem dX11_told_17 : decode cX11_told 17 = .ok (.getfield 73, 3) := by decide +kernel
theorem dX11_told_20 : decode cX11_told 20 = .ok (.getfield 115, 3) := by decide +kernel
theorem dX11_told_23 : decode cX11_told 23 = .ok (.iload_n 1, 1) := by decide +kernel
theorem dX11_told_24 : decode cX11_told 24 = .ok (.iaload, 1) := by decide +kernel
theorem dX11_told_25 : decode cX11_told 25 = .ok (.if_icmp .ge 12, 3) := by decide +kernel
theorem dX11_told_28 : decode cX11_told 28 = .ok (.iload_n 3, 1) := by decide +kernel
theorem dX11_told_29 : decode cX11_told 29 = .ok (.ifCond .lt 8, 3) := by decide +kernel
theorem dX11_told_32 : decode cX11_told 32 = .ok (.iload_n 3, 1) := by decide +kernel
theorem dX11_told_33 : decode cX11_told 33 = .ok (.iconst 1, 1) := by decide +kernel
theorem dX11_told_34 : decode cX11_told 34 = .ok (.if_icmp .le 12, 3) := by decide +kernel
theorem dX11_told_37 : decode cX11_told 37 = .ok (.aload_n 0, 1) := by decide +kernel
theorem dX11_told_38 : decode cX11_told 38 = .ok (.bipush (-2), 2) := by decide +kernel
theorem dX11_told_40 : decode cX11_told 40 = .ok (.bipush (-2), 2) := by decide +kernel
theorem dX11_told_42 : decode cX11_told 42 = .ok (.invokevirtual 82, 3) := by decide +kernel
theorem dX11_told_45 : decode cX11_told 45 = .ok (.ireturn, 1) := by decide +kernel
theorem dX11_told_46 : decode cX11_told 46 = .ok (.iload_n 1, 1) := by decide +kernel
theorem dX11_told_47 : decode cX11_told 47 = .ok (.bipush 8, 2) := by decide +kernel
theorem dX11_told_49 : decode cX11_told 49 = .ok (.imul, 1) := by decide +kernel
theorem dX11_told_50 : decode cX11_told 50 = .ok (.iload_n 2, 1) := by decide +kernel
theorem dX11_told_51 : decode cX11_told 51 = .ok (.iadd, 1) := by decide +kernel
theorem dX11_told_52 : decode cX11_told 52 = .ok (.istore 4, 2) := by decide +kernel
theorem dX11_told_54 : decode cX11_told 54 = .ok (.iload_n 3, 1) := by decide +kernel
theorem dX11_told_55 : decode cX11_told 55 = .ok (.ifCond .ne 19, 3) := by decide +kernel
theorem dX11_told_58 : decode cX11_told 58 = .ok (.aload_n 0, 1) := by decide +kernel
theorem dX11_told_59 : decode cX11_told 59 = .ok (.getfield 10, 3) := by decide +kernel
theorem dX11_told_62 : decode cX11_told 62 = .ok (.getfield 73, 3) := by decide +kernel
theorem dX11_told_65 : decode cX11_told 65 = .ok (.getfield 122, 3) := by decide +kernel
theorem dX11_told_68 : decode cX11_told 68 = .ok (.iload 4, 2) := by decide +kernel
theorem dX11_told_70 : decode cX11_told 70 = .ok (.iaload, 1) := by decide +kernel
theorem dX11_told_71 : decode cX11_told 71 = .ok (.goto 16, 3) := by decide +kernel
theorem dX11_told_74 : decode cX11_told 74 = .ok (.aload_n 0, 1) := by decide +kernel
theorem dX11_told_75 : decode cX11_told 75 = .ok (.getfield 10, 3) := by decide +kernel
theorem dX11_told_78 : decode cX11_told 78 = .ok (.getfield 73, 3) := by decide +kernel
theorem dX11_told_81 : decode cX11_told 81 = .ok (.getfield 125, 3) := by decide +kernel
theorem dX11_told_84 : decode cX11_told 84 = .ok (.iload 4, 2) := by decide +kernel
theorem dX11_told_86 : decode cX11_told 86 = .ok (.iaload, 1) := by decide +kernel
theorem dX11_told_87 : decode cX11_told 87 = .ok (.ireturn, 1) := by decide +kernel
theorem dX11_draughts_0 : decode cX11_draughts 0 = .ok (.iload_n 1, 1) := by decide +kernel
theorem dX11_draughts_1 : decode cX11_draughts 1 = .ok (.ifCond .lt 9, 3) := by decide +kernel
theorem dX11_draughts_4 : decode cX11_draughts 4 = .ok (.iload_n 1, 1) := by decide +kernel
theorem dX11_draughts_5 : decode cX11_draughts 5 = .ok (.bipush 64, 2) := by decide +kernel
theorem dX11_draughts_7 : decode cX11_draughts 7 = .ok (.if_icmp .lt 12, 3) := by decide +kernel
theorem dX11_draughts_10 : decode cX11_draughts 10 = .ok (.aload_n 0, 1) := by decide +kernel
theorem dX11_draughts_11 : decode cX11_draughts 11 = .ok (.bipush (-2), 2) := by decide +kernel
theorem dX11_draughts_13 : decode cX11_draughts 13 = .ok (.bipush (-2), 2) := by decide +kernel
theorem dX11_draughts_15 : decode cX11_draughts 15 = .ok (.invokevirtual 82, 3) := by decide +kernel
theorem dX11_draughts_18 : decode cX11_draughts 18 = .ok (.ireturn, 1) := by decide +kernel
theorem dX11_draughts_19 : decode cX11_draughts 19 = .ok (.aload_n 0, 1) := by decide +kernel
theorem dX11_draughts_20 : decode cX11_draughts 20 = .ok (.getfield 10, 3) := by decide +kernel
theorem dX11_draughts_23 : decode cX11_draughts 23 = .ok (.getfield 128, 3) := by decide +kernel
theorem dX11_draughts_26 : decode cX11_draughts 26 = .ok (.istore_n 2, 1) := by decide +kernel
theorem dX11_draughts_27 : decode cX11_draughts 27 = .ok (.aload_n 0, 1) := by decide +kernel
theorem dX11_draughts_28 : decode cX11_draughts 28 = .ok (.getfield 10, 3) := by decide +kernel
theorem dX11_draughts_31 : decode cX11_draughts 31 = .ok (.iload_n 1, 1) := by decide +kernel
theorem dX11_draughts_32 : decode cX11_draughts 32 = .ok (.putfield 128, 3) := by decide +kernel
theorem dX11_draughts_35 : decode cX11_draughts 35 = .ok (.iload_n 2, 1) := by decide +kernel
theorem dX11_draughts_36 : decode cX11_draughts 36 = .ok (.ireturn, 1) := by decide +kernel
theorem dX11_type_0 : decode cX11_type 0 = .ok (.iload_n 3, 1) := by decide +kernel
theorem dX11_type_1 : decode cX11_type 1 = .ok (.iconst 1, 1) := by decide +kernel
theorem dX11_type_2 : decode cX11_type 2 = .ok (.if_icmp .lt 9, 3) := by decide +kernel
theorem dX11_type_5 : decode cX11_type 5 = .ok (.iload_n 3, 1) := by decide +kernel
theorem dX11_type_6 : decode cX11_type 6 = .ok (.bipush 8, 2) := by decide +kernel
theorem dX11_type_8 : decode cX11_type 8 = .ok (.if_icmp .le 12, 3) := by decide +kernel
theorem dX11_type_11 : decode cX11_type 11 = .ok (.aload_n 0, 1) := by decide +kernel
theorem dX11_type_12 : decode cX11_type 12 = .ok (.bipush (-2), 2) := by decide +kernel
theorem dX11_type_14 : decode cX11_type 14 = .ok (.bipush (-2), 2) := by decide +kernel
theorem dX11_type_16 : decode cX11_type 16 = .ok (.invokevirtual 82, 3) := by decide +kernel
theorem dX11_type_19 : decode cX11_type 19 = .ok (.ireturn, 1) := by decide +kernel
theorem dX11_type_20 : decode cX11_type 20 = .ok (.aload_n 0, 1) := by decide +kernel
theorem dX11_type_21 : decode cX11_type 21 = .ok (.getfield 27, 3) := by decide +kernel
theorem dX11_type_24 : decode cX11_type 24 = .ok (.getfield 131, 3) := by decide +kernel
theorem dX11_type_27 : decode cX11_type 27 = .ok (.iload_n 3, 1) := by decide +kernel
theorem dX11_type_28 : decode cX11_type 28 = .ok (.iadd, 1) := by decide +kernel
theorem dX11_type_29 : decode cX11_type 29 = .ok (.sipush 250, 3) := by decide +kernel
theorem dX11_type_32 : decode cX11_type 32 = .ok (.if_icmp .le 12, 3) := by decide +kernel
theorem dX11_type_35 : decode cX11_type 35 = .ok (.aload_n 0, 1) := by decide +kernel
theorem dX11_type_36 : decode cX11_type 36 = .ok (.bipush (-4), 2) := by decide +kernel
theorem dX11_type_38 : decode cX11_type 38 = .ok (.bipush (-4), 2) := by decide +kernel
theorem dX11_type_40 : decode cX11_type 40 = .ok (.invokevirtual 82, 3) := by decide +kernel
theorem dX11_type_43 : decode cX11_type 43 = .ok (.ireturn, 1) := by decide +kernel
theorem dX11_type_44 : decode cX11_type 44 = .ok (.iload_n 3, 1) := by decide +kernel
theorem dX11_type_45 : decode cX11_type 45 = .ok (.iconst 1, 1) := by decide +kernel
theorem dX11_type_46 : decode cX11_type 46 = .ok (.isub, 1) := by decide +kernel
theorem dX11_type_47 : decode cX11_type 47 = .ok (.istore 4, 2) := by decide +kernel
theorem dX11_type_49 : decode cX11_type 49 = .ok (.iload 4, 2) := by decide +kernel
theorem dX11_type_51 : decode cX11_type 51 = .ok (.ifCond .lt 28, 3) := by decide +kernel
theorem dX11_type_54 : decode cX11_type 54 = .ok (.aload_n 0, 1) := by decide +kernel
theorem dX11_type_55 : decode cX11_type 55 = .ok (.getfield 27, 3) := by decide +kernel
theorem dX11_type_58 : decode cX11_type 58 = .ok (.lload_n 1, 1) := by decide +kernel
theorem dX11_type_59 : decode cX11_type 59 = .ok (.bipush 8, 2) := by decide +kernel
theorem dX11_type_61 : decode cX11_type 61 = .ok (.iload 4, 2) := by decide +kernel
theorem dX11_type_63 : decode cX11_type 63 = .ok (.imul, 1) := by decide +kernel
theorem dX11_type_64 : decode cX11_type 64 = .ok (.lshr, 1) := by decide +kernel
theorem dX11_type_65 : decode cX11_type 65 = .ok (.l2i, 1) := by decide +kernel
theorem dX11_type_66 : decode cX11_type 66 = .ok (.sipush 255, 3) := by decide +kernel
theorem dX11_type_69 : decode cX11_type 69 = .ok (.iand, 1) := by decide +kernel
theorem dX11_type_70 : decode cX11_type 70 = .ok (.invokevirtual 134, 3) := by decide +kernel
theorem dX11_type_73 : decode cX11_type 73 = .ok (.iinc 4 (-1), 3) := by decide +kernel
theorem dX11_type_76 : decode cX11_type 76 = .ok (.goto (-27), 3) := by decide +kernel
theorem dX11_type_79 : decode cX11_type 79 = .ok (.aload_n 0, 1) := by decide +kernel
theorem dX11_type_80 : decode cX11_type 80 = .ok (.getfield 27, 3) := by decide +kernel
theorem dX11_type_83 : decode cX11_type 83 = .ok (.getfield 131, 3) := by decide +kernel
theorem dX11_type_86 : decode cX11_type 86 = .ok (.ireturn, 1) := by decide +kernel
theorem dX11_clear_0 : decode cX11_clear 0 = .ok (.aload_n 0, 1) := by decide +kernel
theorem dX11_clear_1 : decode cX11_clear 1 = .ok (.getfield 27, 3) := by decide +kernel
theorem dX11_clear_4 : decode cX11_clear 4 = .ok (.getfield 131, 3) := by decide +kernel
theorem dX11_clear_7 : decode cX11_clear 7 = .ok (.istore_n 1, 1) := by decide +kernel
theorem dX11_clear_8 : decode cX11_clear 8 = .ok (.aload_n 0, 1) := by decide +kernel
theorem dX11_clear_9 : decode cX11_clear 9 = .ok (.getfield 27, 3) := by decide +kernel
theorem dX11_clear_12 : decode cX11_clear 12 = .ok (.iconst 0, 1) := by decide +kernel
theorem dX11_clear_13 : decode cX11_clear 13 = .ok (.putfield 131, 3) := by decide +kernel
theorem dX11_clear_16 : decode cX11_clear 16 = .ok (.iload_n 1, 1) := by decide +kernel
theorem dX11_clear_17 : decode cX11_clear 17 = .ok (.ireturn, 1) := by decide +kernel
theorem dX11_read_0 : decode cX11_read 0 = .ok (.aload_n 0, 1) := by decide +kernel
theorem dX11_read_1 : decode cX11_read 1 = .ok (.getfield 27, 3) := by decide +kernel
theorem dX11_read_4 : decode cX11_read 4 = .ok (.invokevirtual 138, 3) := by decide +kernel
theorem dX11_read_7 : decode cX11_read 7 = .ok (.istore_n 1, 1) := by decide +kernel
theorem dX11_read_8 : decode cX11_read 8 = .ok (.iload_n 1, 1) := by decide +kernel
theorem dX11_read_9 : decode cX11_read 9 = .ok (.iconst (-1), 1) := by decide +kernel
theorem dX11_read_10 : decode cX11_read 10 = .ok (.if_icmp .eq 8, 3) := by decide +kernel
theorem dX11_read_13 : decode cX11_read 13 = .ok (.bipush (-10), 2) := by decide +kernel
theorem dX11_read_15 : decode cX11_read 15 = .ok (.iload_n 1, 1) := by decide +kernel
theorem dX11_read_16 : decode cX11_read 16 = .ok (.isub, 1) := by decide +kernel
theorem dX11_read_17 : decode cX11_read 17 = .ok (.ireturn, 1) := by decide +kernel
theorem dX11_read_18 : decode cX11_read 18 = .ok (.aload_n 0, 1) := by decide +kernel
theorem dX11_read_19 : decode cX11_read 19 = .ok (.getfield 10, 3) := by decide +kernel
theorem dX11_read_22 : decode cX11_read 22 = .ok (.getfield 73, 3) := by decide +kernel
theorem dX11_read_25 : decode cX11_read 25 = .ok (.aload_n 0, 1) := by decide +kernel
theorem dX11_read_26 : decode cX11_read 26 = .ok (.getfield 27, 3) := by decide +kernel
theorem dX11_read_29 : decode cX11_read 29 = .ok (.getfield 141, 3) := by decide +kernel
theorem dX11_read_32 : decode cX11_read 32 = .ok (.invokevirtual 144, 3) := by decide +kernel
theorem dX11_read_35 : decode cX11_read 35 = .ok (.aload_n 0, 1) := by decide +kernel
theorem dX11_read_36 : decode cX11_read 36 = .ok (.getfield 10, 3) := by decide +kernel
theorem dX11_read_39 : decode cX11_read 39 = .ok (.aload_n 0, 1) := by decide +kernel
theorem dX11_read_40 : decode cX11_read 40 = .ok (.getfield 27, 3) := by decide +kernel
theorem dX11_read_43 : decode cX11_read 43 = .ok (.getfield 148, 3) := by decide +kernel
theorem dX11_read_46 : decode cX11_read 46 = .ok (.putfield 128, 3) := by decide +kernel
theorem dX11_read_49 : decode cX11_read 49 = .ok (.aload_n 0, 1) := by decide +kernel
theorem dX11_read_50 : decode cX11_read 50 = .ok (.getfield 10, 3) := by decide +kernel
theorem dX11_read_53 : decode cX11_read 53 = .ok (.getfield 86, 3) := by decide +kernel
theorem dX11_read_56 : decode cX11_read 56 = .ok (.iconst 0, 1) := by decide +kernel
theorem dX11_read_57 : decode cX11_read 57 = .ok (.putfield 90, 3) := by decide +kernel
theorem dX11_read_60 : decode cX11_read 60 = .ok (.aload_n 0, 1) := by decide +kernel
theorem dX11_read_61 : decode cX11_read 61 = .ok (.getfield 27, 3) := by decide +kernel
theorem dX11_read_64 : decode cX11_read 64 = .ok (.getfield 149, 3) := by decide +kernel
theorem dX11_read_67 : decode cX11_read 67 = .ok (.ireturn, 1) := by decide +kernel
theorem dX11_say_0 : decode cX11_say 0 = .ok (.iload_n 1, 1) := by decide +kernel
theorem dX11_say_1 : decode cX11_say 1 = .ok (.invokestatic 98, 3) := by decide +kernel
theorem dX11_say_4 : decode cX11_say 4 = .ok (.istore_n 2, 1) := by decide +kernel
theorem dX11_say_5 : decode cX11_say 5 = .ok (.iload_n 2, 1) := by decide +kernel
theorem dX11_say_6 : decode cX11_say 6 = .ok (.iconst 1, 1) := by decide +kernel
theorem dX11_say_7 : decode cX11_say 7 = .ok (.if_icmp .ge 12, 3) := by decide +kernel
theorem dX11_say_10 : decode cX11_say 10 = .ok (.aload_n 0, 1) := by decide +kernel
theorem dX11_say_11 : decode cX11_say 11 = .ok (.bipush (-2), 2) := by decide +kernel
theorem dX11_say_13 : decode cX11_say 13 = .ok (.bipush (-2), 2) := by decide +kernel
theorem dX11_say_15 : decode cX11_say 15 = .ok (.invokevirtual 82, 3) := by decide +kernel
theorem dX11_say_18 : decode cX11_say 18 = .ok (.ireturn, 1) := by decide +kernel
theorem dX11_say_19 : decode cX11_say 19 = .ok (.iload_n 1, 1) := by decide +kernel
theorem dX11_say_20 : decode cX11_say 20 = .ok (.iload_n 2, 1) := by decide +kernel
theorem dX11_say_21 : decode cX11_say 21 = .ok (.aload_n 0, 1) := by decide +kernel
theorem dX11_say_22 : decode cX11_say 22 = .ok (.getfield 67, 3) := by decide +kernel
theorem dX11_say_25 : decode cX11_say 25 = .ok (.iconst 0, 1) := by decide +kernel
theorem dX11_say_26 : decode cX11_say 26 = .ok (.invokestatic 152, 3) := by decide +kernel
theorem dX11_say_29 : decode cX11_say 29 = .ok (.aload_n 0, 1) := by decide +kernel
theorem dX11_say_30 : decode cX11_say 30 = .ok (.getfield 67, 3) := by decide +kernel
theorem dX11_say_33 : decode cX11_say 33 = .ok (.iload_n 2, 1) := by decide +kernel
theorem dX11_say_34 : decode cX11_say 34 = .ok (.invokestatic 156, 3) := by decide +kernel
theorem dX11_say_37 : decode cX11_say 37 = .ok (.ifCond .ne 12, 3) := by decide +kernel
theorem dX11_say_40 : decode cX11_say 40 = .ok (.aload_n 0, 1) := by decide +kernel
theorem dX11_say_41 : decode cX11_say 41 = .ok (.bipush (-3), 2) := by decide +kernel
theorem dX11_say_43 : decode cX11_say 43 = .ok (.bipush (-3), 2) := by decide +kernel
theorem dX11_say_45 : decode cX11_say 45 = .ok (.invokevirtual 82, 3) := by decide +kernel
theorem dX11_say_48 : decode cX11_say 48 = .ok (.ireturn, 1) := by decide +kernel
theorem dX11_say_49 : decode cX11_say 49 = .ok (.aload_n 0, 1) := by decide +kernel
theorem dX11_say_50 : decode cX11_say 50 = .ok (.getfield 67, 3) := by decide +kernel
theorem dX11_say_53 : decode cX11_say 53 = .ok (.iconst 0, 1) := by decide +kernel
theorem dX11_say_54 : decode cX11_say 54 = .ok (.aload_n 0, 1) := by decide +kernel
theorem dX11_say_55 : decode cX11_say 55 = .ok (.getfield 10, 3) := by decide +kernel
theorem dX11_say_58 : decode cX11_say 58 = .ok (.getfield 160, 3) := by decide +kernel
theorem dX11_say_61 : decode cX11_say 61 = .ok (.iconst 0, 1) := by decide +kernel
theorem dX11_say_62 : decode cX11_say 62 = .ok (.iload_n 2, 1) := by decide +kernel
theorem dX11_say_63 : decode cX11_say 63 = .ok (.invokestatic 163, 3) := by decide +kernel
theorem dX11_say_66 : decode cX11_say 66 = .ok (.aload_n 0, 1) := by decide +kernel
theorem dX11_say_67 : decode cX11_say 67 = .ok (.getfield 10, 3) := by decide +kernel
theorem dX11_say_70 : decode cX11_say 70 = .ok (.iload_n 2, 1) := by decide +kernel
theorem dX11_say_71 : decode cX11_say 71 = .ok (.putfield 169, 3) := by decide +kernel
theorem dX11_say_74 : decode cX11_say 74 = .ok (.iload_n 2, 1) := by decide +kernel
theorem dX11_say_75 : decode cX11_say 75 = .ok (.ireturn, 1) := by decide +kernel
theorem dX11_seen_0 : decode cX11_seen 0 = .ok (.iload_n 1, 1) := by decide +kernel
theorem dX11_seen_1 : decode cX11_seen 1 = .ok (.ifCond .ge 12, 3) := by decide +kernel
theorem dX11_seen_4 : decode cX11_seen 4 = .ok (.aload_n 0, 1) := by decide +kernel
theorem dX11_seen_5 : decode cX11_seen 5 = .ok (.bipush (-2), 2) := by decide +kernel
theorem dX11_seen_7 : decode cX11_seen 7 = .ok (.bipush (-2), 2) := by decide +kernel
theorem dX11_seen_9 : decode cX11_seen 9 = .ok (.invokevirtual 82, 3) := by decide +kernel
theorem dX11_seen_12 : decode cX11_seen 12 = .ok (.ireturn, 1) := by decide +kernel
theorem dX11_seen_13 : decode cX11_seen 13 = .ok (.iload_n 1, 1) := by decide +kernel
theorem dX11_seen_14 : decode cX11_seen 14 = .ok (.aload_n 0, 1) := by decide +kernel
theorem dX11_seen_15 : decode cX11_seen 15 = .ok (.getfield 10, 3) := by decide +kernel
theorem dX11_seen_18 : decode cX11_seen 18 = .ok (.getfield 169, 3) := by decide +kernel
theorem dX11_seen_21 : decode cX11_seen 21 = .ok (.if_icmp .lt 5, 3) := by decide +kernel
theorem dX11_seen_24 : decode cX11_seen 24 = .ok (.iconst (-1), 1) := by decide +kernel
theorem dX11_seen_25 : decode cX11_seen 25 = .ok (.ireturn, 1) := by decide +kernel
theorem dX11_seen_26 : decode cX11_seen 26 = .ok (.aload_n 0, 1) := by decide +kernel
theorem dX11_seen_27 : decode cX11_seen 27 = .ok (.invokevirtual 171, 3) := by decide +kernel
theorem dX11_seen_30 : decode cX11_seen 30 = .ok (.aload_n 0, 1) := by decide +kernel
theorem dX11_seen_31 : decode cX11_seen 31 = .ok (.getfield 61, 3) := by decide +kernel
theorem dX11_seen_34 : decode cX11_seen 34 = .ok (.iload_n 1, 1) := by decide +kernel
theorem dX11_seen_35 : decode cX11_seen 35 = .ok (.iaload, 1) := by decide +kernel
theorem dX11_seen_36 : decode cX11_seen 36 = .ok (.ireturn, 1) := by decide +kernel
theorem dX11_reads_0 : decode cX11_reads 0 = .ok (.iload_n 1, 1) := by decide +kernel
theorem dX11_reads_1 : decode cX11_reads 1 = .ok (.invokestatic 174, 3) := by decide +kernel
theorem dX11_reads_4 : decode cX11_reads 4 = .ok (.ifCond .eq 16, 3) := by decide +kernel
theorem dX11_reads_7 : decode cX11_reads 7 = .ok (.aload_n 0, 1) := by decide +kernel
theorem dX11_reads_8 : decode cX11_reads 8 = .ok (.iload_n 2, 1) := by decide +kernel
theorem dX11_reads_9 : decode cX11_reads 9 = .ok (.invokevirtual 104, 3) := by decide +kernel
theorem dX11_reads_12 : decode cX11_reads 12 = .ok (.ifCond .eq 8, 3) := by decide +kernel
theorem dX11_reads_15 : decode cX11_reads 15 = .ok (.iload_n 3, 1) := by decide +kernel
theorem dX11_reads_16 : decode cX11_reads 16 = .ok (.iconst (-1), 1) := by decide +kernel
theorem dX11_reads_17 : decode cX11_reads 17 = .ok (.if_icmp .ge 12, 3) := by decide +kernel
theorem dX11_reads_20 : decode cX11_reads 20 = .ok (.aload_n 0, 1) := by decide +kernel
theorem dX11_reads_21 : decode cX11_reads 21 = .ok (.bipush (-2), 2) := by decide +kernel
theorem dX11_reads_23 : decode cX11_reads 23 = .ok (.bipush (-10), 2) := by decide +kernel
theorem dX11_reads_25 : decode cX11_reads 25 = .ok (.invokevirtual 82, 3) := by decide +kernel
theorem dX11_reads_28 : decode cX11_reads 28 = .ok (.ireturn, 1) := by decide +kernel
theorem dX11_reads_29 : decode cX11_reads 29 = .ok (.aload_n 0, 1) := by decide +kernel
theorem dX11_reads_30 : decode cX11_reads 30 = .ok (.iload_n 1, 1) := by decide +kernel
theorem dX11_reads_31 : decode cX11_reads 31 = .ok (.iload_n 2, 1) := by decide +kernel
theorem dX11_reads_32 : decode cX11_reads 32 = .ok (.invokevirtual 177, 3) := by decide +kernel
theorem dX11_reads_35 : decode cX11_reads 35 = .ok (.astore 4, 2) := by decide +kernel
theorem dX11_reads_37 : decode cX11_reads 37 = .ok (.iload_n 3, 1) := by decide +kernel
theorem dX11_reads_38 : decode cX11_reads 38 = .ok (.iconst (-1), 1) := by decide +kernel
theorem dX11_reads_39 : decode cX11_reads 39 = .ok (.if_icmp .ne 9, 3) := by decide +kernel
theorem dX11_reads_42 : decode cX11_reads 42 = .ok (.aload 4, 2) := by decide +kernel
theorem dX11_reads_44 : decode cX11_reads 44 = .ok (.getfield 181, 3) := by decide +kernel
theorem dX11_reads_47 : decode cX11_reads 47 = .ok (.ireturn, 1) := by decide +kernel
theorem dX11_reads_48 : decode cX11_reads 48 = .ok (.iload_n 3, 1) := by decide +kernel
theorem dX11_reads_49 : decode cX11_reads 49 = .ok (.aload 4, 2) := by decide +kernel
theorem dX11_reads_51 : decode cX11_reads 51 = .ok (.getfield 181, 3) := by decide +kernel
theorem dX11_reads_54 : decode cX11_reads 54 = .ok (.if_icmp .ge 13, 3) := by decide +kernel
theorem dX11_reads_57 : decode cX11_reads 57 = .ok (.aload 4, 2) := by decide +kernel
theorem dX11_reads_59 : decode cX11_reads 59 = .ok (.getfield 184, 3) := by decide +kernel
theorem dX11_reads_62 : decode cX11_reads 62 = .ok (.iload_n 3, 1) := by decide +kernel
theorem dX11_reads_63 : decode cX11_reads 63 = .ok (.iaload, 1) := by decide +kernel
theorem dX11_reads_64 : decode cX11_reads 64 = .ok (.goto 5, 3) := by decide +kernel
theorem dX11_reads_67 : decode cX11_reads 67 = .ok (.bipush (-5), 2) := by decide +kernel
theorem dX11_reads_69 : decode cX11_reads 69 = .ok (.ireturn, 1) := by decide +kernel
theorem dX11_otherwise_0 : decode cX11_otherwise 0 = .ok (.iload_n 1, 1) := by decide +kernel
theorem dX11_otherwise_1 : decode cX11_otherwise 1 = .ok (.invokestatic 174, 3) := by decide +kernel
theorem dX11_otherwise_4 : decode cX11_otherwise 4 = .ok (.ifCond .eq 27, 3) := by decide +kernel
theorem dX11_otherwise_7 : decode cX11_otherwise 7 = .ok (.aload_n 0, 1) := by decide +kernel
theorem dX11_otherwise_8 : decode cX11_otherwise 8 = .ok (.iload_n 2, 1) := by decide +kernel
theorem dX11_otherwise_9 : decode cX11_otherwise 9 = .ok (.invokevirtual 104, 3) := by decide +kernel
theorem dX11_otherwise_12 : decode cX11_otherwise 12 = .ok (.ifCond .eq 19, 3) := by decide +kernel
theorem dX11_otherwise_15 : decode cX11_otherwise 15 = .ok (.iload_n 3, 1) := by decide +kernel
theorem dX11_otherwise_16 : decode cX11_otherwise 16 = .ok (.invokestatic 174, 3) := by decide +kernel
theorem dX11_otherwise_19 : decode cX11_otherwise 19 = .ok (.ifCond .eq 12, 3) := by decide +kernel
theorem dX11_otherwise_22 : decode cX11_otherwise 22 = .ok (.aload_n 0, 1) := by decide +kernel
theorem dX11_otherwise_23 : decode cX11_otherwise 23 = .ok (.iload 4, 2) := by decide +kernel
theorem dX11_otherwise_25 : decode cX11_otherwise 25 = .ok (.invokevirtual 104, 3) := by decide +kernel
theorem dX11_otherwise_28 : decode cX11_otherwise 28 = .ok (.ifCond .ne 12, 3) := by decide +kernel
theorem dX11_otherwise_31 : decode cX11_otherwise 31 = .ok (.aload_n 0, 1) := by decide +kernel
theorem dX11_otherwise_32 : decode cX11_otherwise 32 = .ok (.bipush (-2), 2) := by decide +kernel
theorem dX11_otherwise_34 : decode cX11_otherwise 34 = .ok (.bipush (-2), 2) := by decide +kernel
theorem dX11_otherwise_36 : decode cX11_otherwise 36 = .ok (.invokevirtual 82, 3) := by decide +kernel
theorem dX11_otherwise_39 : decode cX11_otherwise 39 = .ok (.ireturn, 1) := by decide +kernel
theorem dX11_otherwise_40 : decode cX11_otherwise 40 = .ok (.aload_n 0, 1) := by decide +kernel
theorem dX11_otherwise_41 : decode cX11_otherwise 41 = .ok (.iload_n 1, 1) := by decide +kernel
theorem dX11_otherwise_42 : decode cX11_otherwise 42 = .ok (.iload_n 2, 1) := by decide +kernel
theorem dX11_otherwise_43 : decode cX11_otherwise 43 = .ok (.invokevirtual 177, 3) := by decide +kernel
theorem dX11_otherwise_46 : decode cX11_otherwise 46 = .ok (.astore 5, 2) := by decide +kernel
theorem dX11_otherwise_48 : decode cX11_otherwise 48 = .ok (.aload 5, 2) := by decide +kernel
theorem dX11_otherwise_50 : decode cX11_otherwise 50 = .ok (.getfield 181, 3) := by decide +kernel
theorem dX11_otherwise_53 : decode cX11_otherwise 53 = .ok (.istore 6, 2) := by decide +kernel
theorem dX11_otherwise_55 : decode cX11_otherwise 55 = .ok (.aload 5, 2) := by decide +kernel
theorem dX11_otherwise_57 : decode cX11_otherwise 57 = .ok (.getfield 184, 3) := by decide +kernel
theorem dX11_otherwise_60 : decode cX11_otherwise 60 = .ok (.iconst 0, 1) := by decide +kernel
theorem dX11_otherwise_61 : decode cX11_otherwise 61 = .ok (.aload_n 0, 1) := by decide +kernel
theorem dX11_otherwise_62 : decode cX11_otherwise 62 = .ok (.getfield 64, 3) := by decide +kernel
theorem dX11_otherwise_65 : decode cX11_otherwise 65 = .ok (.iconst 0, 1) := by decide +kernel
theorem dX11_otherwise_66 : decode cX11_otherwise 66 = .ok (.iload 6, 2) := by decide +kernel
theorem dX11_otherwise_68 : decode cX11_otherwise 68 = .ok (.invokestatic 163, 3) := by decide +kernel
theorem dX11_otherwise_71 : decode cX11_otherwise 71 = .ok (.aload_n 0, 1) := by decide +kernel
theorem dX11_otherwise_72 : decode cX11_otherwise 72 = .ok (.iload_n 3, 1) := by decide +kernel
theorem dX11_otherwise_73 : decode cX11_otherwise 73 = .ok (.iload 4, 2) := by decide +kernel
theorem dX11_otherwise_75 : decode cX11_otherwise 75 = .ok (.invokevirtual 177, 3) := by decide +kernel
theorem dX11_otherwise_78 : decode cX11_otherwise 78 = .ok (.astore 5, 2) := by decide +kernel
theorem dX11_otherwise_80 : decode cX11_otherwise 80 = .ok (.iload 6, 2) := by decide +kernel
theorem dX11_otherwise_82 : decode cX11_otherwise 82 = .ok (.aload 5, 2) := by decide +kernel
theorem dX11_otherwise_84 : decode cX11_otherwise 84 = .ok (.getfield 181, 3) := by decide +kernel
theorem dX11_otherwise_87 : decode cX11_otherwise 87 = .ok (.invokestatic 185, 3) := by decide +kernel
theorem dX11_otherwise_90 : decode cX11_otherwise 90 = .ok (.istore 7, 2) := by decide +kernel
theorem dX11_otherwise_92 : decode cX11_otherwise 92 = .ok (.iconst 0, 1) := by decide +kernel
theorem dX11_otherwise_93 : decode cX11_otherwise 93 = .ok (.istore 8, 2) := by decide +kernel
theorem dX11_otherwise_95 : decode cX11_otherwise 95 = .ok (.iload 8, 2) := by decide +kernel
theorem dX11_otherwise_97 : decode cX11_otherwise 97 = .ok (.iload 7, 2) := by decide +kernel
theorem dX11_otherwise_99 : decode cX11_otherwise 99 = .ok (.if_icmp .ge 30, 3) := by decide +kernel
theorem dX11_otherwise_102 : decode cX11_otherwise 102 = .ok (.aload_n 0, 1) := by decide +kernel
theorem dX11_otherwise_103 : decode cX11_otherwise 103 = .ok (.getfield 64, 3) := by decide +kernel
theorem dX11_otherwise_106 : decode cX11_otherwise 106 = .ok (.iload 8, 2) := by decide +kernel
theorem dX11_otherwise_108 : decode cX11_otherwise 108 = .ok (.iaload, 1) := by decide +kernel
theorem dX11_otherwise_109 : decode cX11_otherwise 109 = .ok (.aload 5, 2) := by decide +kernel
theorem dX11_otherwise_111 : decode cX11_otherwise 111 = .ok (.getfield 184, 3) := by decide +kernel
theorem dX11_otherwise_114 : decode cX11_otherwise 114 = .ok (.iload 8, 2) := by decide +kernel
theorem dX11_otherwise_116 : decode cX11_otherwise 116 = .ok (.iaload, 1) := by decide +kernel
theorem dX11_otherwise_117 : decode cX11_otherwise 117 = .ok (.if_icmp .eq 6, 3) := by decide +kernel
theorem dX11_otherwise_120 : decode cX11_otherwise 120 = .ok (.iload 8, 2) := by decide +kernel
theorem dX11_otherwise_122 : decode cX11_otherwise 122 = .ok (.ireturn, 1) := by decide +kernel
theorem dX11_otherwise_123 : decode cX11_otherwise 123 = .ok (.iinc 8 1, 3) := by decide +kernel
theorem dX11_otherwise_126 : decode cX11_otherwise 126 = .ok (.goto (-31), 3) := by decide +kernel
theorem dX11_otherwise_129 : decode cX11_otherwise 129 = .ok (.iload 6, 2) := by decide +kernel
theorem dX11_otherwise_131 : decode cX11_otherwise 131 = .ok (.aload 5, 2) := by decide +kernel
theorem dX11_otherwise_133 : decode cX11_otherwise 133 = .ok (.getfield 181, 3) := by decide +kernel
theorem dX11_otherwise_136 : decode cX11_otherwise 136 = .ok (.if_icmp .ne 7, 3) := by decide +kernel
theorem dX11_otherwise_139 : decode cX11_otherwise 139 = .ok (.iconst (-1), 1) := by decide +kernel
theorem dX11_otherwise_140 : decode cX11_otherwise 140 = .ok (.goto 5, 3) := by decide +kernel
theorem dX11_otherwise_143 : decode cX11_otherwise 143 = .ok (.iload 7, 2) := by decide +kernel
theorem dX11_otherwise_145 : decode cX11_otherwise 145 = .ok (.ireturn, 1) := by decide +kernel
theorem dX11_utter_0 : decode cX11_utter 0 = .ok (.aload_n 0, 1) := by decide +kernel
theorem dX11_utter_1 : decode cX11_utter 1 = .ok (.iload_n 1, 1) := by decide +kernel
theorem dX11_utter_2 : decode cX11_utter 2 = .ok (.invokevirtual 104, 3) := by decide +kernel
theorem dX11_utter_5 : decode cX11_utter 5 = .ok (.ifCond .ne 12, 3) := by decide +kernel
theorem dX11_utter_8 : decode cX11_utter 8 = .ok (.aload_n 0, 1) := by decide +kernel
theorem dX11_utter_9 : decode cX11_utter 9 = .ok (.bipush (-2), 2) := by decide +kernel
theorem dX11_utter_11 : decode cX11_utter 11 = .ok (.bipush (-2), 2) := by decide +kernel
theorem dX11_utter_13 : decode cX11_utter 13 = .ok (.invokevirtual 82, 3) := by decide +kernel
theorem dX11_utter_16 : decode cX11_utter 16 = .ok (.ireturn, 1) := by decide +kernel
theorem dX11_utter_17 : decode cX11_utter 17 = .ok (.aload_n 0, 1) := by decide +kernel
theorem dX11_utter_18 : decode cX11_utter 18 = .ok (.getfield 10, 3) := by decide +kernel
theorem dX11_utter_21 : decode cX11_utter 21 = .ok (.getfield 86, 3) := by decide +kernel
theorem dX11_utter_24 : decode cX11_utter 24 = .ok (.aload_n 0, 1) := by decide +kernel
theorem dX11_utter_25 : decode cX11_utter 25 = .ok (.getfield 10, 3) := by decide +kernel
theorem dX11_utter_28 : decode cX11_utter 28 = .ok (.getfield 73, 3) := by decide +kernel
theorem dX11_utter_31 : decode cX11_utter 31 = .ok (.invokevirtual 190, 3) := by decide +kernel
theorem dX11_utter_34 : decode cX11_utter 34 = .ok (.aload_n 0, 1) := by decide +kernel
theorem dX11_utter_35 : decode cX11_utter 35 = .ok (.iconst 0, 1) := by decide +kernel
theorem dX11_utter_36 : decode cX11_utter 36 = .ok (.iload_n 1, 1) := by decide +kernel
theorem dX11_utter_37 : decode cX11_utter 37 = .ok (.invokevirtual 177, 3) := by decide +kernel
theorem dX11_utter_40 : decode cX11_utter 40 = .ok (.astore_n 2, 1) := by decide +kernel
theorem dX11_utter_41 : decode cX11_utter 41 = .ok (.iconst 0, 1) := by decide +kernel
theorem dX11_utter_42 : decode cX11_utter 42 = .ok (.istore_n 3, 1) := by decide +kernel
theorem dX11_utter_43 : decode cX11_utter 43 = .ok (.iload_n 3, 1) := by decide +kernel
theorem dX11_utter_44 : decode cX11_utter 44 = .ok (.aload_n 2, 1) := by decide +kernel
theorem dX11_utter_45 : decode cX11_utter 45 = .ok (.getfield 181, 3) := by decide +kernel
theorem dX11_utter_48 : decode cX11_utter 48 = .ok (.if_icmp .ge 25, 3) := by decide +kernel
theorem dX11_utter_51 : decode cX11_utter 51 = .ok (.aload_n 0, 1) := by decide +kernel
theorem dX11_utter_52 : decode cX11_utter 52 = .ok (.getfield 10, 3) := by decide +kernel
theorem dX11_utter_55 : decode cX11_utter 55 = .ok (.getfield 73, 3) := by decide +kernel
theorem dX11_utter_58 : decode cX11_utter 58 = .ok (.aload_n 2, 1) := by decide +kernel
theorem dX11_utter_59 : decode cX11_utter 59 = .ok (.getfield 184, 3) := by decide +kernel
theorem dX11_utter_62 : decode cX11_utter 62 = .ok (.iload_n 3, 1) := by decide +kernel
theorem dX11_utter_63 : decode cX11_utter 63 = .ok (.iaload, 1) := by decide +kernel
theorem dX11_utter_64 : decode cX11_utter 64 = .ok (.invokevirtual 193, 3) := by decide +kernel
theorem dX11_utter_67 : decode cX11_utter 67 = .ok (.iinc 3 1, 3) := by decide +kernel
theorem dX11_utter_70 : decode cX11_utter 70 = .ok (.goto (-27), 3) := by decide +kernel
theorem dX11_utter_73 : decode cX11_utter 73 = .ok (.aload_n 2, 1) := by decide +kernel
theorem dX11_utter_74 : decode cX11_utter 74 = .ok (.getfield 181, 3) := by decide +kernel
theorem dX11_utter_77 : decode cX11_utter 77 = .ok (.ireturn, 1) := by decide +kernel
theorem dX11_uses_0 : decode cX11_uses 0 = .ok (.iload_n 1, 1) := by decide +kernel
theorem dX11_uses_1 : decode cX11_uses 1 = .ok (.invokestatic 108, 3) := by decide +kernel
theorem dX11_uses_4 : decode cX11_uses 4 = .ok (.ifCond .eq 18, 3) := by decide +kernel
theorem dX11_uses_7 : decode cX11_uses 7 = .ok (.aload_n 0, 1) := by decide +kernel
theorem dX11_uses_8 : decode cX11_uses 8 = .ok (.getfield 10, 3) := by decide +kernel
theorem dX11_uses_11 : decode cX11_uses 11 = .ok (.getfield 73, 3) := by decide +kernel
theorem dX11_uses_14 : decode cX11_uses 14 = .ok (.getfield 196, 3) := by decide +kernel
theorem dX11_uses_17 : decode cX11_uses 17 = .ok (.iload_n 1, 1) := by decide +kernel
theorem dX11_uses_18 : decode cX11_uses 18 = .ok (.iaload, 1) := by decide +kernel
theorem dX11_uses_19 : decode cX11_uses 19 = .ok (.goto 11, 3) := by decide +kernel
theorem dX11_uses_22 : decode cX11_uses 22 = .ok (.aload_n 0, 1) := by decide +kernel
theorem dX11_uses_23 : decode cX11_uses 23 = .ok (.bipush (-2), 2) := by decide +kernel
theorem dX11_uses_25 : decode cX11_uses 25 = .ok (.bipush (-2), 2) := by decide +kernel
theorem dX11_uses_27 : decode cX11_uses 27 = .ok (.invokevirtual 82, 3) := by decide +kernel
theorem dX11_uses_30 : decode cX11_uses 30 = .ok (.ireturn, 1) := by decide +kernel
theorem dX11_year_0 : decode cX11_year 0 = .ok (.aload_n 0, 1) := by decide +kernel
theorem dX11_year_1 : decode cX11_year 1 = .ok (.getfield 10, 3) := by decide +kernel
theorem dX11_year_4 : decode cX11_year 4 = .ok (.getfield 86, 3) := by decide +kernel
theorem dX11_year_7 : decode cX11_year 7 = .ok (.aload_n 0, 1) := by decide +kernel
theorem dX11_year_8 : decode cX11_year 8 = .ok (.getfield 10, 3) := by decide +kernel
theorem dX11_year_11 : decode cX11_year 11 = .ok (.getfield 73, 3) := by decide +kernel
theorem dX11_year_14 : decode cX11_year 14 = .ok (.invokevirtual 190, 3) := by decide +kernel
theorem dX11_year_17 : decode cX11_year 17 = .ok (.aload_n 0, 1) := by decide +kernel
theorem dX11_year_18 : decode cX11_year 18 = .ok (.getfield 10, 3) := by decide +kernel
theorem dX11_year_21 : decode cX11_year 21 = .ok (.getfield 73, 3) := by decide +kernel
theorem dX11_year_24 : decode cX11_year 24 = .ok (.invokevirtual 199, 3) := by decide +kernel
theorem dX11_year_27 : decode cX11_year 27 = .ok (.ireturn, 1) := by decide +kernel
theorem dX11_undo_0 : decode cX11_undo 0 = .ok (.aload_n 0, 1) := by decide +kernel
theorem dX11_undo_1 : decode cX11_undo 1 = .ok (.getfield 10, 3) := by decide +kernel
theorem dX11_undo_4 : decode cX11_undo 4 = .ok (.getfield 86, 3) := by decide +kernel
theorem dX11_undo_7 : decode cX11_undo 7 = .ok (.getfield 90, 3) := by decide +kernel
theorem dX11_undo_10 : decode cX11_undo 10 = .ok (.ifCond .ne 12, 3) := by decide +kernel
theorem dX11_undo_13 : decode cX11_undo 13 = .ok (.aload_n 0, 1) := by decide +kernel
theorem dX11_undo_14 : decode cX11_undo 14 = .ok (.bipush (-3), 2) := by decide +kernel
theorem dX11_undo_16 : decode cX11_undo 16 = .ok (.bipush (-3), 2) := by decide +kernel
theorem dX11_undo_18 : decode cX11_undo 18 = .ok (.invokevirtual 82, 3) := by decide +kernel
theorem dX11_undo_21 : decode cX11_undo 21 = .ok (.ireturn, 1) := by decide +kernel
theorem dX11_undo_22 : decode cX11_undo 22 = .ok (.aload_n 0, 1) := by decide +kernel
theorem dX11_undo_23 : decode cX11_undo 23 = .ok (.getfield 10, 3) := by decide +kernel
theorem dX11_undo_26 : decode cX11_undo 26 = .ok (.getfield 86, 3) := by decide +kernel
theorem dX11_undo_29 : decode cX11_undo 29 = .ok (.aload_n 0, 1) := by decide +kernel
theorem dX11_undo_30 : decode cX11_undo 30 = .ok (.getfield 10, 3) := by decide +kernel
theorem dX11_undo_33 : decode cX11_undo 33 = .ok (.getfield 73, 3) := by decide +kernel
theorem dX11_undo_36 : decode cX11_undo 36 = .ok (.invokevirtual 202, 3) := by decide +kernel
theorem dX11_undo_39 : decode cX11_undo 39 = .ok (.iconst 1, 1) := by decide +kernel
theorem dX11_undo_40 : decode cX11_undo 40 = .ok (.ireturn, 1) := by decide +kernel
theorem dX11_want_0 : decode cX11_want 0 = .ok (.iload_n 1, 1) := by decide +kernel
theorem dX11_want_1 : decode cX11_want 1 = .ok (.invokestatic 108, 3) := by decide +kernel
theorem dX11_want_4 : decode cX11_want 4 = .ok (.ifCond .ne 12, 3) := by decide +kernel
theorem dX11_want_7 : decode cX11_want 7 = .ok (.aload_n 0, 1) := by decide +kernel
theorem dX11_want_8 : decode cX11_want 8 = .ok (.bipush (-2), 2) := by decide +kernel
theorem dX11_want_10 : decode cX11_want 10 = .ok (.bipush (-2), 2) := by decide +kernel
theorem dX11_want_12 : decode cX11_want 12 = .ok (.invokevirtual 82, 3) := by decide +kernel
theorem dX11_want_15 : decode cX11_want 15 = .ok (.ireturn, 1) := by decide +kernel
theorem dX11_want_16 : decode cX11_want 16 = .ok (.aload_n 0, 1) := by decide +kernel
theorem dX11_want_17 : decode cX11_want 17 = .ok (.getfield 10, 3) := by decide +kernel
theorem dX11_want_20 : decode cX11_want 20 = .ok (.getfield 205, 3) := by decide +kernel
theorem dX11_want_23 : decode cX11_want 23 = .ok (.iconst 4, 1) := by decide +kernel
theorem dX11_want_24 : decode cX11_want 24 = .ok (.if_icmp .lt 12, 3) := by decide +kernel
theorem dX11_want_27 : decode cX11_want 27 = .ok (.aload_n 0, 1) := by decide +kernel
theorem dX11_want_28 : decode cX11_want 28 = .ok (.bipush (-4), 2) := by decide +kernel
theorem dX11_want_30 : decode cX11_want 30 = .ok (.bipush (-4), 2) := by decide +kernel
theorem dX11_want_32 : decode cX11_want 32 = .ok (.invokevirtual 82, 3) := by decide +kernel
theorem dX11_want_35 : decode cX11_want 35 = .ok (.ireturn, 1) := by decide +kernel
theorem dX11_want_36 : decode cX11_want 36 = .ok (.aload_n 0, 1) := by decide +kernel
theorem dX11_want_37 : decode cX11_want 37 = .ok (.getfield 10, 3) := by decide +kernel
theorem dX11_want_40 : decode cX11_want 40 = .ok (.getfield 208, 3) := by decide +kernel
theorem dX11_want_43 : decode cX11_want 43 = .ok (.aload_n 0, 1) := by decide +kernel
theorem dX11_want_44 : decode cX11_want 44 = .ok (.getfield 10, 3) := by decide +kernel
theorem dX11_want_47 : decode cX11_want 47 = .ok (.getfield 205, 3) := by decide +kernel
theorem dX11_want_50 : decode cX11_want 50 = .ok (.iload_n 1, 1) := by decide +kernel
theorem dX11_want_51 : decode cX11_want 51 = .ok (.iastore, 1) := by decide +kernel
theorem dX11_want_52 : decode cX11_want 52 = .ok (.aload_n 0, 1) := by decide +kernel
theorem dX11_want_53 : decode cX11_want 53 = .ok (.getfield 10, 3) := by decide +kernel
theorem dX11_want_56 : decode cX11_want 56 = .ok (.dup, 1) := by decide +kernel
theorem dX11_want_57 : decode cX11_want 57 = .ok (.getfield 205, 3) := by decide +kernel
theorem dX11_want_60 : decode cX11_want 60 = .ok (.iconst 1, 1) := by decide +kernel
theorem dX11_want_61 : decode cX11_want 61 = .ok (.iadd, 1) := by decide +kernel
theorem dX11_want_62 : decode cX11_want 62 = .ok (.putfield 205, 3) := by decide +kernel
theorem dX11_want_65 : decode cX11_want 65 = .ok (.aload_n 0, 1) := by decide +kernel
theorem dX11_want_66 : decode cX11_want 66 = .ok (.getfield 10, 3) := by decide +kernel
theorem dX11_want_69 : decode cX11_want 69 = .ok (.getfield 205, 3) := by decide +kernel
theorem dX11_want_72 : decode cX11_want 72 = .ok (.ireturn, 1) := by decide +kernel
theorem dX11_forget_0 : decode cX11_forget 0 = .ok (.aload_n 0, 1) := by decide +kernel
theorem dX11_forget_1 : decode cX11_forget 1 = .ok (.getfield 10, 3) := by decide +kernel
theorem dX11_forget_4 : decode cX11_forget 4 = .ok (.getfield 205, 3) := by decide +kernel
theorem dX11_forget_7 : decode cX11_forget 7 = .ok (.istore_n 1, 1) := by decide +kernel
theorem dX11_forget_8 : decode cX11_forget 8 = .ok (.aload_n 0, 1) := by decide +kernel
theorem dX11_forget_9 : decode cX11_forget 9 = .ok (.getfield 10, 3) := by decide +kernel
theorem dX11_forget_12 : decode cX11_forget 12 = .ok (.iconst 0, 1) := by decide +kernel
theorem dX11_forget_13 : decode cX11_forget 13 = .ok (.putfield 205, 3) := by decide +kernel
theorem dX11_forget_16 : decode cX11_forget 16 = .ok (.iload_n 1, 1) := by decide +kernel
theorem dX11_forget_17 : decode cX11_forget 17 = .ok (.ireturn, 1) := by decide +kernel
theorem dX11_hide_0 : decode cX11_hide 0 = .ok (.aload_n 0, 1) := by decide +kernel
theorem dX11_hide_1 : decode cX11_hide 1 = .ok (.iload_n 1, 1) := by decide +kernel
theorem dX11_hide_2 : decode cX11_hide 2 = .ok (.invokevirtual 104, 3) := by decide +kernel
theorem dX11_hide_5 : decode cX11_hide 5 = .ok (.ifCond .eq 20, 3) := by decide +kernel
theorem dX11_hide_8 : decode cX11_hide 8 = .ok (.aload_n 0, 1) := by decide +kernel
theorem dX11_hide_9 : decode cX11_hide 9 = .ok (.iload_n 2, 1) := by decide +kernel
theorem dX11_hide_10 : decode cX11_hide 10 = .ok (.invokevirtual 104, 3) := by decide +kernel
theorem dX11_hide_13 : decode cX11_hide 13 = .ok (.ifCond .eq 12, 3) := by decide +kernel
theorem dX11_hide_16 : decode cX11_hide 16 = .ok (.iload_n 3, 1) := by decide +kernel
theorem dX11_hide_17 : decode cX11_hide 17 = .ok (.ifCond .lt 8, 3) := by decide +kernel
theorem dX11_hide_20 : decode cX11_hide 20 = .ok (.iload_n 3, 1) := by decide +kernel
theorem dX11_hide_21 : decode cX11_hide 21 = .ok (.iconst 5, 1) := by decide +kernel
theorem dX11_hide_22 : decode cX11_hide 22 = .ok (.if_icmp .le 12, 3) := by decide +kernel
theorem dX11_hide_25 : decode cX11_hide 25 = .ok (.aload_n 0, 1) := by decide +kernel
theorem dX11_hide_26 : decode cX11_hide 26 = .ok (.bipush (-2), 2) := by decide +kernel
theorem dX11_hide_28 : decode cX11_hide 28 = .ok (.bipush (-10), 2) := by decide +kernel
theorem dX11_hide_30 : decode cX11_hide 30 = .ok (.invokevirtual 82, 3) := by decide +kernel
theorem dX11_hide_33 : decode cX11_hide 33 = .ok (.ireturn, 1) := by decide +kernel
theorem dX11_hide_34 : decode cX11_hide 34 = .ok (.aload_n 0, 1) := by decide +kernel
theorem dX11_hide_35 : decode cX11_hide 35 = .ok (.getfield 50, 3) := by decide +kernel
theorem dX11_hide_38 : decode cX11_hide 38 = .ok (.iconst 0, 1) := by decide +kernel
theorem dX11_hide_39 : decode cX11_hide 39 = .ok (.aaload, 1) := by decide +kernel
theorem dX11_hide_40 : decode cX11_hide 40 = .ok (.aload_n 0, 1) := by decide +kernel
theorem dX11_hide_41 : decode cX11_hide 41 = .ok (.getfield 10, 3) := by decide +kernel
theorem dX11_hide_44 : decode cX11_hide 44 = .ok (.getfield 73, 3) := by decide +kernel
theorem dX11_hide_47 : decode cX11_hide 47 = .ok (.iload_n 1, 1) := by decide +kernel
theorem dX11_hide_48 : decode cX11_hide 48 = .ok (.invokevirtual 211, 3) := by decide +kernel
theorem dX11_hide_51 : decode cX11_hide 51 = .ok (.aload_n 0, 1) := by decide +kernel
theorem dX11_hide_52 : decode cX11_hide 52 = .ok (.getfield 50, 3) := by decide +kernel
theorem dX11_hide_55 : decode cX11_hide 55 = .ok (.iconst 2, 1) := by decide +kernel
theorem dX11_hide_56 : decode cX11_hide 56 = .ok (.aaload, 1) := by decide +kernel
theorem dX11_hide_57 : decode cX11_hide 57 = .ok (.aload_n 0, 1) := by decide +kernel
theorem dX11_hide_58 : decode cX11_hide 58 = .ok (.getfield 10, 3) := by decide +kernel
theorem dX11_hide_61 : decode cX11_hide 61 = .ok (.getfield 73, 3) := by decide +kernel
theorem dX11_hide_64 : decode cX11_hide 64 = .ok (.iload_n 2, 1) := by decide +kernel
theorem dX11_hide_65 : decode cX11_hide 65 = .ok (.invokevirtual 211, 3) := by decide +kernel
theorem dX11_hide_68 : decode cX11_hide 68 = .ok (.iconst 1, 1) := by decide +kernel
theorem dX11_hide_69 : decode cX11_hide 69 = .ok (.aload_n 0, 1) := by decide +kernel
theorem dX11_hide_70 : decode cX11_hide 70 = .ok (.getfield 10, 3) := by decide +kernel
theorem dX11_hide_73 : decode cX11_hide 73 = .ok (.getfield 205, 3) := by decide +kernel
theorem dX11_hide_76 : decode cX11_hide 76 = .ok (.invokestatic 215, 3) := by decide +kernel
theorem dX11_hide_79 : decode cX11_hide 79 = .ok (.istore 4, 2) := by decide +kernel
theorem dX11_hide_81 : decode cX11_hide 81 = .ok (.iload 4, 2) := by decide +kernel
theorem dX11_hide_83 : decode cX11_hide 83 = .ok (.iconst 5, 1) := by decide +kernel
theorem dX11_hide_84 : decode cX11_hide 84 = .ok (.if_icmp .gt 27, 3) := by decide +kernel
theorem dX11_hide_87 : decode cX11_hide 87 = .ok (.aload_n 0, 1) := by decide +kernel
theorem dX11_hide_88 : decode cX11_hide 88 = .ok (.iload 4, 2) := by decide +kernel
theorem dX11_hide_90 : decode cX11_hide 90 = .ok (.iload_n 3, 1) := by decide +kernel
theorem dX11_hide_91 : decode cX11_hide 91 = .ok (.invokevirtual 218, 3) := by decide +kernel
theorem dX11_hide_94 : decode cX11_hide 94 = .ok (.ifCond .eq 11, 3) := by decide +kernel
theorem dX11_hide_97 : decode cX11_hide 97 = .ok (.aload_n 0, 1) := by decide +kernel
theorem dX11_hide_98 : decode cX11_hide 98 = .ok (.getfield 57, 3) := by decide +kernel
theorem dX11_hide_101 : decode cX11_hide 101 = .ok (.invokevirtual 221, 3) := by decide +kernel
theorem dX11_hide_104 : decode cX11_hide 104 = .ok (.ireturn, 1) := by decide +kernel
theorem dX11_hide_105 : decode cX11_hide 105 = .ok (.iinc 4 1, 3) := by decide +kernel
theorem dX11_hide_108 : decode cX11_hide 108 = .ok (.goto (-27), 3) := by decide +kernel
theorem dX11_hide_111 : decode cX11_hide 111 = .ok (.iconst (-1), 1) := by decide +kernel
theorem dX11_hide_112 : decode cX11_hide 112 = .ok (.ireturn, 1) := by decide +kernel
theorem dX11_save_0 : decode cX11_save 0 = .ok (.aload_n 0, 1) := by decide +kernel
theorem dX11_save_1 : decode cX11_save 1 = .ok (.iload_n 1, 1) := by decide +kernel
theorem dX11_save_2 : decode cX11_save 2 = .ok (.invokevirtual 104, 3) := by decide +kernel
theorem dX11_save_5 : decode cX11_save 5 = .ok (.ifCond .eq 19, 3) := by decide +kernel
theorem dX11_save_8 : decode cX11_save 8 = .ok (.iload_n 2, 1) := by decide +kernel
theorem dX11_save_9 : decode cX11_save 9 = .ok (.invokestatic 108, 3) := by decide +kernel
theorem dX11_save_12 : decode cX11_save 12 = .ok (.ifCond .eq 12, 3) := by decide +kernel
theorem dX11_save_15 : decode cX11_save 15 = .ok (.iload_n 3, 1) := by decide +kernel
theorem dX11_save_16 : decode cX11_save 16 = .ok (.ifCond .lt 8, 3) := by decide +kernel
theorem dX11_save_19 : decode cX11_save 19 = .ok (.iload_n 3, 1) := by decide +kernel
theorem dX11_save_20 : decode cX11_save 20 = .ok (.iconst 1, 1) := by decide +kernel
theorem dX11_save_21 : decode cX11_save 21 = .ok (.if_icmp .le 12, 3) := by decide +kernel
theorem dX11_save_24 : decode cX11_save 24 = .ok (.aload_n 0, 1) := by decide +kernel
theorem dX11_save_25 : decode cX11_save 25 = .ok (.bipush (-2), 2) := by decide +kernel
theorem dX11_save_27 : decode cX11_save 27 = .ok (.bipush (-10), 2) := by decide +kernel
theorem dX11_save_29 : decode cX11_save 29 = .ok (.invokevirtual 82, 3) := by decide +kernel
theorem dX11_save_32 : decode cX11_save 32 = .ok (.ireturn, 1) := by decide +kernel
theorem dX11_save_33 : decode cX11_save 33 = .ok (.aload_n 0, 1) := by decide +kernel
theorem dX11_save_34 : decode cX11_save 34 = .ok (.getfield 10, 3) := by decide +kernel
theorem dX11_save_37 : decode cX11_save 37 = .ok (.getfield 169, 3) := by decide +kernel
theorem dX11_save_40 : decode cX11_save 40 = .ok (.ifCond .ne 12, 3) := by decide +kernel
theorem dX11_save_43 : decode cX11_save 43 = .ok (.aload_n 0, 1) := by decide +kernel
theorem dX11_save_44 : decode cX11_save 44 = .ok (.bipush (-3), 2) := by decide +kernel
theorem dX11_save_46 : decode cX11_save 46 = .ok (.bipush (-20), 2) := by decide +kernel
theorem dX11_save_48 : decode cX11_save 48 = .ok (.invokevirtual 82, 3) := by decide +kernel
theorem dX11_save_51 : decode cX11_save 51 = .ok (.ireturn, 1) := by decide +kernel
theorem dX11_save_52 : decode cX11_save 52 = .ok (.aload_n 0, 1) := by decide +kernel
theorem dX11_save_53 : decode cX11_save 53 = .ok (.getfield 50, 3) := by decide +kernel
theorem dX11_save_56 : decode cX11_save 56 = .ok (.iconst 0, 1) := by decide +kernel
theorem dX11_save_57 : decode cX11_save 57 = .ok (.aaload, 1) := by decide +kernel
theorem dX11_save_58 : decode cX11_save 58 = .ok (.aload_n 0, 1) := by decide +kernel
theorem dX11_save_59 : decode cX11_save 59 = .ok (.getfield 10, 3) := by decide +kernel
theorem dX11_save_62 : decode cX11_save 62 = .ok (.getfield 73, 3) := by decide +kernel
theorem dX11_save_65 : decode cX11_save 65 = .ok (.iload_n 1, 1) := by decide +kernel
theorem dX11_save_66 : decode cX11_save 66 = .ok (.invokevirtual 211, 3) := by decide +kernel
theorem dX11_save_69 : decode cX11_save 69 = .ok (.iconst 0, 1) := by decide +kernel
theorem dX11_save_70 : decode cX11_save 70 = .ok (.istore 4, 2) := by decide +kernel
theorem dX11_save_72 : decode cX11_save 72 = .ok (.iload 4, 2) := by decide +kernel
theorem dX11_save_74 : decode cX11_save 74 = .ok (.aload_n 0, 1) := by decide +kernel
theorem dX11_save_75 : decode cX11_save 75 = .ok (.getfield 10, 3) := by decide +kernel
theorem dX11_save_78 : decode cX11_save 78 = .ok (.getfield 169, 3) := by decide +kernel
theorem dX11_save_81 : decode cX11_save 81 = .ok (.if_icmp .gt 36, 3) := by decide +kernel
theorem dX11_save_84 : decode cX11_save 84 = .ok (.aload_n 0, 1) := by decide +kernel
theorem dX11_save_85 : decode cX11_save 85 = .ok (.iload 4, 2) := by decide +kernel
theorem dX11_save_87 : decode cX11_save 87 = .ok (.iload_n 2, 1) := by decide +kernel
theorem dX11_save_88 : decode cX11_save 88 = .ok (.invokevirtual 224, 3) := by decide +kernel
theorem dX11_save_91 : decode cX11_save 91 = .ok (.ifCond .eq 20, 3) := by decide +kernel
theorem dX11_save_94 : decode cX11_save 94 = .ok (.iload_n 3, 1) := by decide +kernel
theorem dX11_save_95 : decode cX11_save 95 = .ok (.ifCond .ne 8, 3) := by decide +kernel
theorem dX11_save_98 : decode cX11_save 98 = .ok (.iload 4, 2) := by decide +kernel
theorem dX11_save_100 : decode cX11_save 100 = .ok (.goto 10, 3) := by decide +kernel
theorem dX11_save_103 : decode cX11_save 103 = .ok (.aload_n 0, 1) := by decide +kernel
theorem dX11_save_104 : decode cX11_save 104 = .ok (.getfield 57, 3) := by decide +kernel
theorem dX11_save_107 : decode cX11_save 107 = .ok (.invokevirtual 221, 3) := by decide +kernel
theorem dX11_save_110 : decode cX11_save 110 = .ok (.ireturn, 1) := by decide +kernel
theorem dX11_save_111 : decode cX11_save 111 = .ok (.iinc 4 1, 3) := by decide +kernel
theorem dX11_save_114 : decode cX11_save 114 = .ok (.goto (-42), 3) := by decide +kernel
theorem dX11_save_117 : decode cX11_save 117 = .ok (.iconst (-1), 1) := by decide +kernel
theorem dX11_save_118 : decode cX11_save 118 = .ok (.ireturn, 1) := by decide +kernel
theorem dX11_safe_0 : decode cX11_safe 0 = .ok (.aload_n 0, 1) := by decide +kernel
theorem dX11_safe_1 : decode cX11_safe 1 = .ok (.iload_n 1, 1) := by decide +kernel
theorem dX11_safe_2 : decode cX11_safe 2 = .ok (.invokevirtual 104, 3) := by decide +kernel
theorem dX11_safe_5 : decode cX11_safe 5 = .ok (.ifCond .ne 12, 3) := by decide +kernel
theorem dX11_safe_8 : decode cX11_safe 8 = .ok (.aload_n 0, 1) := by decide +kernel
theorem dX11_safe_9 : decode cX11_safe 9 = .ok (.bipush (-2), 2) := by decide +kernel
theorem dX11_safe_11 : decode cX11_safe 11 = .ok (.bipush (-2), 2) := by decide +kernel
theorem dX11_safe_13 : decode cX11_safe 13 = .ok (.invokevirtual 82, 3) := by decide +kernel
theorem dX11_safe_16 : decode cX11_safe 16 = .ok (.ireturn, 1) := by decide +kernel
theorem dX11_safe_17 : decode cX11_safe 17 = .ok (.aload_n 0, 1) := by decide +kernel
theorem dX11_safe_18 : decode cX11_safe 18 = .ok (.getfield 50, 3) := by decide +kernel
theorem dX11_safe_21 : decode cX11_safe 21 = .ok (.iconst 0, 1) := by decide +kernel
theorem dX11_safe_22 : decode cX11_safe 22 = .ok (.aaload, 1) := by decide +kernel
theorem dX11_safe_23 : decode cX11_safe 23 = .ok (.aload_n 0, 1) := by decide +kernel
theorem dX11_safe_24 : decode cX11_safe 24 = .ok (.getfield 10, 3) := by decide +kernel
theorem dX11_safe_27 : decode cX11_safe 27 = .ok (.getfield 73, 3) := by decide +kernel
theorem dX11_safe_30 : decode cX11_safe 30 = .ok (.iload_n 1, 1) := by decide +kernel
theorem dX11_safe_31 : decode cX11_safe 31 = .ok (.invokevirtual 211, 3) := by decide +kernel
theorem dX11_safe_34 : decode cX11_safe 34 = .ok (.iconst 0, 1) := by decide +kernel
theorem dX11_safe_35 : decode cX11_safe 35 = .ok (.istore_n 2, 1) := by decide +kernel
theorem dX11_safe_36 : decode cX11_safe 36 = .ok (.iconst 0, 1) := by decide +kernel
theorem dX11_safe_37 : decode cX11_safe 37 = .ok (.istore_n 3, 1) := by decide +kernel
theorem dX11_safe_38 : decode cX11_safe 38 = .ok (.iconst 0, 1) := by decide +kernel
theorem dX11_safe_39 : decode cX11_safe 39 = .ok (.istore 4, 2) := by decide +kernel
theorem dX11_safe_41 : decode cX11_safe 41 = .ok (.iload 4, 2) := by decide +kernel
theorem dX11_safe_43 : decode cX11_safe 43 = .ok (.aload_n 0, 1) := by decide +kernel
theorem dX11_safe_44 : decode cX11_safe 44 = .ok (.getfield 10, 3) := by decide +kernel
theorem dX11_safe_47 : decode cX11_safe 47 = .ok (.getfield 73, 3) := by decide +kernel
theorem dX11_safe_50 : decode cX11_safe 50 = .ok (.getfield 115, 3) := by decide +kernel
theorem dX11_safe_53 : decode cX11_safe 53 = .ok (.iload_n 1, 1) := by decide +kernel
theorem dX11_safe_54 : decode cX11_safe 54 = .ok (.iaload, 1) := by decide +kernel
theorem dX11_safe_55 : decode cX11_safe 55 = .ok (.if_icmp .ge 69, 3) := by decide +kernel
theorem dX11_safe_58 : decode cX11_safe 58 = .ok (.iload_n 1, 1) := by decide +kernel
theorem dX11_safe_59 : decode cX11_safe 59 = .ok (.bipush 8, 2) := by decide +kernel
theorem dX11_safe_61 : decode cX11_safe 61 = .ok (.imul, 1) := by decide +kernel
theorem dX11_safe_62 : decode cX11_safe 62 = .ok (.iload 4, 2) := by decide +kernel
theorem dX11_safe_64 : decode cX11_safe 64 = .ok (.iadd, 1) := by decide +kernel
theorem dX11_safe_65 : decode cX11_safe 65 = .ok (.istore 5, 2) := by decide +kernel
theorem dX11_safe_67 : decode cX11_safe 67 = .ok (.aload_n 0, 1) := by decide +kernel
theorem dX11_safe_68 : decode cX11_safe 68 = .ok (.getfield 10, 3) := by decide +kernel
theorem dX11_safe_71 : decode cX11_safe 71 = .ok (.getfield 73, 3) := by decide +kernel
theorem dX11_safe_74 : decode cX11_safe 74 = .ok (.getfield 125, 3) := by decide +kernel
theorem dX11_safe_77 : decode cX11_safe 77 = .ok (.iload 5, 2) := by decide +kernel
theorem dX11_safe_79 : decode cX11_safe 79 = .ok (.iaload, 1) := by decide +kernel
theorem dX11_safe_80 : decode cX11_safe 80 = .ok (.istore 6, 2) := by decide +kernel
theorem dX11_safe_82 : decode cX11_safe 82 = .ok (.iload_n 2, 1) := by decide +kernel
theorem dX11_safe_83 : decode cX11_safe 83 = .ok (.iconst 1, 1) := by decide +kernel
theorem dX11_safe_84 : decode cX11_safe 84 = .ok (.iload 6, 2) := by decide +kernel
theorem dX11_safe_86 : decode cX11_safe 86 = .ok (.ishl, 1) := by decide +kernel
theorem dX11_safe_87 : decode cX11_safe 87 = .ok (.ior, 1) := by decide +kernel
theorem dX11_safe_88 : decode cX11_safe 88 = .ok (.istore_n 2, 1) := by decide +kernel
theorem dX11_safe_89 : decode cX11_safe 89 = .ok (.aload_n 0, 1) := by decide +kernel
theorem dX11_safe_90 : decode cX11_safe 90 = .ok (.aload_n 0, 1) := by decide +kernel
theorem dX11_safe_91 : decode cX11_safe 91 = .ok (.getfield 10, 3) := by decide +kernel
theorem dX11_safe_94 : decode cX11_safe 94 = .ok (.getfield 73, 3) := by decide +kernel
theorem dX11_safe_97 : decode cX11_safe 97 = .ok (.getfield 122, 3) := by decide +kernel
theorem dX11_safe_100 : decode cX11_safe 100 = .ok (.iload 5, 2) := by decide +kernel
theorem dX11_safe_102 : decode cX11_safe 102 = .ok (.iaload, 1) := by decide +kernel
theorem dX11_safe_103 : decode cX11_safe 103 = .ok (.iload 6, 2) := by decide +kernel
theorem dX11_safe_105 : decode cX11_safe 105 = .ok (.invokevirtual 227, 3) := by decide +kernel
theorem dX11_safe_108 : decode cX11_safe 108 = .ok (.ifCond .ne 10, 3) := by decide +kernel
theorem dX11_safe_111 : decode cX11_safe 111 = .ok (.iload_n 3, 1) := by decide +kernel
theorem dX11_safe_112 : decode cX11_safe 112 = .ok (.iconst 1, 1) := by decide +kernel
theorem dX11_safe_113 : decode cX11_safe 113 = .ok (.iload 6, 2) := by decide +kernel
theorem dX11_safe_115 : decode cX11_safe 115 = .ok (.ishl, 1) := by decide +kernel
theorem dX11_safe_116 : decode cX11_safe 116 = .ok (.ior, 1) := by decide +kernel
theorem dX11_safe_117 : decode cX11_safe 117 = .ok (.istore_n 3, 1) := by decide +kernel
theorem dX11_safe_118 : decode cX11_safe 118 = .ok (.iinc 4 1, 3) := by decide +kernel
theorem dX11_safe_121 : decode cX11_safe 121 = .ok (.goto (-80), 3) := by decide +kernel
theorem dX11_safe_124 : decode cX11_safe 124 = .ok (.iload_n 2, 1) := by decide +kernel
theorem dX11_safe_125 : decode cX11_safe 125 = .ok (.iload_n 3, 1) := by decide +kernel
theorem dX11_safe_126 : decode cX11_safe 126 = .ok (.iconst (-1), 1) := by decide +kernel
theorem dX11_safe_127 : decode cX11_safe 127 = .ok (.ixor, 1) := by decide +kernel
theorem dX11_safe_128 : decode cX11_safe 128 = .ok (.iand, 1) := by decide +kernel
theorem dX11_safe_129 : decode cX11_safe 129 = .ok (.ireturn, 1) := by decide +kernel
theorem dX11_fact_0 : decode cX11_fact 0 = .ok (.iload_n 1, 1) := by decide +kernel
theorem dX11_fact_1 : decode cX11_fact 1 = .ok (.invokestatic 98, 3) := by decide +kernel
theorem dX11_fact_4 : decode cX11_fact 4 = .ok (.istore_n 3, 1) := by decide +kernel
theorem dX11_fact_5 : decode cX11_fact 5 = .ok (.iload_n 3, 1) := by decide +kernel
theorem dX11_fact_6 : decode cX11_fact 6 = .ok (.iconst 1, 1) := by decide +kernel
theorem dX11_fact_7 : decode cX11_fact 7 = .ok (.if_icmp .lt 15, 3) := by decide +kernel
theorem dX11_fact_10 : decode cX11_fact 10 = .ok (.iload_n 3, 1) := by decide +kernel
theorem dX11_fact_11 : decode cX11_fact 11 = .ok (.iconst 5, 1) := by decide +kernel
theorem dX11_fact_12 : decode cX11_fact 12 = .ok (.if_icmp .gt 10, 3) := by decide +kernel
theorem dX11_fact_15 : decode cX11_fact 15 = .ok (.iload_n 2, 1) := by decide +kernel
theorem dX11_fact_16 : decode cX11_fact 16 = .ok (.invokestatic 108, 3) := by decide +kernel
theorem dX11_fact_19 : decode cX11_fact 19 = .ok (.ifCond .ne 12, 3) := by decide +kernel
theorem dX11_fact_22 : decode cX11_fact 22 = .ok (.aload_n 0, 1) := by decide +kernel
theorem dX11_fact_23 : decode cX11_fact 23 = .ok (.bipush (-2), 2) := by decide +kernel
theorem dX11_fact_25 : decode cX11_fact 25 = .ok (.bipush (-2), 2) := by decide +kernel
theorem dX11_fact_27 : decode cX11_fact 27 = .ok (.invokevirtual 82, 3) := by decide +kernel
theorem dX11_fact_30 : decode cX11_fact 30 = .ok (.ireturn, 1) := by decide +kernel
theorem dX11_fact_31 : decode cX11_fact 31 = .ok (.aload_n 0, 1) := by decide +kernel
theorem dX11_fact_32 : decode cX11_fact 32 = .ok (.getfield 10, 3) := by decide +kernel
theorem dX11_fact_35 : decode cX11_fact 35 = .ok (.getfield 230, 3) := by decide +kernel
theorem dX11_fact_38 : decode cX11_fact 38 = .ok (.bipush 8, 2) := by decide +kernel
theorem dX11_fact_40 : decode cX11_fact 40 = .ok (.if_icmp .lt 12, 3) := by decide +kernel
theorem dX11_fact_43 : decode cX11_fact 43 = .ok (.aload_n 0, 1) := by decide +kernel
theorem dX11_fact_44 : decode cX11_fact 44 = .ok (.bipush (-4), 2) := by decide +kernel
theorem dX11_fact_46 : decode cX11_fact 46 = .ok (.bipush (-4), 2) := by decide +kernel
theorem dX11_fact_48 : decode cX11_fact 48 = .ok (.invokevirtual 82, 3) := by decide +kernel
theorem dX11_fact_51 : decode cX11_fact 51 = .ok (.ireturn, 1) := by decide +kernel
theorem dX11_fact_52 : decode cX11_fact 52 = .ok (.aload_n 0, 1) := by decide +kernel
theorem dX11_fact_53 : decode cX11_fact 53 = .ok (.getfield 10, 3) := by decide +kernel
theorem dX11_fact_56 : decode cX11_fact 56 = .ok (.getfield 233, 3) := by decide +kernel
theorem dX11_fact_59 : decode cX11_fact 59 = .ok (.aload_n 0, 1) := by decide +kernel
theorem dX11_fact_60 : decode cX11_fact 60 = .ok (.getfield 10, 3) := by decide +kernel
theorem dX11_fact_63 : decode cX11_fact 63 = .ok (.getfield 230, 3) := by decide +kernel
theorem dX11_fact_66 : decode cX11_fact 66 = .ok (.iload_n 1, 1) := by decide +kernel
theorem dX11_fact_67 : decode cX11_fact 67 = .ok (.iastore, 1) := by decide +kernel
theorem dX11_fact_68 : decode cX11_fact 68 = .ok (.aload_n 0, 1) := by decide +kernel
theorem dX11_fact_69 : decode cX11_fact 69 = .ok (.getfield 10, 3) := by decide +kernel
theorem dX11_fact_72 : decode cX11_fact 72 = .ok (.getfield 236, 3) := by decide +kernel
theorem dX11_fact_75 : decode cX11_fact 75 = .ok (.aload_n 0, 1) := by decide +kernel
theorem dX11_fact_76 : decode cX11_fact 76 = .ok (.getfield 10, 3) := by decide +kernel
theorem dX11_fact_79 : decode cX11_fact 79 = .ok (.getfield 230, 3) := by decide +kernel
theorem dX11_fact_82 : decode cX11_fact 82 = .ok (.iload_n 2, 1) := by decide +kernel
theorem dX11_fact_83 : decode cX11_fact 83 = .ok (.iastore, 1) := by decide +kernel
theorem dX11_fact_84 : decode cX11_fact 84 = .ok (.aload_n 0, 1) := by decide +kernel
theorem dX11_fact_85 : decode cX11_fact 85 = .ok (.getfield 10, 3) := by decide +kernel
theorem dX11_fact_88 : decode cX11_fact 88 = .ok (.dup, 1) := by decide +kernel
theorem dX11_fact_89 : decode cX11_fact 89 = .ok (.getfield 230, 3) := by decide +kernel
theorem dX11_fact_92 : decode cX11_fact 92 = .ok (.iconst 1, 1) := by decide +kernel
theorem dX11_fact_93 : decode cX11_fact 93 = .ok (.iadd, 1) := by decide +kernel
theorem dX11_fact_94 : decode cX11_fact 94 = .ok (.putfield 230, 3) := by decide +kernel
theorem dX11_fact_97 : decode cX11_fact 97 = .ok (.aload_n 0, 1) := by decide +kernel
theorem dX11_fact_98 : decode cX11_fact 98 = .ok (.getfield 10, 3) := by decide +kernel
theorem dX11_fact_101 : decode cX11_fact 101 = .ok (.getfield 230, 3) := by decide +kernel
theorem dX11_fact_104 : decode cX11_fact 104 = .ok (.iconst 1, 1) := by decide +kernel
theorem dX11_fact_105 : decode cX11_fact 105 = .ok (.isub, 1) := by decide +kernel
theorem dX11_fact_106 : decode cX11_fact 106 = .ok (.ireturn, 1) := by decide +kernel
theorem dX11_mayBe_0 : decode cX11_mayBe 0 = .ok (.iconst 0, 1) := by decide +kernel
theorem dX11_mayBe_1 : decode cX11_mayBe 1 = .ok (.istore_n 1, 1) := by decide +kernel
theorem dX11_mayBe_2 : decode cX11_mayBe 2 = .ok (.iconst 0, 1) := by decide +kernel
theorem dX11_mayBe_3 : decode cX11_mayBe 3 = .ok (.istore_n 2, 1) := by decide +kernel
theorem dX11_mayBe_4 : decode cX11_mayBe 4 = .ok (.iload_n 2, 1) := by decide +kernel
theorem dX11_mayBe_5 : decode cX11_mayBe 5 = .ok (.aload_n 0, 1) := by decide +kernel
theorem dX11_mayBe_6 : decode cX11_mayBe 6 = .ok (.getfield 10, 3) := by decide +kernel
theorem dX11_mayBe_9 : decode cX11_mayBe 9 = .ok (.getfield 73, 3) := by decide +kernel
theorem dX11_mayBe_12 : decode cX11_mayBe 12 = .ok (.getfield 77, 3) := by decide +kernel
theorem dX11_mayBe_15 : decode cX11_mayBe 15 = .ok (.if_icmp .ge 23, 3) := by decide +kernel
theorem dX11_mayBe_18 : decode cX11_mayBe 18 = .ok (.aload_n 0, 1) := by decide +kernel
theorem dX11_mayBe_19 : decode cX11_mayBe 19 = .ok (.iload_n 2, 1) := by decide +kernel
theorem dX11_mayBe_20 : decode cX11_mayBe 20 = .ok (.invokevirtual 239, 3) := by decide +kernel
theorem dX11_mayBe_23 : decode cX11_mayBe 23 = .ok (.ifCond .eq 9, 3) := by decide +kernel
theorem dX11_mayBe_26 : decode cX11_mayBe 26 = .ok (.iload_n 1, 1) := by decide +kernel
theorem dX11_mayBe_27 : decode cX11_mayBe 27 = .ok (.iconst 1, 1) := by decide +kernel
theorem dX11_mayBe_28 : decode cX11_mayBe 28 = .ok (.iload_n 2, 1) := by decide +kernel
theorem dX11_mayBe_29 : decode cX11_mayBe 29 = .ok (.ishl, 1) := by decide +kernel
theorem dX11_mayBe_30 : decode cX11_mayBe 30 = .ok (.ior, 1) := by decide +kernel
theorem dX11_mayBe_31 : decode cX11_mayBe 31 = .ok (.istore_n 1, 1) := by decide +kernel
theorem dX11_mayBe_32 : decode cX11_mayBe 32 = .ok (.iinc 2 1, 3) := by decide +kernel
theorem dX11_mayBe_35 : decode cX11_mayBe 35 = .ok (.goto (-31), 3) := by decide +kernel
theorem dX11_mayBe_38 : decode cX11_mayBe 38 = .ok (.iload_n 1, 1) := by decide +kernel
theorem dX11_mayBe_39 : decode cX11_mayBe 39 = .ok (.ireturn, 1) := by decide +kernel
theorem dX11_heat_0 : decode cX11_heat 0 = .ok (.iload_n 1, 1) := by decide +kernel
theorem dX11_heat_1 : decode cX11_heat 1 = .ok (.invokestatic 174, 3) := by decide +kernel
theorem dX11_heat_4 : decode cX11_heat 4 = .ok (.ifCond .eq 42, 3) := by decide +kernel
theorem dX11_heat_7 : decode cX11_heat 7 = .ok (.aload_n 0, 1) := by decide +kernel
theorem dX11_heat_8 : decode cX11_heat 8 = .ok (.iload_n 2, 1) := by decide +kernel
theorem dX11_heat_9 : decode cX11_heat 9 = .ok (.invokevirtual 104, 3) := by decide +kernel
theorem dX11_heat_12 : decode cX11_heat 12 = .ok (.ifCond .eq 34, 3) := by decide +kernel
theorem dX11_heat_15 : decode cX11_heat 15 = .ok (.iload_n 3, 1) := by decide +kernel
theorem dX11_heat_16 : decode cX11_heat 16 = .ok (.invokestatic 108, 3) := by decide +kernel
theorem dX11_heat_19 : decode cX11_heat 19 = .ok (.ifCond .eq 27, 3) := by decide +kernel
theorem dX11_heat_22 : decode cX11_heat 22 = .ok (.iload 4, 2) := by decide +kernel
theorem dX11_heat_24 : decode cX11_heat 24 = .ok (.ifCond .lt 22, 3) := by decide +kernel
theorem dX11_heat_27 : decode cX11_heat 27 = .ok (.iload 4, 2) := by decide +kernel
theorem dX11_heat_29 : decode cX11_heat 29 = .ok (.bipush 60, 2) := by decide +kernel
theorem dX11_heat_31 : decode cX11_heat 31 = .ok (.if_icmp .gt 15, 3) := by decide +kernel
theorem dX11_heat_34 : decode cX11_heat 34 = .ok (.iload 5, 2) := by decide +kernel
theorem dX11_heat_36 : decode cX11_heat 36 = .ok (.ifCond .lt 10, 3) := by decide +kernel
theorem dX11_heat_39 : decode cX11_heat 39 = .ok (.iload 5, 2) := by decide +kernel
theorem dX11_heat_41 : decode cX11_heat 41 = .ok (.ldc 242, 2) := by decide +kernel
theorem dX11_heat_43 : decode cX11_heat 43 = .ok (.if_icmp .le 12, 3) := by decide +kernel
theorem dX11_heat_46 : decode cX11_heat 46 = .ok (.aload_n 0, 1) := by decide +kernel
theorem dX11_heat_47 : decode cX11_heat 47 = .ok (.bipush (-2), 2) := by decide +kernel
theorem dX11_heat_49 : decode cX11_heat 49 = .ok (.bipush (-2), 2) := by decide +kernel
theorem dX11_heat_51 : decode cX11_heat 51 = .ok (.invokevirtual 82, 3) := by decide +kernel
theorem dX11_heat_54 : decode cX11_heat 54 = .ok (.ireturn, 1) := by decide +kernel
theorem dX11_heat_55 : decode cX11_heat 55 = .ok (.iload 5, 2) := by decide +kernel
theorem dX11_heat_57 : decode cX11_heat 57 = .ok (.i2l, 1) := by decide +kernel
theorem dX11_heat_58 : decode cX11_heat 58 = .ok (.lstore 6, 2) := by decide +kernel
theorem dX11_heat_60 : decode cX11_heat 60 = .ok (.iconst 0, 1) := by decide +kernel
theorem dX11_heat_61 : decode cX11_heat 61 = .ok (.istore 8, 2) := by decide +kernel
theorem dX11_heat_63 : decode cX11_heat 63 = .ok (.iload 8, 2) := by decide +kernel
theorem dX11_heat_65 : decode cX11_heat 65 = .ok (.iload 4, 2) := by decide +kernel
theorem dX11_heat_67 : decode cX11_heat 67 = .ok (.if_icmp .ge 43, 3) := by decide +kernel
theorem dX11_heat_70 : decode cX11_heat 70 = .ok (.lload 6, 2) := by decide +kernel
theorem dX11_heat_72 : decode cX11_heat 72 = .ok (.ldc2_w 243, 3) := by decide +kernel
theorem dX11_heat_75 : decode cX11_heat 75 = .ok (.lmul, 1) := by decide +kernel
theorem dX11_heat_76 : decode cX11_heat 76 = .ok (.ldc2_w 245, 3) := by decide +kernel
theorem dX11_heat_79 : decode cX11_heat 79 = .ok (.ladd, 1) := by decide +kernel
theorem dX11_heat_80 : decode cX11_heat 80 = .ok (.ldc2_w 247, 3) := by decide +kernel
theorem dX11_heat_83 : decode cX11_heat 83 = .ok (.lrem, 1) := by decide +kernel
theorem dX11_heat_84 : decode cX11_heat 84 = .ok (.lstore 6, 2) := by decide +kernel
theorem dX11_heat_86 : decode cX11_heat 86 = .ok (.aload_n 0, 1) := by decide +kernel
theorem dX11_heat_87 : decode cX11_heat 87 = .ok (.getfield 70, 3) := by decide +kernel
theorem dX11_heat_90 : decode cX11_heat 90 = .ok (.iload 8, 2) := by decide +kernel
theorem dX11_heat_92 : decode cX11_heat 92 = .ok (.lload 6, 2) := by decide +kernel
theorem dX11_heat_94 : decode cX11_heat 94 = .ok (.ldc2_w 249, 3) := by decide +kernel
theorem dX11_heat_97 : decode cX11_heat 97 = .ok (.ldiv, 1) := by decide +kernel
theorem dX11_heat_98 : decode cX11_heat 98 = .ok (.ldc2_w 251, 3) := by decide +kernel
theorem dX11_heat_101 : decode cX11_heat 101 = .ok (.lrem, 1) := by decide +kernel
theorem dX11_heat_102 : decode cX11_heat 102 = .ok (.l2i, 1) := by decide +kernel
theorem dX11_heat_103 : decode cX11_heat 103 = .ok (.iastore, 1) := by decide +kernel
theorem dX11_heat_104 : decode cX11_heat 104 = .ok (.iinc 8 1, 3) := by decide +kernel
theorem dX11_heat_107 : decode cX11_heat 107 = .ok (.goto (-44), 3) := by decide +kernel
theorem dX11_heat_110 : decode cX11_heat 110 = .ok (.aload_n 0, 1) := by decide +kernel
theorem dX11_heat_111 : decode cX11_heat 111 = .ok (.getfield 50, 3) := by decide +kernel
theorem dX11_heat_114 : decode cX11_heat 114 = .ok (.iload_n 1, 1) := by decide +kernel
theorem dX11_heat_115 : decode cX11_heat 115 = .ok (.aaload, 1) := by decide +kernel
theorem dX11_heat_116 : decode cX11_heat 116 = .ok (.astore 8, 2) := by decide +kernel
theorem dX11_heat_118 : decode cX11_heat 118 = .ok (.aload 8, 2) := by decide +kernel
theorem dX11_heat_120 : decode cX11_heat 120 = .ok (.aload_n 0, 1) := by decide +kernel
theorem dX11_heat_121 : decode cX11_heat 121 = .ok (.getfield 10, 3) := by decide +kernel
theorem dX11_heat_124 : decode cX11_heat 124 = .ok (.getfield 73, 3) := by decide +kernel
theorem dX11_heat_127 : decode cX11_heat 127 = .ok (.iload_n 2, 1) := by decide +kernel
theorem dX11_heat_128 : decode cX11_heat 128 = .ok (.invokevirtual 211, 3) := by decide +kernel
theorem dX11_heat_131 : decode cX11_heat 131 = .ok (.aload 8, 2) := by decide +kernel
theorem dX11_heat_133 : decode cX11_heat 133 = .ok (.aload_n 0, 1) := by decide +kernel
theorem dX11_heat_134 : decode cX11_heat 134 = .ok (.getfield 70, 3) := by decide +kernel
theorem dX11_heat_137 : decode cX11_heat 137 = .ok (.iload 4, 2) := by decide +kernel
theorem dX11_heat_139 : decode cX11_heat 139 = .ok (.invokevirtual 253, 3) := by decide +kernel
theorem dX11_heat_142 : decode cX11_heat 142 = .ok (.aload 8, 2) := by decide +kernel
theorem dX11_heat_144 : decode cX11_heat 144 = .ok (.iload_n 3, 1) := by decide +kernel
theorem dX11_heat_145 : decode cX11_heat 145 = .ok (.invokevirtual 257, 3) := by decide +kernel
theorem dX11_heat_148 : decode cX11_heat 148 = .ok (.ireturn, 1) := by decide +kernel
theorem dX11_image_0 : decode cX11_image 0 = .ok (.iload_n 1, 1) := by decide +kernel
theorem dX11_image_1 : decode cX11_image 1 = .ok (.ifCond .lt 8, 3) := by decide +kernel
theorem dX11_image_4 : decode cX11_image 4 = .ok (.iload_n 1, 1) := by decide +kernel
theorem dX11_image_5 : decode cX11_image 5 = .ok (.iconst 2, 1) := by decide +kernel
theorem dX11_image_6 : decode cX11_image 6 = .ok (.if_icmp .lt 12, 3) := by decide +kernel
theorem dX11_image_9 : decode cX11_image 9 = .ok (.aload_n 0, 1) := by decide +kernel
theorem dX11_image_10 : decode cX11_image 10 = .ok (.bipush (-2), 2) := by decide +kernel
theorem dX11_image_12 : decode cX11_image 12 = .ok (.bipush (-2), 2) := by decide +kernel
theorem dX11_image_14 : decode cX11_image 14 = .ok (.invokevirtual 82, 3) := by decide +kernel
theorem dX11_image_17 : decode cX11_image 17 = .ok (.ireturn, 1) := by decide +kernel
theorem dX11_image_18 : decode cX11_image 18 = .ok (.aload_n 0, 1) := by decide +kernel
theorem dX11_image_19 : decode cX11_image 19 = .ok (.getfield 16, 3) := by decide +kernel
theorem dX11_image_22 : decode cX11_image 22 = .ok (.iload_n 1, 1) := by decide +kernel
theorem dX11_image_23 : decode cX11_image 23 = .ok (.aaload, 1) := by decide +kernel
theorem dX11_image_24 : decode cX11_image 24 = .ok (.aload_n 0, 1) := by decide +kernel
theorem dX11_image_25 : decode cX11_image 25 = .ok (.getfield 10, 3) := by decide +kernel
theorem dX11_image_28 : decode cX11_image 28 = .ok (.invokevirtual 260, 3) := by decide +kernel
theorem dX11_image_31 : decode cX11_image 31 = .ok (.aload_n 0, 1) := by decide +kernel
theorem dX11_image_32 : decode cX11_image 32 = .ok (.getfield 20, 3) := by decide +kernel
theorem dX11_image_35 : decode cX11_image 35 = .ok (.iload_n 1, 1) := by decide +kernel
theorem dX11_image_36 : decode cX11_image 36 = .ok (.iconst 1, 1) := by decide +kernel
theorem dX11_image_37 : decode cX11_image 37 = .ok (.bastore, 1) := by decide +kernel
theorem dX11_image_38 : decode cX11_image 38 = .ok (.iconst 1, 1) := by decide +kernel
theorem dX11_image_39 : decode cX11_image 39 = .ok (.ireturn, 1) := by decide +kernel
theorem dX11_from_0 : decode cX11_from 0 = .ok (.iload_n 1, 1) := by decide +kernel
theorem dX11_from_1 : decode cX11_from 1 = .ok (.ifCond .lt 8, 3) := by decide +kernel
theorem dX11_from_4 : decode cX11_from 4 = .ok (.iload_n 1, 1) := by decide +kernel
theorem dX11_from_5 : decode cX11_from 5 = .ok (.iconst 2, 1) := by decide +kernel
theorem dX11_from_6 : decode cX11_from 6 = .ok (.if_icmp .lt 12, 3) := by decide +kernel
theorem dX11_from_9 : decode cX11_from 9 = .ok (.aload_n 0, 1) := by decide +kernel
theorem dX11_from_10 : decode cX11_from 10 = .ok (.bipush (-2), 2) := by decide +kernel
theorem dX11_from_12 : decode cX11_from 12 = .ok (.bipush (-2), 2) := by decide +kernel
theorem dX11_from_14 : decode cX11_from 14 = .ok (.invokevirtual 82, 3) := by decide +kernel
theorem dX11_from_17 : decode cX11_from 17 = .ok (.ireturn, 1) := by decide +kernel
theorem dX11_from_18 : decode cX11_from 18 = .ok (.aload_n 0, 1) := by decide +kernel
theorem dX11_from_19 : decode cX11_from 19 = .ok (.getfield 20, 3) := by decide +kernel
theorem dX11_from_22 : decode cX11_from 22 = .ok (.iload_n 1, 1) := by decide +kernel
theorem dX11_from_23 : decode cX11_from 23 = .ok (.baload, 1) := by decide +kernel
theorem dX11_from_24 : decode cX11_from 24 = .ok (.ifCond .ne 12, 3) := by decide +kernel
theorem dX11_from_27 : decode cX11_from 27 = .ok (.aload_n 0, 1) := by decide +kernel
theorem dX11_from_28 : decode cX11_from 28 = .ok (.bipush (-3), 2) := by decide +kernel
theorem dX11_from_30 : decode cX11_from 30 = .ok (.bipush (-3), 2) := by decide +kernel
theorem dX11_from_32 : decode cX11_from 32 = .ok (.invokevirtual 82, 3) := by decide +kernel
theorem dX11_from_35 : decode cX11_from 35 = .ok (.ireturn, 1) := by decide +kernel
theorem dX11_from_36 : decode cX11_from 36 = .ok (.aload_n 0, 1) := by decide +kernel
theorem dX11_from_37 : decode cX11_from 37 = .ok (.getfield 10, 3) := by decide +kernel
theorem dX11_from_40 : decode cX11_from 40 = .ok (.aload_n 0, 1) := by decide +kernel
theorem dX11_from_41 : decode cX11_from 41 = .ok (.getfield 16, 3) := by decide +kernel
theorem dX11_from_44 : decode cX11_from 44 = .ok (.iload_n 1, 1) := by decide +kernel
theorem dX11_from_45 : decode cX11_from 45 = .ok (.aaload, 1) := by decide +kernel
theorem dX11_from_46 : decode cX11_from 46 = .ok (.invokevirtual 260, 3) := by decide +kernel
theorem dX11_from_49 : decode cX11_from 49 = .ok (.iconst 1, 1) := by decide +kernel
theorem dX11_from_50 : decode cX11_from 50 = .ok (.ireturn, 1) := by decide +kernel
theorem dX11_status_0 : decode cX11_status 0 = .ok (.iload_n 1, 1) := by decide +kernel
theorem dX11_status_1 : decode cX11_status 1 = .ok (.ifCond .lt 12, 3) := by decide +kernel
theorem dX11_status_4 : decode cX11_status 4 = .ok (.iload_n 1, 1) := by decide +kernel
theorem dX11_status_5 : decode cX11_status 5 = .ok (.aload_n 0, 1) := by decide +kernel
theorem dX11_status_6 : decode cX11_status 6 = .ok (.getfield 31, 3) := by decide +kernel
theorem dX11_status_9 : decode cX11_status 9 = .ok (.arraylength, 1) := by decide +kernel
theorem dX11_status_10 : decode cX11_status 10 = .ok (.if_icmp .lt 11, 3) := by decide +kernel
theorem dX11_status_13 : decode cX11_status 13 = .ok (.aload_n 0, 1) := by decide +kernel
theorem dX11_status_14 : decode cX11_status 14 = .ok (.bipush (-2), 2) := by decide +kernel
theorem dX11_status_16 : decode cX11_status 16 = .ok (.iconst (-1), 1) := by decide +kernel
theorem dX11_status_17 : decode cX11_status 17 = .ok (.invokevirtual 82, 3) := by decide +kernel
theorem dX11_status_20 : decode cX11_status 20 = .ok (.ireturn, 1) := by decide +kernel
theorem dX11_status_21 : decode cX11_status 21 = .ok (.aload_n 0, 1) := by decide +kernel
theorem dX11_status_22 : decode cX11_status 22 = .ok (.getfield 31, 3) := by decide +kernel
theorem dX11_status_25 : decode cX11_status 25 = .ok (.iload_n 1, 1) := by decide +kernel
theorem dX11_status_26 : decode cX11_status 26 = .ok (.iaload, 1) := by decide +kernel
theorem dX11_status_27 : decode cX11_status 27 = .ok (.ireturn, 1) := by decide +kernel
theorem dX11_count_0 : decode cX11_count 0 = .ok (.aload_n 0, 1) := by decide +kernel
theorem dX11_count_1 : decode cX11_count 1 = .ok (.iload_n 1, 1) := by decide +kernel
theorem dX11_count_2 : decode cX11_count 2 = .ok (.invokevirtual 263, 3) := by decide +kernel
theorem dX11_count_5 : decode cX11_count 5 = .ok (.istore_n 2, 1) := by decide +kernel
theorem dX11_count_6 : decode cX11_count 6 = .ok (.iload_n 2, 1) := by decide +kernel
theorem dX11_count_7 : decode cX11_count 7 = .ok (.ifCond .ge 14, 3) := by decide +kernel
theorem dX11_count_10 : decode cX11_count 10 = .ok (.aload_n 0, 1) := by decide +kernel
theorem dX11_count_11 : decode cX11_count 11 = .ok (.bipush (-2), 2) := by decide +kernel
theorem dX11_count_13 : decode cX11_count 13 = .ok (.bipush (-2), 2) := by decide +kernel
theorem dX11_count_15 : decode cX11_count 15 = .ok (.invokevirtual 82, 3) := by decide +kernel
theorem dX11_count_18 : decode cX11_count 18 = .ok (.goto 4, 3) := by decide +kernel
theorem dX11_count_21 : decode cX11_count 21 = .ok (.iload_n 2, 1) := by decide +kernel
theorem dX11_count_22 : decode cX11_count 22 = .ok (.ireturn, 1) := by decide +kernel
theorem dX11_digest_0 : decode cX11_digest 0 = .ok (.ldc2_w 266, 3) := by decide +kernel
theorem dX11_digest_3 : decode cX11_digest 3 = .ok (.lstore_n 1, 1) := by decide +kernel
theorem dX11_digest_4 : decode cX11_digest 4 = .ok (.iconst 0, 1) := by decide +kernel
theorem dX11_digest_5 : decode cX11_digest 5 = .ok (.istore_n 3, 1) := by decide +kernel
theorem dX11_digest_6 : decode cX11_digest 6 = .ok (.iload_n 3, 1) := by decide +kernel
theorem dX11_digest_7 : decode cX11_digest 7 = .ok (.bipush 8, 2) := by decide +kernel
theorem dX11_digest_9 : decode cX11_digest 9 = .ok (.if_icmp .ge 22, 3) := by decide +kernel
theorem dX11_digest_12 : decode cX11_digest 12 = .ok (.ldc2_w 268, 3) := by decide +kernel
theorem dX11_digest_15 : decode cX11_digest 15 = .ok (.lload_n 1, 1) := by decide +kernel
theorem dX11_digest_16 : decode cX11_digest 16 = .ok (.lmul, 1) := by decide +kernel
theorem dX11_digest_17 : decode cX11_digest 17 = .ok (.aload_n 0, 1) := by decide +kernel
theorem dX11_digest_18 : decode cX11_digest 18 = .ok (.iload_n 3, 1) := by decide +kernel
theorem dX11_digest_19 : decode cX11_digest 19 = .ok (.invokevirtual 263, 3) := by decide +kernel
theorem dX11_digest_22 : decode cX11_digest 22 = .ok (.i2l, 1) := by decide +kernel
theorem dX11_digest_23 : decode cX11_digest 23 = .ok (.ladd, 1) := by decide +kernel
theorem dX11_digest_24 : decode cX11_digest 24 = .ok (.lstore_n 1, 1) := by decide +kernel
theorem dX11_digest_25 : decode cX11_digest 25 = .ok (.iinc 3 1, 3) := by decide +kernel
theorem dX11_digest_28 : decode cX11_digest 28 = .ok (.goto (-22), 3) := by decide +kernel
theorem dX11_digest_31 : decode cX11_digest 31 = .ok (.aload_n 0, 1) := by decide +kernel
theorem dX11_digest_32 : decode cX11_digest 32 = .ok (.getfield 10, 3) := by decide +kernel
theorem dX11_digest_35 : decode cX11_digest 35 = .ok (.getfield 73, 3) := by decide +kernel
theorem dX11_digest_38 : decode cX11_digest 38 = .ok (.lload_n 1, 1) := by decide +kernel
theorem dX11_digest_39 : decode cX11_digest 39 = .ok (.invokevirtual 270, 3) := by decide +kernel
theorem dX11_digest_42 : decode cX11_digest 42 = .ok (.lstore_n 1, 1) := by decide +kernel
theorem dX11_digest_43 : decode cX11_digest 43 = .ok (.iconst 0, 1) := by decide +kernel
theorem dX11_digest_44 : decode cX11_digest 44 = .ok (.istore_n 3, 1) := by decide +kernel
theorem dX11_digest_45 : decode cX11_digest 45 = .ok (.iload_n 3, 1) := by decide +kernel
theorem dX11_digest_46 : decode cX11_digest 46 = .ok (.aload_n 0, 1) := by decide +kernel
theorem dX11_digest_47 : decode cX11_digest 47 = .ok (.getfield 10, 3) := by decide +kernel
theorem dX11_digest_50 : decode cX11_digest 50 = .ok (.getfield 169, 3) := by decide +kernel
theorem dX11_digest_53 : decode cX11_digest 53 = .ok (.if_icmp .ge 26, 3) := by decide +kernel
theorem dX11_digest_56 : decode cX11_digest 56 = .ok (.ldc2_w 268, 3) := by decide +kernel
theorem dX11_digest_59 : decode cX11_digest 59 = .ok (.lload_n 1, 1) := by decide +kernel
theorem dX11_digest_60 : decode cX11_digest 60 = .ok (.lmul, 1) := by decide +kernel
theorem dX11_digest_61 : decode cX11_digest 61 = .ok (.aload_n 0, 1) := by decide +kernel
theorem dX11_digest_62 : decode cX11_digest 62 = .ok (.getfield 10, 3) := by decide +kernel
theorem dX11_digest_65 : decode cX11_digest 65 = .ok (.getfield 160, 3) := by decide +kernel
theorem dX11_digest_68 : decode cX11_digest 68 = .ok (.iload_n 3, 1) := by decide +kernel
theorem dX11_digest_69 : decode cX11_digest 69 = .ok (.iaload, 1) := by decide +kernel
theorem dX11_digest_70 : decode cX11_digest 70 = .ok (.i2l, 1) := by decide +kernel
theorem dX11_digest_71 : decode cX11_digest 71 = .ok (.ladd, 1) := by decide +kernel
theorem dX11_digest_72 : decode cX11_digest 72 = .ok (.lstore_n 1, 1) := by decide +kernel
theorem dX11_digest_73 : decode cX11_digest 73 = .ok (.iinc 3 1, 3) := by decide +kernel
theorem dX11_digest_76 : decode cX11_digest 76 = .ok (.goto (-31), 3) := by decide +kernel
theorem dX11_digest_79 : decode cX11_digest 79 = .ok (.iconst 0, 1) := by decide +kernel
theorem dX11_digest_80 : decode cX11_digest 80 = .ok (.istore_n 3, 1) := by decide +kernel
theorem dX11_digest_81 : decode cX11_digest 81 = .ok (.iload_n 3, 1) := by decide +kernel
theorem dX11_digest_82 : decode cX11_digest 82 = .ok (.aload_n 0, 1) := by decide +kernel
theorem dX11_digest_83 : decode cX11_digest 83 = .ok (.getfield 10, 3) := by decide +kernel
theorem dX11_digest_86 : decode cX11_digest 86 = .ok (.getfield 205, 3) := by decide +kernel
theorem dX11_digest_89 : decode cX11_digest 89 = .ok (.if_icmp .ge 26, 3) := by decide +kernel
theorem dX11_digest_92 : decode cX11_digest 92 = .ok (.ldc2_w 268, 3) := by decide +kernel
theorem dX11_digest_95 : decode cX11_digest 95 = .ok (.lload_n 1, 1) := by decide +kernel
theorem dX11_digest_96 : decode cX11_digest 96 = .ok (.lmul, 1) := by decide +kernel
theorem dX11_digest_97 : decode cX11_digest 97 = .ok (.aload_n 0, 1) := by decide +kernel
theorem dX11_digest_98 : decode cX11_digest 98 = .ok (.getfield 10, 3) := by decide +kernel
theorem dX11_digest_101 : decode cX11_digest 101 = .ok (.getfield 208, 3) := by decide +kernel
theorem dX11_digest_104 : decode cX11_digest 104 = .ok (.iload_n 3, 1) := by decide +kernel
theorem dX11_digest_105 : decode cX11_digest 105 = .ok (.iaload, 1) := by decide +kernel
theorem dX11_digest_106 : decode cX11_digest 106 = .ok (.i2l, 1) := by decide +kernel
theorem dX11_digest_107 : decode cX11_digest 107 = .ok (.ladd, 1) := by decide +kernel
theorem dX11_digest_108 : decode cX11_digest 108 = .ok (.lstore_n 1, 1) := by decide +kernel
theorem dX11_digest_109 : decode cX11_digest 109 = .ok (.iinc 3 1, 3) := by decide +kernel
theorem dX11_digest_112 : decode cX11_digest 112 = .ok (.goto (-31), 3) := by decide +kernel
theorem dX11_digest_115 : decode cX11_digest 115 = .ok (.iconst 0, 1) := by decide +kernel
theorem dX11_digest_116 : decode cX11_digest 116 = .ok (.istore_n 3, 1) := by decide +kernel
theorem dX11_digest_117 : decode cX11_digest 117 = .ok (.iload_n 3, 1) := by decide +kernel
theorem dX11_digest_118 : decode cX11_digest 118 = .ok (.aload_n 0, 1) := by decide +kernel
theorem dX11_digest_119 : decode cX11_digest 119 = .ok (.getfield 10, 3) := by decide +kernel
theorem dX11_digest_122 : decode cX11_digest 122 = .ok (.getfield 230, 3) := by decide +kernel
theorem dX11_digest_125 : decode cX11_digest 125 = .ok (.if_icmp .ge 43, 3) := by decide +kernel
theorem dX11_digest_128 : decode cX11_digest 128 = .ok (.ldc2_w 268, 3) := by decide +kernel
theorem dX11_digest_131 : decode cX11_digest 131 = .ok (.lload_n 1, 1) := by decide +kernel
theorem dX11_digest_132 : decode cX11_digest 132 = .ok (.lmul, 1) := by decide +kernel
theorem dX11_digest_133 : decode cX11_digest 133 = .ok (.aload_n 0, 1) := by decide +kernel
theorem dX11_digest_134 : decode cX11_digest 134 = .ok (.getfield 10, 3) := by decide +kernel
theorem dX11_digest_137 : decode cX11_digest 137 = .ok (.getfield 233, 3) := by decide +kernel
theorem dX11_digest_140 : decode cX11_digest 140 = .ok (.iload_n 3, 1) := by decide +kernel
theorem dX11_digest_141 : decode cX11_digest 141 = .ok (.iaload, 1) := by decide +kernel
theorem dX11_digest_142 : decode cX11_digest 142 = .ok (.i2l, 1) := by decide +kernel
theorem dX11_digest_143 : decode cX11_digest 143 = .ok (.ladd, 1) := by decide +kernel
theorem dX11_digest_144 : decode cX11_digest 144 = .ok (.lstore_n 1, 1) := by decide +kernel
theorem dX11_digest_145 : decode cX11_digest 145 = .ok (.ldc2_w 268, 3) := by decide +kernel
theorem dX11_digest_148 : decode cX11_digest 148 = .ok (.lload_n 1, 1) := by decide +kernel
theorem dX11_digest_149 : decode cX11_digest 149 = .ok (.lmul, 1) := by decide +kernel
theorem dX11_digest_150 : decode cX11_digest 150 = .ok (.aload_n 0, 1) := by decide +kernel
theorem dX11_digest_151 : decode cX11_digest 151 = .ok (.getfield 10, 3) := by decide +kernel
theorem dX11_digest_154 : decode cX11_digest 154 = .ok (.getfield 236, 3) := by decide +kernel
theorem dX11_digest_157 : decode cX11_digest 157 = .ok (.iload_n 3, 1) := by decide +kernel
theorem dX11_digest_158 : decode cX11_digest 158 = .ok (.iaload, 1) := by decide +kernel
theorem dX11_digest_159 : decode cX11_digest 159 = .ok (.i2l, 1) := by decide +kernel
theorem dX11_digest_160 : decode cX11_digest 160 = .ok (.ladd, 1) := by decide +kernel
theorem dX11_digest_161 : decode cX11_digest 161 = .ok (.lstore_n 1, 1) := by decide +kernel
theorem dX11_digest_162 : decode cX11_digest 162 = .ok (.iinc 3 1, 3) := by decide +kernel
theorem dX11_digest_165 : decode cX11_digest 165 = .ok (.goto (-48), 3) := by decide +kernel
theorem dX11_digest_168 : decode cX11_digest 168 = .ok (.lload_n 1, 1) := by decide +kernel
theorem dX11_digest_169 : decode cX11_digest 169 = .ok (.lreturn, 1) := by decide +kernel
theorem dX11_isCode_0 : decode cX11_isCode 0 = .ok (.iload_n 1, 1) := by decide +kernel
theorem dX11_isCode_1 : decode cX11_isCode 1 = .ok (.ifCond .lt 21, 3) := by decide +kernel
theorem dX11_isCode_4 : decode cX11_isCode 4 = .ok (.iload_n 1, 1) := by decide +kernel
theorem dX11_isCode_5 : decode cX11_isCode 5 = .ok (.aload_n 0, 1) := by decide +kernel
theorem dX11_isCode_6 : decode cX11_isCode 6 = .ok (.getfield 10, 3) := by decide +kernel
theorem dX11_isCode_9 : decode cX11_isCode 9 = .ok (.getfield 73, 3) := by decide +kernel
theorem dX11_isCode_12 : decode cX11_isCode 12 = .ok (.getfield 77, 3) := by decide +kernel
theorem dX11_isCode_15 : decode cX11_isCode 15 = .ok (.if_icmp .ge 7, 3) := by decide +kernel
theorem dX11_isCode_18 : decode cX11_isCode 18 = .ok (.iconst 1, 1) := by decide +kernel
theorem dX11_isCode_19 : decode cX11_isCode 19 = .ok (.goto 4, 3) := by decide +kernel
theorem dX11_isCode_22 : decode cX11_isCode 22 = .ok (.iconst 0, 1) := by decide +kernel
theorem dX11_isCode_23 : decode cX11_isCode 23 = .ok (.ireturn, 1) := by decide +kernel
theorem dX11_isWord_0 : decode cX11_isWord 0 = .ok (.iload_n 0, 1) := by decide +kernel
theorem dX11_isWord_1 : decode cX11_isWord 1 = .ok (.ifCond .lt 13, 3) := by decide +kernel
theorem dX11_isWord_4 : decode cX11_isWord 4 = .ok (.iload_n 0, 1) := by decide +kernel
theorem dX11_isWord_5 : decode cX11_isWord 5 = .ok (.bipush 10, 2) := by decide +kernel
theorem dX11_isWord_7 : decode cX11_isWord 7 = .ok (.if_icmp .ge 7, 3) := by decide +kernel
theorem dX11_isWord_10 : decode cX11_isWord 10 = .ok (.iconst 1, 1) := by decide +kernel
theorem dX11_isWord_11 : decode cX11_isWord 11 = .ok (.goto 4, 3) := by decide +kernel
theorem dX11_isWord_14 : decode cX11_isWord 14 = .ok (.iconst 0, 1) := by decide +kernel
theorem dX11_isWord_15 : decode cX11_isWord 15 = .ok (.ireturn, 1) := by decide +kernel
theorem dX11_isKind_0 : decode cX11_isKind 0 = .ok (.iload_n 0, 1) := by decide +kernel
theorem dX11_isKind_1 : decode cX11_isKind 1 = .ok (.ifCond .lt 12, 3) := by decide +kernel
theorem dX11_isKind_4 : decode cX11_isKind 4 = .ok (.iload_n 0, 1) := by decide +kernel
theorem dX11_isKind_5 : decode cX11_isKind 5 = .ok (.iconst 5, 1) := by decide +kernel
theorem dX11_isKind_6 : decode cX11_isKind 6 = .ok (.if_icmp .ge 7, 3) := by decide +kernel
theorem dX11_isKind_9 : decode cX11_isKind 9 = .ok (.iconst 1, 1) := by decide +kernel
theorem dX11_isKind_10 : decode cX11_isKind 10 = .ok (.goto 4, 3) := by decide +kernel
theorem dX11_isKind_13 : decode cX11_isKind 13 = .ok (.iconst 0, 1) := by decide +kernel
theorem dX11_isKind_14 : decode cX11_isKind 14 = .ok (.ireturn, 1) := by decide +kernel
theorem dX11_refused_0 : decode cX11_refused 0 = .ok (.aload_n 0, 1) := by decide +kernel
theorem dX11_refused_1 : decode cX11_refused 1 = .ok (.getfield 31, 3) := by decide +kernel
theorem dX11_refused_4 : decode cX11_refused 4 = .ok (.bipush (-2), 2) := by decide +kernel
theorem dX11_refused_6 : decode cX11_refused 6 = .ok (.iload_n 1, 1) := by decide +kernel
theorem dX11_refused_7 : decode cX11_refused 7 = .ok (.isub, 1) := by decide +kernel
theorem dX11_refused_8 : decode cX11_refused 8 = .ok (.dup2, 1) := by decide +kernel
theorem dX11_refused_9 : decode cX11_refused 9 = .ok (.iaload, 1) := by decide +kernel
theorem dX11_refused_10 : decode cX11_refused 10 = .ok (.iconst 1, 1) := by decide +kernel
theorem dX11_refused_11 : decode cX11_refused 11 = .ok (.iadd, 1) := by decide +kernel
theorem dX11_refused_12 : decode cX11_refused 12 = .ok (.iastore, 1) := by decide +kernel
theorem dX11_refused_13 : decode cX11_refused 13 = .ok (.iload_n 2, 1) := by decide +kernel
theorem dX11_refused_14 : decode cX11_refused 14 = .ok (.ireturn, 1) := by decide +kernel
theorem dX11_howMany_0 : decode cX11_howMany 0 = .ok (.iload_n 1, 1) := by decide +kernel
theorem dX11_howMany_1 : decode cX11_howMany 1 = .ok (.tableswitch 120 0 7 #[47, 58, 69, 77, 85, 93, 104, 112], 47) := by decide +kernel
theorem dX11_howMany_48 : decode cX11_howMany 48 = .ok (.aload_n 0, 1) := by decide +kernel
theorem dX11_howMany_49 : decode cX11_howMany 49 = .ok (.getfield 10, 3) := by decide +kernel
theorem dX11_howMany_52 : decode cX11_howMany 52 = .ok (.getfield 73, 3) := by decide +kernel
theorem dX11_howMany_55 : decode cX11_howMany 55 = .ok (.getfield 77, 3) := by decide +kernel
theorem dX11_howMany_58 : decode cX11_howMany 58 = .ok (.ireturn, 1) := by decide +kernel
theorem dX11_howMany_59 : decode cX11_howMany 59 = .ok (.aload_n 0, 1) := by decide +kernel
theorem dX11_howMany_60 : decode cX11_howMany 60 = .ok (.getfield 10, 3) := by decide +kernel
theorem dX11_howMany_63 : decode cX11_howMany 63 = .ok (.getfield 73, 3) := by decide +kernel
theorem dX11_howMany_66 : decode cX11_howMany 66 = .ok (.invokevirtual 274, 3) := by decide +kernel
theorem dX11_howMany_69 : decode cX11_howMany 69 = .ok (.ireturn, 1) := by decide +kernel
theorem dX11_howMany_70 : decode cX11_howMany 70 = .ok (.aload_n 0, 1) := by decide +kernel
theorem dX11_howMany_71 : decode cX11_howMany 71 = .ok (.getfield 10, 3) := by decide +kernel
theorem dX11_howMany_74 : decode cX11_howMany 74 = .ok (.getfield 169, 3) := by decide +kernel
theorem dX11_howMany_77 : decode cX11_howMany 77 = .ok (.ireturn, 1) := by decide +kernel
theorem dX11_howMany_78 : decode cX11_howMany 78 = .ok (.aload_n 0, 1) := by decide +kernel
theorem dX11_howMany_79 : decode cX11_howMany 79 = .ok (.getfield 10, 3) := by decide +kernel
theorem dX11_howMany_82 : decode cX11_howMany 82 = .ok (.getfield 205, 3) := by decide +kernel
theorem dX11_howMany_85 : decode cX11_howMany 85 = .ok (.ireturn, 1) := by decide +kernel
theorem dX11_howMany_86 : decode cX11_howMany 86 = .ok (.aload_n 0, 1) := by decide +kernel
theorem dX11_howMany_87 : decode cX11_howMany 87 = .ok (.getfield 10, 3) := by decide +kernel
theorem dX11_howMany_90 : decode cX11_howMany 90 = .ok (.getfield 230, 3) := by decide +kernel
theorem dX11_howMany_93 : decode cX11_howMany 93 = .ok (.ireturn, 1) := by decide +kernel
theorem dX11_howMany_94 : decode cX11_howMany 94 = .ok (.aload_n 0, 1) := by decide +kernel
theorem dX11_howMany_95 : decode cX11_howMany 95 = .ok (.getfield 10, 3) := by decide +kernel
theorem dX11_howMany_98 : decode cX11_howMany 98 = .ok (.getfield 86, 3) := by decide +kernel
theorem dX11_howMany_101 : decode cX11_howMany 101 = .ok (.getfield 90, 3) := by decide +kernel
theorem dX11_howMany_104 : decode cX11_howMany 104 = .ok (.ireturn, 1) := by decide +kernel
theorem dX11_howMany_105 : decode cX11_howMany 105 = .ok (.aload_n 0, 1) := by decide +kernel
theorem dX11_howMany_106 : decode cX11_howMany 106 = .ok (.getfield 27, 3) := by decide +kernel
theorem dX11_howMany_109 : decode cX11_howMany 109 = .ok (.getfield 131, 3) := by decide +kernel
theorem dX11_howMany_112 : decode cX11_howMany 112 = .ok (.ireturn, 1) := by decide +kernel
theorem dX11_howMany_113 : decode cX11_howMany 113 = .ok (.aload_n 0, 1) := by decide +kernel
theorem dX11_howMany_114 : decode cX11_howMany 114 = .ok (.getfield 10, 3) := by decide +kernel
theorem dX11_howMany_117 : decode cX11_howMany 117 = .ok (.getfield 128, 3) := by decide +kernel
theorem dX11_howMany_120 : decode cX11_howMany 120 = .ok (.ireturn, 1) := by decide +kernel
theorem dX11_howMany_121 : decode cX11_howMany 121 = .ok (.iconst (-1), 1) := by decide +kernel
theorem dX11_howMany_122 : decode cX11_howMany 122 = .ok (.ireturn, 1) := by decide +kernel
theorem dX11_drawSaying_0 : decode cX11_drawSaying 0 = .ok (.aload_n 0, 1) := by decide +kernel
theorem dX11_drawSaying_1 : decode cX11_drawSaying 1 = .ok (.getfield 10, 3) := by decide +kernel
theorem dX11_drawSaying_4 : decode cX11_drawSaying 4 = .ok (.getfield 160, 3) := by decide +kernel
theorem dX11_drawSaying_7 : decode cX11_drawSaying 7 = .ok (.aload_n 0, 1) := by decide +kernel
theorem dX11_drawSaying_8 : decode cX11_drawSaying 8 = .ok (.getfield 10, 3) := by decide +kernel
theorem dX11_drawSaying_11 : decode cX11_drawSaying 11 = .ok (.getfield 169, 3) := by decide +kernel
theorem dX11_drawSaying_14 : decode cX11_drawSaying 14 = .ok (.aload_n 0, 1) := by decide +kernel
theorem dX11_drawSaying_15 : decode cX11_drawSaying 15 = .ok (.getfield 10, 3) := by decide +kernel
theorem dX11_drawSaying_18 : decode cX11_drawSaying 18 = .ok (.getfield 128, 3) := by decide +kernel
theorem dX11_drawSaying_21 : decode cX11_drawSaying 21 = .ok (.aload_n 0, 1) := by decide +kernel
theorem dX11_drawSaying_22 : decode cX11_drawSaying 22 = .ok (.getfield 61, 3) := by decide +kernel
theorem dX11_drawSaying_25 : decode cX11_drawSaying 25 = .ok (.invokestatic 277, 3) := by decide +kernel
theorem dX11_drawSaying_28 : decode cX11_drawSaying 28 = .ok (.return_, 1) := by decide +kernel
theorem dX11_readSaying_0 : decode cX11_readSaying 0 = .ok (.aload_n 0, 1) := by decide +kernel
theorem dX11_readSaying_1 : decode cX11_readSaying 1 = .ok (.invokevirtual 171, 3) := by decide +kernel
theorem dX11_readSaying_4 : decode cX11_readSaying 4 = .ok (.aload_n 0, 1) := by decide +kernel
theorem dX11_readSaying_5 : decode cX11_readSaying 5 = .ok (.getfield 50, 3) := by decide +kernel
theorem dX11_readSaying_8 : decode cX11_readSaying 8 = .ok (.iload_n 1, 1) := by decide +kernel
theorem dX11_readSaying_9 : decode cX11_readSaying 9 = .ok (.aaload, 1) := by decide +kernel
theorem dX11_readSaying_10 : decode cX11_readSaying 10 = .ok (.astore_n 3, 1) := by decide +kernel
theorem dX11_readSaying_11 : decode cX11_readSaying 11 = .ok (.aload_n 3, 1) := by decide +kernel
theorem dX11_readSaying_12 : decode cX11_readSaying 12 = .ok (.aload_n 0, 1) := by decide +kernel
theorem dX11_readSaying_13 : decode cX11_readSaying 13 = .ok (.getfield 10, 3) := by decide +kernel
theorem dX11_readSaying_16 : decode cX11_readSaying 16 = .ok (.getfield 73, 3) := by decide +kernel
theorem dX11_readSaying_19 : decode cX11_readSaying 19 = .ok (.iload_n 2, 1) := by decide +kernel
theorem dX11_readSaying_20 : decode cX11_readSaying 20 = .ok (.invokevirtual 211, 3) := by decide +kernel
theorem dX11_readSaying_23 : decode cX11_readSaying 23 = .ok (.aload_n 3, 1) := by decide +kernel
theorem dX11_readSaying_24 : decode cX11_readSaying 24 = .ok (.aload_n 0, 1) := by decide +kernel
theorem dX11_readSaying_25 : decode cX11_readSaying 25 = .ok (.getfield 61, 3) := by decide +kernel
theorem dX11_readSaying_28 : decode cX11_readSaying 28 = .ok (.aload_n 0, 1) := by decide +kernel
theorem dX11_readSaying_29 : decode cX11_readSaying 29 = .ok (.getfield 10, 3) := by decide +kernel
theorem dX11_readSaying_32 : decode cX11_readSaying 32 = .ok (.getfield 169, 3) := by decide +kernel
theorem dX11_readSaying_35 : decode cX11_readSaying 35 = .ok (.invokevirtual 253, 3) := by decide +kernel
theorem dX11_readSaying_38 : decode cX11_readSaying 38 = .ok (.aload_n 3, 1) := by decide +kernel
theorem dX11_readSaying_39 : decode cX11_readSaying 39 = .ok (.areturn, 1) := by decide +kernel
theorem dX11_findHiding_0 : decode cX11_findHiding 0 = .ok (.aload_n 0, 1) := by decide +kernel
theorem dX11_findHiding_1 : decode cX11_findHiding 1 = .ok (.getfield 57, 3) := by decide +kernel
theorem dX11_findHiding_4 : decode cX11_findHiding 4 = .ok (.iload_n 1, 1) := by decide +kernel
theorem dX11_findHiding_5 : decode cX11_findHiding 5 = .ok (.invokevirtual 281, 3) := by decide +kernel
theorem dX11_findHiding_8 : decode cX11_findHiding 8 = .ok (.iconst 1, 1) := by decide +kernel
theorem dX11_findHiding_9 : decode cX11_findHiding 9 = .ok (.istore_n 3, 1) := by decide +kernel
theorem dX11_findHiding_10 : decode cX11_findHiding 10 = .ok (.iconst 0, 1) := by decide +kernel
theorem dX11_findHiding_11 : decode cX11_findHiding 11 = .ok (.istore 4, 2) := by decide +kernel
theorem dX11_findHiding_13 : decode cX11_findHiding 13 = .ok (.iload_n 3, 1) := by decide +kernel
theorem dX11_findHiding_14 : decode cX11_findHiding 14 = .ok (.ifCond .eq 43, 3) := by decide +kernel
theorem dX11_findHiding_17 : decode cX11_findHiding 17 = .ok (.iload 4, 2) := by decide +kernel
theorem dX11_findHiding_19 : decode cX11_findHiding 19 = .ok (.ldc_w 284, 3) := by decide +kernel
theorem dX11_findHiding_22 : decode cX11_findHiding 22 = .ok (.if_icmp .ge 35, 3) := by decide +kernel
theorem dX11_findHiding_25 : decode cX11_findHiding 25 = .ok (.aload_n 0, 1) := by decide +kernel
theorem dX11_findHiding_26 : decode cX11_findHiding 26 = .ok (.iload_n 2, 1) := by decide +kernel
theorem dX11_findHiding_27 : decode cX11_findHiding 27 = .ok (.invokevirtual 285, 3) := by decide +kernel
theorem dX11_findHiding_30 : decode cX11_findHiding 30 = .ok (.istore 5, 2) := by decide +kernel
theorem dX11_findHiding_32 : decode cX11_findHiding 32 = .ok (.iload 5, 2) := by decide +kernel
theorem dX11_findHiding_34 : decode cX11_findHiding 34 = .ok (.bipush 99, 2) := by decide +kernel
theorem dX11_findHiding_36 : decode cX11_findHiding 36 = .ok (.if_icmp .ne 5, 3) := by decide +kernel
theorem dX11_findHiding_39 : decode cX11_findHiding 39 = .ok (.iconst 1, 1) := by decide +kernel
theorem dX11_findHiding_40 : decode cX11_findHiding 40 = .ok (.ireturn, 1) := by decide +kernel
theorem dX11_findHiding_41 : decode cX11_findHiding 41 = .ok (.aload_n 0, 1) := by decide +kernel
theorem dX11_findHiding_42 : decode cX11_findHiding 42 = .ok (.getfield 57, 3) := by decide +kernel
theorem dX11_findHiding_45 : decode cX11_findHiding 45 = .ok (.iload 5, 2) := by decide +kernel
theorem dX11_findHiding_47 : decode cX11_findHiding 47 = .ok (.invokevirtual 288, 3) := by decide +kernel
theorem dX11_findHiding_50 : decode cX11_findHiding 50 = .ok (.istore_n 3, 1) := by decide +kernel
theorem dX11_findHiding_51 : decode cX11_findHiding 51 = .ok (.iinc 4 1, 3) := by decide +kernel
theorem dX11_findHiding_54 : decode cX11_findHiding 54 = .ok (.goto (-41), 3) := by decide +kernel
theorem dX11_findHiding_57 : decode cX11_findHiding 57 = .ok (.iconst 0, 1) := by decide +kernel
theorem dX11_findHiding_58 : decode cX11_findHiding 58 = .ok (.ireturn, 1) := by decide +kernel
theorem dX11_wrongToHide_0 : decode cX11_wrongToHide 0 = .ok (.aload_n 0, 1) := by decide +kernel
theorem dX11_wrongToHide_1 : decode cX11_wrongToHide 1 = .ok (.getfield 50, 3) := by decide +kernel
theorem dX11_wrongToHide_4 : decode cX11_wrongToHide 4 = .ok (.iconst 0, 1) := by decide +kernel
theorem dX11_wrongToHide_5 : decode cX11_wrongToHide 5 = .ok (.aaload, 1) := by decide +kernel
theorem dX11_wrongToHide_6 : decode cX11_wrongToHide 6 = .ok (.astore_n 2, 1) := by decide +kernel
theorem dX11_wrongToHide_7 : decode cX11_wrongToHide 7 = .ok (.aload_n 2, 1) := by decide +kernel
theorem dX11_wrongToHide_8 : decode cX11_wrongToHide 8 = .ok (.aload_n 0, 1) := by decide +kernel
theorem dX11_wrongToHide_9 : decode cX11_wrongToHide 9 = .ok (.getfield 57, 3) := by decide +kernel
theorem dX11_wrongToHide_12 : decode cX11_wrongToHide 12 = .ok (.getfield 291, 3) := by decide +kernel
theorem dX11_wrongToHide_15 : decode cX11_wrongToHide 15 = .ok (.aload_n 0, 1) := by decide +kernel
theorem dX11_wrongToHide_16 : decode cX11_wrongToHide 16 = .ok (.getfield 57, 3) := by decide +kernel
theorem dX11_wrongToHide_19 : decode cX11_wrongToHide 19 = .ok (.getfield 294, 3) := by decide +kernel
theorem dX11_wrongToHide_22 : decode cX11_wrongToHide 22 = .ok (.invokevirtual 253, 3) := by decide +kernel
theorem dX11_wrongToHide_25 : decode cX11_wrongToHide 25 = .ok (.aload_n 2, 1) := by decide +kernel
theorem dX11_wrongToHide_26 : decode cX11_wrongToHide 26 = .ok (.getfield 181, 3) := by decide +kernel
theorem dX11_wrongToHide_29 : decode cX11_wrongToHide 29 = .ok (.aload_n 0, 1) := by decide +kernel
theorem dX11_wrongToHide_30 : decode cX11_wrongToHide 30 = .ok (.getfield 10, 3) := by decide +kernel
theorem dX11_wrongToHide_33 : decode cX11_wrongToHide 33 = .ok (.getfield 205, 3) := by decide +kernel
theorem dX11_wrongToHide_36 : decode cX11_wrongToHide 36 = .ok (.invokestatic 185, 3) := by decide +kernel
theorem dX11_wrongToHide_39 : decode cX11_wrongToHide 39 = .ok (.istore_n 3, 1) := by decide +kernel
theorem dX11_wrongToHide_40 : decode cX11_wrongToHide 40 = .ok (.iconst 0, 1) := by decide +kernel
theorem dX11_wrongToHide_41 : decode cX11_wrongToHide 41 = .ok (.istore 4, 2) := by decide +kernel
theorem dX11_wrongToHide_43 : decode cX11_wrongToHide 43 = .ok (.iload 4, 2) := by decide +kernel
theorem dX11_wrongToHide_45 : decode cX11_wrongToHide 45 = .ok (.iload_n 3, 1) := by decide +kernel
theorem dX11_wrongToHide_46 : decode cX11_wrongToHide 46 = .ok (.if_icmp .ge 37, 3) := by decide +kernel
theorem dX11_wrongToHide_49 : decode cX11_wrongToHide 49 = .ok (.aload_n 2, 1) := by decide +kernel
theorem dX11_wrongToHide_50 : decode cX11_wrongToHide 50 = .ok (.getfield 184, 3) := by decide +kernel
theorem dX11_wrongToHide_53 : decode cX11_wrongToHide 53 = .ok (.iload 4, 2) := by decide +kernel
theorem dX11_wrongToHide_55 : decode cX11_wrongToHide 55 = .ok (.iaload, 1) := by decide +kernel
theorem dX11_wrongToHide_56 : decode cX11_wrongToHide 56 = .ok (.aload_n 0, 1) := by decide +kernel
theorem dX11_wrongToHide_57 : decode cX11_wrongToHide 57 = .ok (.getfield 10, 3) := by decide +kernel
theorem dX11_wrongToHide_60 : decode cX11_wrongToHide 60 = .ok (.getfield 208, 3) := by decide +kernel
theorem dX11_wrongToHide_63 : decode cX11_wrongToHide 63 = .ok (.iload 4, 2) := by decide +kernel
theorem dX11_wrongToHide_65 : decode cX11_wrongToHide 65 = .ok (.iaload, 1) := by decide +kernel
theorem dX11_wrongToHide_66 : decode cX11_wrongToHide 66 = .ok (.if_icmp .eq 11, 3) := by decide +kernel
theorem dX11_wrongToHide_69 : decode cX11_wrongToHide 69 = .ok (.aload_n 2, 1) := by decide +kernel
theorem dX11_wrongToHide_70 : decode cX11_wrongToHide 70 = .ok (.getfield 295, 3) := by decide +kernel
theorem dX11_wrongToHide_73 : decode cX11_wrongToHide 73 = .ok (.iload 4, 2) := by decide +kernel
theorem dX11_wrongToHide_75 : decode cX11_wrongToHide 75 = .ok (.iaload, 1) := by decide +kernel
theorem dX11_wrongToHide_76 : decode cX11_wrongToHide 76 = .ok (.ireturn, 1) := by decide +kernel
theorem dX11_wrongToHide_77 : decode cX11_wrongToHide 77 = .ok (.iinc 4 1, 3) := by decide +kernel
theorem dX11_wrongToHide_80 : decode cX11_wrongToHide 80 = .ok (.goto (-37), 3) := by decide +kernel
theorem dX11_wrongToHide_83 : decode cX11_wrongToHide 83 = .ok (.aload_n 2, 1) := by decide +kernel
theorem dX11_wrongToHide_84 : decode cX11_wrongToHide 84 = .ok (.getfield 181, 3) := by decide +kernel
theorem dX11_wrongToHide_87 : decode cX11_wrongToHide 87 = .ok (.aload_n 0, 1) := by decide +kernel
theorem dX11_wrongToHide_88 : decode cX11_wrongToHide 88 = .ok (.getfield 10, 3) := by decide +kernel
theorem dX11_wrongToHide_91 : decode cX11_wrongToHide 91 = .ok (.getfield 205, 3) := by decide +kernel
theorem dX11_wrongToHide_94 : decode cX11_wrongToHide 94 = .ok (.if_icmp .le 16, 3) := by decide +kernel
theorem dX11_wrongToHide_97 : decode cX11_wrongToHide 97 = .ok (.aload_n 2, 1) := by decide +kernel
theorem dX11_wrongToHide_98 : decode cX11_wrongToHide 98 = .ok (.getfield 295, 3) := by decide +kernel
theorem dX11_wrongToHide_101 : decode cX11_wrongToHide 101 = .ok (.aload_n 0, 1) := by decide +kernel
theorem dX11_wrongToHide_102 : decode cX11_wrongToHide 102 = .ok (.getfield 10, 3) := by decide +kernel
theorem dX11_wrongToHide_105 : decode cX11_wrongToHide 105 = .ok (.getfield 205, 3) := by decide +kernel
theorem dX11_wrongToHide_108 : decode cX11_wrongToHide 108 = .ok (.iaload, 1) := by decide +kernel
theorem dX11_wrongToHide_109 : decode cX11_wrongToHide 109 = .ok (.ireturn, 1) := by decide +kernel
theorem dX11_wrongToHide_110 : decode cX11_wrongToHide 110 = .ok (.aload_n 2, 1) := by decide +kernel
theorem dX11_wrongToHide_111 : decode cX11_wrongToHide 111 = .ok (.getfield 181, 3) := by decide +kernel
theorem dX11_wrongToHide_114 : decode cX11_wrongToHide 114 = .ok (.aload_n 0, 1) := by decide +kernel
theorem dX11_wrongToHide_115 : decode cX11_wrongToHide 115 = .ok (.getfield 10, 3) := by decide +kernel
theorem dX11_wrongToHide_118 : decode cX11_wrongToHide 118 = .ok (.getfield 205, 3) := by decide +kernel
theorem dX11_wrongToHide_121 : decode cX11_wrongToHide 121 = .ok (.if_icmp .ge 8, 3) := by decide +kernel
theorem dX11_wrongToHide_124 : decode cX11_wrongToHide 124 = .ok (.aload_n 2, 1) := by decide +kernel
theorem dX11_wrongToHide_125 : decode cX11_wrongToHide 125 = .ok (.getfield 298, 3) := by decide +kernel
theorem dX11_wrongToHide_128 : decode cX11_wrongToHide 128 = .ok (.ireturn, 1) := by decide +kernel
theorem dX11_wrongToHide_129 : decode cX11_wrongToHide 129 = .ok (.aload_n 0, 1) := by decide +kernel
theorem dX11_wrongToHide_130 : decode cX11_wrongToHide 130 = .ok (.getfield 50, 3) := by decide +kernel
theorem dX11_wrongToHide_133 : decode cX11_wrongToHide 133 = .ok (.iconst 2, 1) := by decide +kernel
theorem dX11_wrongToHide_134 : decode cX11_wrongToHide 134 = .ok (.aaload, 1) := by decide +kernel
theorem dX11_wrongToHide_135 : decode cX11_wrongToHide 135 = .ok (.astore 4, 2) := by decide +kernel
theorem dX11_wrongToHide_137 : decode cX11_wrongToHide 137 = .ok (.aload 4, 2) := by decide +kernel
theorem dX11_wrongToHide_139 : decode cX11_wrongToHide 139 = .ok (.aload_n 0, 1) := by decide +kernel
theorem dX11_wrongToHide_140 : decode cX11_wrongToHide 140 = .ok (.getfield 57, 3) := by decide +kernel
theorem dX11_wrongToHide_143 : decode cX11_wrongToHide 143 = .ok (.getfield 291, 3) := by decide +kernel
theorem dX11_wrongToHide_146 : decode cX11_wrongToHide 146 = .ok (.aload_n 0, 1) := by decide +kernel
theorem dX11_wrongToHide_147 : decode cX11_wrongToHide 147 = .ok (.getfield 57, 3) := by decide +kernel
theorem dX11_wrongToHide_150 : decode cX11_wrongToHide 150 = .ok (.getfield 294, 3) := by decide +kernel
theorem dX11_wrongToHide_153 : decode cX11_wrongToHide 153 = .ok (.invokevirtual 253, 3) := by decide +kernel
theorem dX11_wrongToHide_156 : decode cX11_wrongToHide 156 = .ok (.aload 4, 2) := by decide +kernel
theorem dX11_wrongToHide_158 : decode cX11_wrongToHide 158 = .ok (.getfield 181, 3) := by decide +kernel
theorem dX11_wrongToHide_161 : decode cX11_wrongToHide 161 = .ok (.iload_n 1, 1) := by decide +kernel
theorem dX11_wrongToHide_162 : decode cX11_wrongToHide 162 = .ok (.if_icmp .le 13, 3) := by decide +kernel
theorem dX11_wrongToHide_165 : decode cX11_wrongToHide 165 = .ok (.aload 4, 2) := by decide +kernel
theorem dX11_wrongToHide_167 : decode cX11_wrongToHide 167 = .ok (.getfield 295, 3) := by decide +kernel
theorem dX11_wrongToHide_170 : decode cX11_wrongToHide 170 = .ok (.iload_n 1, 1) := by decide +kernel
theorem dX11_wrongToHide_171 : decode cX11_wrongToHide 171 = .ok (.iaload, 1) := by decide +kernel
theorem dX11_wrongToHide_172 : decode cX11_wrongToHide 172 = .ok (.goto 5, 3) := by decide +kernel
theorem dX11_wrongToHide_175 : decode cX11_wrongToHide 175 = .ok (.bipush 99, 2) := by decide +kernel
theorem dX11_wrongToHide_177 : decode cX11_wrongToHide 177 = .ok (.ireturn, 1) := by decide +kernel
theorem dX11_findSaving_0 : decode cX11_findSaving 0 = .ok (.aload_n 0, 1) := by decide +kernel
theorem dX11_findSaving_1 : decode cX11_findSaving 1 = .ok (.getfield 57, 3) := by decide +kernel
theorem dX11_findSaving_4 : decode cX11_findSaving 4 = .ok (.aload_n 0, 1) := by decide +kernel
theorem dX11_findSaving_5 : decode cX11_findSaving 5 = .ok (.getfield 10, 3) := by decide +kernel
theorem dX11_findSaving_8 : decode cX11_findSaving 8 = .ok (.getfield 169, 3) := by decide +kernel
theorem dX11_findSaving_11 : decode cX11_findSaving 11 = .ok (.invokevirtual 281, 3) := by decide +kernel
theorem dX11_findSaving_14 : decode cX11_findSaving 14 = .ok (.iconst 1, 1) := by decide +kernel
theorem dX11_findSaving_15 : decode cX11_findSaving 15 = .ok (.istore_n 3, 1) := by decide +kernel
theorem dX11_findSaving_16 : decode cX11_findSaving 16 = .ok (.iconst 0, 1) := by decide +kernel
theorem dX11_findSaving_17 : decode cX11_findSaving 17 = .ok (.istore 4, 2) := by decide +kernel
theorem dX11_findSaving_19 : decode cX11_findSaving 19 = .ok (.iload_n 3, 1) := by decide +kernel
theorem dX11_findSaving_20 : decode cX11_findSaving 20 = .ok (.ifCond .eq 44, 3) := by decide +kernel
theorem dX11_findSaving_23 : decode cX11_findSaving 23 = .ok (.iload 4, 2) := by decide +kernel
theorem dX11_findSaving_25 : decode cX11_findSaving 25 = .ok (.ldc_w 284, 3) := by decide +kernel
theorem dX11_findSaving_28 : decode cX11_findSaving 28 = .ok (.if_icmp .ge 36, 3) := by decide +kernel
theorem dX11_findSaving_31 : decode cX11_findSaving 31 = .ok (.aload_n 0, 1) := by decide +kernel
theorem dX11_findSaving_32 : decode cX11_findSaving 32 = .ok (.iload_n 1, 1) := by decide +kernel
theorem dX11_findSaving_33 : decode cX11_findSaving 33 = .ok (.iload_n 2, 1) := by decide +kernel
theorem dX11_findSaving_34 : decode cX11_findSaving 34 = .ok (.invokevirtual 301, 3) := by decide +kernel
theorem dX11_findSaving_37 : decode cX11_findSaving 37 = .ok (.istore 5, 2) := by decide +kernel
theorem dX11_findSaving_39 : decode cX11_findSaving 39 = .ok (.iload 5, 2) := by decide +kernel
theorem dX11_findSaving_41 : decode cX11_findSaving 41 = .ok (.bipush 99, 2) := by decide +kernel
theorem dX11_findSaving_43 : decode cX11_findSaving 43 = .ok (.if_icmp .ne 5, 3) := by decide +kernel
theorem dX11_findSaving_46 : decode cX11_findSaving 46 = .ok (.iconst 1, 1) := by decide +kernel
theorem dX11_findSaving_47 : decode cX11_findSaving 47 = .ok (.ireturn, 1) := by decide +kernel
theorem dX11_findSaving_48 : decode cX11_findSaving 48 = .ok (.aload_n 0, 1) := by decide +kernel
theorem dX11_findSaving_49 : decode cX11_findSaving 49 = .ok (.getfield 57, 3) := by decide +kernel
theorem dX11_findSaving_52 : decode cX11_findSaving 52 = .ok (.iload 5, 2) := by decide +kernel
theorem dX11_findSaving_54 : decode cX11_findSaving 54 = .ok (.invokevirtual 288, 3) := by decide +kernel
theorem dX11_findSaving_57 : decode cX11_findSaving 57 = .ok (.istore_n 3, 1) := by decide +kernel
theorem dX11_findSaving_58 : decode cX11_findSaving 58 = .ok (.iinc 4 1, 3) := by decide +kernel
theorem dX11_findSaving_61 : decode cX11_findSaving 61 = .ok (.goto (-42), 3) := by decide +kernel
theorem dX11_findSaving_64 : decode cX11_findSaving 64 = .ok (.iconst 0, 1) := by decide +kernel
theorem dX11_findSaving_65 : decode cX11_findSaving 65 = .ok (.ireturn, 1) := by decide +kernel
theorem dX11_wrongToSave_0 : decode cX11_wrongToSave 0 = .ok (.iload_n 1, 1) := by decide +kernel
theorem dX11_wrongToSave_1 : decode cX11_wrongToSave 1 = .ok (.istore_n 3, 1) := by decide +kernel
theorem dX11_wrongToSave_2 : decode cX11_wrongToSave 2 = .ok (.iconst 0, 1) := by decide +kernel
theorem dX11_wrongToSave_3 : decode cX11_wrongToSave 3 = .ok (.istore 4, 2) := by decide +kernel
theorem dX11_wrongToSave_5 : decode cX11_wrongToSave 5 = .ok (.iload 4, 2) := by decide +kernel
theorem dX11_wrongToSave_7 : decode cX11_wrongToSave 7 = .ok (.aload_n 0, 1) := by decide +kernel
theorem dX11_wrongToSave_8 : decode cX11_wrongToSave 8 = .ok (.getfield 10, 3) := by decide +kernel
theorem dX11_wrongToSave_11 : decode cX11_wrongToSave 11 = .ok (.getfield 169, 3) := by decide +kernel
theorem dX11_wrongToSave_14 : decode cX11_wrongToSave 14 = .ok (.if_icmp .ge 42, 3) := by decide +kernel
theorem dX11_wrongToSave_17 : decode cX11_wrongToSave 17 = .ok (.aload_n 0, 1) := by decide +kernel
theorem dX11_wrongToSave_18 : decode cX11_wrongToSave 18 = .ok (.getfield 57, 3) := by decide +kernel
theorem dX11_wrongToSave_21 : decode cX11_wrongToSave 21 = .ok (.getfield 291, 3) := by decide +kernel
theorem dX11_wrongToSave_24 : decode cX11_wrongToSave 24 = .ok (.iload 4, 2) := by decide +kernel
theorem dX11_wrongToSave_26 : decode cX11_wrongToSave 26 = .ok (.iaload, 1) := by decide +kernel
theorem dX11_wrongToSave_27 : decode cX11_wrongToSave 27 = .ok (.aload_n 0, 1) := by decide +kernel
theorem dX11_wrongToSave_28 : decode cX11_wrongToSave 28 = .ok (.getfield 10, 3) := by decide +kernel
theorem dX11_wrongToSave_31 : decode cX11_wrongToSave 31 = .ok (.getfield 160, 3) := by decide +kernel
theorem dX11_wrongToSave_34 : decode cX11_wrongToSave 34 = .ok (.iload 4, 2) := by decide +kernel
theorem dX11_wrongToSave_36 : decode cX11_wrongToSave 36 = .ok (.iaload, 1) := by decide +kernel
theorem dX11_wrongToSave_37 : decode cX11_wrongToSave 37 = .ok (.if_icmp .eq 6, 3) := by decide +kernel
theorem dX11_wrongToSave_40 : decode cX11_wrongToSave 40 = .ok (.iinc 3 (-1), 3) := by decide +kernel
theorem dX11_wrongToSave_43 : decode cX11_wrongToSave 43 = .ok (.iload_n 3, 1) := by decide +kernel
theorem dX11_wrongToSave_44 : decode cX11_wrongToSave 44 = .ok (.ifCond .ge 6, 3) := by decide +kernel
theorem dX11_wrongToSave_47 : decode cX11_wrongToSave 47 = .ok (.iload 4, 2) := by decide +kernel
theorem dX11_wrongToSave_49 : decode cX11_wrongToSave 49 = .ok (.ireturn, 1) := by decide +kernel
theorem dX11_wrongToSave_50 : decode cX11_wrongToSave 50 = .ok (.iinc 4 1, 3) := by decide +kernel
theorem dX11_wrongToSave_53 : decode cX11_wrongToSave 53 = .ok (.goto (-48), 3) := by decide +kernel
theorem dX11_wrongToSave_56 : decode cX11_wrongToSave 56 = .ok (.aload_n 0, 1) := by decide +kernel
theorem dX11_wrongToSave_57 : decode cX11_wrongToSave 57 = .ok (.getfield 57, 3) := by decide +kernel
theorem dX11_wrongToSave_60 : decode cX11_wrongToSave 60 = .ok (.getfield 291, 3) := by decide +kernel
theorem dX11_wrongToSave_63 : decode cX11_wrongToSave 63 = .ok (.aload_n 0, 1) := by decide +kernel
theorem dX11_wrongToSave_64 : decode cX11_wrongToSave 64 = .ok (.getfield 57, 3) := by decide +kernel
theorem dX11_wrongToSave_67 : decode cX11_wrongToSave 67 = .ok (.getfield 294, 3) := by decide +kernel
theorem dX11_wrongToSave_70 : decode cX11_wrongToSave 70 = .ok (.aload_n 0, 1) := by decide +kernel
theorem dX11_wrongToSave_71 : decode cX11_wrongToSave 71 = .ok (.getfield 10, 3) := by decide +kernel
theorem dX11_wrongToSave_74 : decode cX11_wrongToSave 74 = .ok (.getfield 128, 3) := by decide +kernel
theorem dX11_wrongToSave_77 : decode cX11_wrongToSave 77 = .ok (.aload_n 0, 1) := by decide +kernel
theorem dX11_wrongToSave_78 : decode cX11_wrongToSave 78 = .ok (.getfield 61, 3) := by decide +kernel
theorem dX11_wrongToSave_81 : decode cX11_wrongToSave 81 = .ok (.invokestatic 277, 3) := by decide +kernel
theorem dX11_wrongToSave_84 : decode cX11_wrongToSave 84 = .ok (.aload_n 0, 1) := by decide +kernel
theorem dX11_wrongToSave_85 : decode cX11_wrongToSave 85 = .ok (.getfield 50, 3) := by decide +kernel
theorem dX11_wrongToSave_88 : decode cX11_wrongToSave 88 = .ok (.iconst 0, 1) := by decide +kernel
theorem dX11_wrongToSave_89 : decode cX11_wrongToSave 89 = .ok (.aaload, 1) := by decide +kernel
theorem dX11_wrongToSave_90 : decode cX11_wrongToSave 90 = .ok (.astore 4, 2) := by decide +kernel
theorem dX11_wrongToSave_92 : decode cX11_wrongToSave 92 = .ok (.aload 4, 2) := by decide +kernel
theorem dX11_wrongToSave_94 : decode cX11_wrongToSave 94 = .ok (.aload_n 0, 1) := by decide +kernel
theorem dX11_wrongToSave_95 : decode cX11_wrongToSave 95 = .ok (.getfield 61, 3) := by decide +kernel
theorem dX11_wrongToSave_98 : decode cX11_wrongToSave 98 = .ok (.aload_n 0, 1) := by decide +kernel
theorem dX11_wrongToSave_99 : decode cX11_wrongToSave 99 = .ok (.getfield 57, 3) := by decide +kernel
theorem dX11_wrongToSave_102 : decode cX11_wrongToSave 102 = .ok (.getfield 294, 3) := by decide +kernel
theorem dX11_wrongToSave_105 : decode cX11_wrongToSave 105 = .ok (.invokevirtual 253, 3) := by decide +kernel
theorem dX11_wrongToSave_108 : decode cX11_wrongToSave 108 = .ok (.iconst 0, 1) := by decide +kernel
theorem dX11_wrongToSave_109 : decode cX11_wrongToSave 109 = .ok (.istore 5, 2) := by decide +kernel
theorem dX11_wrongToSave_111 : decode cX11_wrongToSave 111 = .ok (.iload 5, 2) := by decide +kernel
theorem dX11_wrongToSave_113 : decode cX11_wrongToSave 113 = .ok (.aload 4, 2) := by decide +kernel
theorem dX11_wrongToSave_115 : decode cX11_wrongToSave 115 = .ok (.getfield 181, 3) := by decide +kernel
theorem dX11_wrongToSave_118 : decode cX11_wrongToSave 118 = .ok (.if_icmp .ge 30, 3) := by decide +kernel
theorem dX11_wrongToSave_121 : decode cX11_wrongToSave 121 = .ok (.aload 4, 2) := by decide +kernel
theorem dX11_wrongToSave_123 : decode cX11_wrongToSave 123 = .ok (.getfield 184, 3) := by decide +kernel
theorem dX11_wrongToSave_126 : decode cX11_wrongToSave 126 = .ok (.iload 5, 2) := by decide +kernel
theorem dX11_wrongToSave_128 : decode cX11_wrongToSave 128 = .ok (.iaload, 1) := by decide +kernel
theorem dX11_wrongToSave_129 : decode cX11_wrongToSave 129 = .ok (.iload_n 2, 1) := by decide +kernel
theorem dX11_wrongToSave_130 : decode cX11_wrongToSave 130 = .ok (.if_icmp .ne 12, 3) := by decide +kernel
theorem dX11_wrongToSave_133 : decode cX11_wrongToSave 133 = .ok (.aload 4, 2) := by decide +kernel
theorem dX11_wrongToSave_135 : decode cX11_wrongToSave 135 = .ok (.getfield 295, 3) := by decide +kernel
theorem dX11_wrongToSave_138 : decode cX11_wrongToSave 138 = .ok (.iload 5, 2) := by decide +kernel
theorem dX11_wrongToSave_140 : decode cX11_wrongToSave 140 = .ok (.iaload, 1) := by decide +kernel
theorem dX11_wrongToSave_141 : decode cX11_wrongToSave 141 = .ok (.ireturn, 1) := by decide +kernel
theorem dX11_wrongToSave_142 : decode cX11_wrongToSave 142 = .ok (.iinc 5 1, 3) := by decide +kernel
theorem dX11_wrongToSave_145 : decode cX11_wrongToSave 145 = .ok (.goto (-34), 3) := by decide +kernel
theorem dX11_wrongToSave_148 : decode cX11_wrongToSave 148 = .ok (.bipush 99, 2) := by decide +kernel
theorem dX11_wrongToSave_150 : decode cX11_wrongToSave 150 = .ok (.ireturn, 1) := by decide +kernel
theorem dX11_isSafe_0 : decode cX11_isSafe 0 = .ok (.iload_n 1, 1) := by decide +kernel
theorem dX11_isSafe_1 : decode cX11_isSafe 1 = .ok (.invokestatic 98, 3) := by decide +kernel
theorem dX11_isSafe_4 : decode cX11_isSafe 4 = .ok (.istore_n 3, 1) := by decide +kernel
theorem dX11_isSafe_5 : decode cX11_isSafe 5 = .ok (.iload_n 1, 1) := by decide +kernel
theorem dX11_isSafe_6 : decode cX11_isSafe 6 = .ok (.iload_n 3, 1) := by decide +kernel
theorem dX11_isSafe_7 : decode cX11_isSafe 7 = .ok (.aload_n 0, 1) := by decide +kernel
theorem dX11_isSafe_8 : decode cX11_isSafe 8 = .ok (.getfield 67, 3) := by decide +kernel
theorem dX11_isSafe_11 : decode cX11_isSafe 11 = .ok (.iconst 0, 1) := by decide +kernel
theorem dX11_isSafe_12 : decode cX11_isSafe 12 = .ok (.invokestatic 152, 3) := by decide +kernel
theorem dX11_isSafe_15 : decode cX11_isSafe 15 = .ok (.aload_n 0, 1) := by decide +kernel
theorem dX11_isSafe_16 : decode cX11_isSafe 16 = .ok (.getfield 50, 3) := by decide +kernel
theorem dX11_isSafe_19 : decode cX11_isSafe 19 = .ok (.iconst 0, 1) := by decide +kernel
theorem dX11_isSafe_20 : decode cX11_isSafe 20 = .ok (.aaload, 1) := by decide +kernel
theorem dX11_isSafe_21 : decode cX11_isSafe 21 = .ok (.astore 4, 2) := by decide +kernel
theorem dX11_isSafe_23 : decode cX11_isSafe 23 = .ok (.iconst 0, 1) := by decide +kernel
theorem dX11_isSafe_24 : decode cX11_isSafe 24 = .ok (.istore 5, 2) := by decide +kernel
theorem dX11_isSafe_26 : decode cX11_isSafe 26 = .ok (.iload 5, 2) := by decide +kernel
theorem dX11_isSafe_28 : decode cX11_isSafe 28 = .ok (.iconst 1, 1) := by decide +kernel
theorem dX11_isSafe_29 : decode cX11_isSafe 29 = .ok (.iload_n 3, 1) := by decide +kernel
theorem dX11_isSafe_30 : decode cX11_isSafe 30 = .ok (.ishl, 1) := by decide +kernel
theorem dX11_isSafe_31 : decode cX11_isSafe 31 = .ok (.if_icmp .ge 49, 3) := by decide +kernel
theorem dX11_isSafe_34 : decode cX11_isSafe 34 = .ok (.aload_n 0, 1) := by decide +kernel
theorem dX11_isSafe_35 : decode cX11_isSafe 35 = .ok (.getfield 67, 3) := by decide +kernel
theorem dX11_isSafe_38 : decode cX11_isSafe 38 = .ok (.iload_n 3, 1) := by decide +kernel
theorem dX11_isSafe_39 : decode cX11_isSafe 39 = .ok (.iload 5, 2) := by decide +kernel
theorem dX11_isSafe_41 : decode cX11_isSafe 41 = .ok (.aload_n 0, 1) := by decide +kernel
theorem dX11_isSafe_42 : decode cX11_isSafe 42 = .ok (.getfield 61, 3) := by decide +kernel
theorem dX11_isSafe_45 : decode cX11_isSafe 45 = .ok (.invokestatic 277, 3) := by decide +kernel
theorem dX11_isSafe_48 : decode cX11_isSafe 48 = .ok (.aload 4, 2) := by decide +kernel
theorem dX11_isSafe_50 : decode cX11_isSafe 50 = .ok (.aload_n 0, 1) := by decide +kernel
theorem dX11_isSafe_51 : decode cX11_isSafe 51 = .ok (.getfield 61, 3) := by decide +kernel
theorem dX11_isSafe_54 : decode cX11_isSafe 54 = .ok (.iload_n 3, 1) := by decide +kernel
theorem dX11_isSafe_55 : decode cX11_isSafe 55 = .ok (.invokevirtual 253, 3) := by decide +kernel
theorem dX11_isSafe_58 : decode cX11_isSafe 58 = .ok (.aload 4, 2) := by decide +kernel
theorem dX11_isSafe_60 : decode cX11_isSafe 60 = .ok (.iload_n 2, 1) := by decide +kernel
theorem dX11_isSafe_61 : decode cX11_isSafe 61 = .ok (.invokevirtual 257, 3) := by decide +kernel
theorem dX11_isSafe_64 : decode cX11_isSafe 64 = .ok (.aload 4, 2) := by decide +kernel
theorem dX11_isSafe_66 : decode cX11_isSafe 66 = .ok (.getfield 181, 3) := by decide +kernel
theorem dX11_isSafe_69 : decode cX11_isSafe 69 = .ok (.if_icmp .ge 5, 3) := by decide +kernel
theorem dX11_isSafe_72 : decode cX11_isSafe 72 = .ok (.iconst 0, 1) := by decide +kernel
theorem dX11_isSafe_73 : decode cX11_isSafe 73 = .ok (.ireturn, 1) := by decide +kernel
theorem dX11_isSafe_74 : decode cX11_isSafe 74 = .ok (.iinc 5 1, 3) := by decide +kernel
theorem dX11_isSafe_77 : decode cX11_isSafe 77 = .ok (.goto (-51), 3) := by decide +kernel
theorem dX11_isSafe_80 : decode cX11_isSafe 80 = .ok (.iconst 1, 1) := by decide +kernel
theorem dX11_isSafe_81 : decode cX11_isSafe 81 = .ok (.ireturn, 1) := by decide +kernel
theorem dX11_bearsFacts_0 : decode cX11_bearsFacts 0 = .ok (.aload_n 0, 1) := by decide +kernel
theorem dX11_bearsFacts_1 : decode cX11_bearsFacts 1 = .ok (.getfield 50, 3) := by decide +kernel
theorem dX11_bearsFacts_4 : decode cX11_bearsFacts 4 = .ok (.iconst 0, 1) := by decide +kernel
theorem dX11_bearsFacts_5 : decode cX11_bearsFacts 5 = .ok (.aaload, 1) := by decide +kernel
theorem dX11_bearsFacts_6 : decode cX11_bearsFacts 6 = .ok (.astore_n 2, 1) := by decide +kernel
theorem dX11_bearsFacts_7 : decode cX11_bearsFacts 7 = .ok (.aload_n 2, 1) := by decide +kernel
theorem dX11_bearsFacts_8 : decode cX11_bearsFacts 8 = .ok (.aload_n 0, 1) := by decide +kernel
theorem dX11_bearsFacts_9 : decode cX11_bearsFacts 9 = .ok (.getfield 10, 3) := by decide +kernel
theorem dX11_bearsFacts_12 : decode cX11_bearsFacts 12 = .ok (.getfield 73, 3) := by decide +kernel
theorem dX11_bearsFacts_15 : decode cX11_bearsFacts 15 = .ok (.iload_n 1, 1) := by decide +kernel
theorem dX11_bearsFacts_16 : decode cX11_bearsFacts 16 = .ok (.invokevirtual 211, 3) := by decide +kernel
theorem dX11_bearsFacts_19 : decode cX11_bearsFacts 19 = .ok (.iconst 0, 1) := by decide +kernel
theorem dX11_bearsFacts_20 : decode cX11_bearsFacts 20 = .ok (.istore_n 3, 1) := by decide +kernel
theorem dX11_bearsFacts_21 : decode cX11_bearsFacts 21 = .ok (.iload_n 3, 1) := by decide +kernel
theorem dX11_bearsFacts_22 : decode cX11_bearsFacts 22 = .ok (.aload_n 0, 1) := by decide +kernel
theorem dX11_bearsFacts_23 : decode cX11_bearsFacts 23 = .ok (.getfield 10, 3) := by decide +kernel
theorem dX11_bearsFacts_26 : decode cX11_bearsFacts 26 = .ok (.getfield 230, 3) := by decide +kernel
theorem dX11_bearsFacts_29 : decode cX11_bearsFacts 29 = .ok (.if_icmp .ge 70, 3) := by decide +kernel
theorem dX11_bearsFacts_32 : decode cX11_bearsFacts 32 = .ok (.aload_n 0, 1) := by decide +kernel
theorem dX11_bearsFacts_33 : decode cX11_bearsFacts 33 = .ok (.getfield 10, 3) := by decide +kernel
theorem dX11_bearsFacts_36 : decode cX11_bearsFacts 36 = .ok (.getfield 233, 3) := by decide +kernel
theorem dX11_bearsFacts_39 : decode cX11_bearsFacts 39 = .ok (.iload_n 3, 1) := by decide +kernel
theorem dX11_bearsFacts_40 : decode cX11_bearsFacts 40 = .ok (.iaload, 1) := by decide +kernel
theorem dX11_bearsFacts_41 : decode cX11_bearsFacts 41 = .ok (.invokestatic 98, 3) := by decide +kernel
theorem dX11_bearsFacts_44 : decode cX11_bearsFacts 44 = .ok (.istore 4, 2) := by decide +kernel
theorem dX11_bearsFacts_46 : decode cX11_bearsFacts 46 = .ok (.aload_n 0, 1) := by decide +kernel
theorem dX11_bearsFacts_47 : decode cX11_bearsFacts 47 = .ok (.getfield 10, 3) := by decide +kernel
theorem dX11_bearsFacts_50 : decode cX11_bearsFacts 50 = .ok (.getfield 233, 3) := by decide +kernel
theorem dX11_bearsFacts_53 : decode cX11_bearsFacts 53 = .ok (.iload_n 3, 1) := by decide +kernel
theorem dX11_bearsFacts_54 : decode cX11_bearsFacts 54 = .ok (.iaload, 1) := by decide +kernel
theorem dX11_bearsFacts_55 : decode cX11_bearsFacts 55 = .ok (.iload 4, 2) := by decide +kernel
theorem dX11_bearsFacts_57 : decode cX11_bearsFacts 57 = .ok (.aload_n 0, 1) := by decide +kernel
theorem dX11_bearsFacts_58 : decode cX11_bearsFacts 58 = .ok (.getfield 67, 3) := by decide +kernel
theorem dX11_bearsFacts_61 : decode cX11_bearsFacts 61 = .ok (.iconst 0, 1) := by decide +kernel
theorem dX11_bearsFacts_62 : decode cX11_bearsFacts 62 = .ok (.invokestatic 152, 3) := by decide +kernel
theorem dX11_bearsFacts_65 : decode cX11_bearsFacts 65 = .ok (.aload_n 2, 1) := by decide +kernel
theorem dX11_bearsFacts_66 : decode cX11_bearsFacts 66 = .ok (.aload_n 0, 1) := by decide +kernel
theorem dX11_bearsFacts_67 : decode cX11_bearsFacts 67 = .ok (.getfield 67, 3) := by decide +kernel
theorem dX11_bearsFacts_70 : decode cX11_bearsFacts 70 = .ok (.iload 4, 2) := by decide +kernel
theorem dX11_bearsFacts_72 : decode cX11_bearsFacts 72 = .ok (.invokevirtual 253, 3) := by decide +kernel
theorem dX11_bearsFacts_75 : decode cX11_bearsFacts 75 = .ok (.aload_n 2, 1) := by decide +kernel
theorem dX11_bearsFacts_76 : decode cX11_bearsFacts 76 = .ok (.aload_n 0, 1) := by decide +kernel
theorem dX11_bearsFacts_77 : decode cX11_bearsFacts 77 = .ok (.getfield 10, 3) := by decide +kernel
theorem dX11_bearsFacts_80 : decode cX11_bearsFacts 80 = .ok (.getfield 236, 3) := by decide +kernel
theorem dX11_bearsFacts_83 : decode cX11_bearsFacts 83 = .ok (.iload_n 3, 1) := by decide +kernel
theorem dX11_bearsFacts_84 : decode cX11_bearsFacts 84 = .ok (.iaload, 1) := by decide +kernel
theorem dX11_bearsFacts_85 : decode cX11_bearsFacts 85 = .ok (.invokevirtual 257, 3) := by decide +kernel
theorem dX11_bearsFacts_88 : decode cX11_bearsFacts 88 = .ok (.ifCond .ne 5, 3) := by decide +kernel
theorem dX11_bearsFacts_91 : decode cX11_bearsFacts 91 = .ok (.iconst 0, 1) := by decide +kernel
theorem dX11_bearsFacts_92 : decode cX11_bearsFacts 92 = .ok (.ireturn, 1) := by decide +kernel
theorem dX11_bearsFacts_93 : decode cX11_bearsFacts 93 = .ok (.iinc 3 1, 3) := by decide +kernel
theorem dX11_bearsFacts_96 : decode cX11_bearsFacts 96 = .ok (.goto (-75), 3) := by decide +kernel
theorem dX11_bearsFacts_99 : decode cX11_bearsFacts 99 = .ok (.iconst 1, 1) := by decide +kernel
theorem dX11_bearsFacts_100 : decode cX11_bearsFacts 100 = .ok (.ireturn, 1) := by decide +kernel
theorem dX12_init_0 : decode cX12_init 0 = .ok (.aload_n 0, 1) := by decide +kernel
theorem dX12_init_1 : decode cX12_init 1 = .ok (.invokespecial 1, 3) := by decide +kernel
theorem dX12_init_4 : decode cX12_init 4 = .ok (.aload_n 0, 1) := by decide +kernel
theorem dX12_init_5 : decode cX12_init 5 = .ok (.sipush 1812, 3) := by decide +kernel
theorem dX12_init_8 : decode cX12_init 8 = .ok (.newarray .int, 2) := by decide +kernel
theorem dX12_init_10 : decode cX12_init 10 = .ok (.putfield 7, 3) := by decide +kernel
theorem dX12_init_13 : decode cX12_init 13 = .ok (.aload_n 0, 1) := by decide +kernel
theorem dX12_init_14 : decode cX12_init 14 = .ok (.iconst 2, 1) := by decide +kernel
theorem dX12_init_15 : decode cX12_init 15 = .ok (.newarray .boolean, 2) := by decide +kernel
theorem dX12_init_17 : decode cX12_init 17 = .ok (.putfield 13, 3) := by decide +kernel
theorem dX12_init_20 : decode cX12_init 20 = .ok (.aload_n 0, 1) := by decide +kernel
theorem dX12_init_21 : decode cX12_init 21 = .ok (.iconst 3, 1) := by decide +kernel
theorem dX12_init_22 : decode cX12_init 22 = .ok (.newarray .int, 2) := by decide +kernel
theorem dX12_init_24 : decode cX12_init 24 = .ok (.putfield 17, 3) := by decide +kernel
theorem dX12_init_27 : decode cX12_init 27 = .ok (.aload_n 0, 1) := by decide +kernel
theorem dX12_init_28 : decode cX12_init 28 = .ok (.sipush 250, 3) := by decide +kernel
theorem dX12_init_31 : decode cX12_init 31 = .ok (.newarray .byte, 2) := by decide +kernel
theorem dX12_init_33 : decode cX12_init 33 = .ok (.putfield 20, 3) := by decide +kernel
theorem dX12_init_36 : decode cX12_init 36 = .ok (.aload_n 0, 1) := by decide +kernel
theorem dX12_init_37 : decode cX12_init 37 = .ok (.bipush 60, 2) := by decide +kernel
theorem dX12_init_39 : decode cX12_init 39 = .ok (.newarray .int, 2) := by decide +kernel
theorem dX12_init_41 : decode cX12_init 41 = .ok (.putfield 24, 3) := by decide +kernel
theorem dX12_init_44 : decode cX12_init 44 = .ok (.aload_n 0, 1) := by decide +kernel
theorem dX12_init_45 : decode cX12_init 45 = .ok (.bipush 60, 2) := by decide +kernel
theorem dX12_init_47 : decode cX12_init 47 = .ok (.newarray .int, 2) := by decide +kernel
theorem dX12_init_49 : decode cX12_init 49 = .ok (.putfield 27, 3) := by decide +kernel
theorem dX12_init_52 : decode cX12_init 52 = .ok (.aload_n 0, 1) := by decide +kernel
theorem dX12_init_53 : decode cX12_init 53 = .ok (.bipush 60, 2) := by decide +kernel
theorem dX12_init_55 : decode cX12_init 55 = .ok (.newarray .int, 2) := by decide +kernel
theorem dX12_init_57 : decode cX12_init 57 = .ok (.putfield 30, 3) := by decide +kernel
theorem dX12_init_60 : decode cX12_init 60 = .ok (.aload_n 0, 1) := by decide +kernel
theorem dX12_init_61 : decode cX12_init 61 = .ok (.bipush 6, 2) := by decide +kernel
theorem dX12_init_63 : decode cX12_init 63 = .ok (.newarray .int, 2) := by decide +kernel
theorem dX12_init_65 : decode cX12_init 65 = .ok (.putfield 33, 3) := by decide +kernel
theorem dX12_init_68 : decode cX12_init 68 = .ok (.aload_n 0, 1) := by decide +kernel
theorem dX12_init_69 : decode cX12_init 69 = .ok (.iconst 0, 1) := by decide +kernel
theorem dX12_init_70 : decode cX12_init 70 = .ok (.putfield 36, 3) := by decide +kernel
theorem dX12_init_73 : decode cX12_init 73 = .ok (.return_, 1) := by decide +kernel
theorem dX12_in_0 : decode cX12_in 0 = .ok (.iload_n 0, 1) := by decide +kernel
theorem dX12_in_1 : decode cX12_in 1 = .ok (.iload_n 1, 1) := by decide +kernel
theorem dX12_in_2 : decode cX12_in 2 = .ok (.if_icmp .lt 12, 3) := by decide +kernel
theorem dX12_in_5 : decode cX12_in 5 = .ok (.iload_n 0, 1) := by decide +kernel
theorem dX12_in_6 : decode cX12_in 6 = .ok (.iload_n 2, 1) := by decide +kernel
theorem dX12_in_7 : decode cX12_in 7 = .ok (.if_icmp .gt 7, 3) := by decide +kernel
theorem dX12_in_10 : decode cX12_in 10 = .ok (.iconst 1, 1) := by decide +kernel
theorem dX12_in_11 : decode cX12_in 11 = .ok (.goto 4, 3) := by decide +kernel
theorem dX12_in_14 : decode cX12_in 14 = .ok (.iconst 0, 1) := by decide +kernel
theorem dX12_in_15 : decode cX12_in 15 = .ok (.ireturn, 1) := by decide +kernel
theorem dX12_bad_0 : decode cX12_bad 0 = .ok (.aload_n 0, 1) := by decide +kernel
theorem dX12_bad_1 : decode cX12_bad 1 = .ok (.getfield 17, 3) := by decide +kernel
theorem dX12_bad_4 : decode cX12_bad 4 = .ok (.iconst 0, 1) := by decide +kernel
theorem dX12_bad_5 : decode cX12_bad 5 = .ok (.dup2, 1) := by decide +kernel
theorem dX12_bad_6 : decode cX12_bad 6 = .ok (.iaload, 1) := by decide +kernel
theorem dX12_bad_7 : decode cX12_bad 7 = .ok (.iconst 1, 1) := by decide +kernel
theorem dX12_bad_8 : decode cX12_bad 8 = .ok (.iadd, 1) := by decide +kernel
theorem dX12_bad_9 : decode cX12_bad 9 = .ok (.iastore, 1) := by decide +kernel
theorem dX12_bad_10 : decode cX12_bad 10 = .ok (.bipush (-2), 2) := by decide +kernel
theorem dX12_bad_12 : decode cX12_bad 12 = .ok (.ireturn, 1) := by decide +kernel
theorem dX12_no_0 : decode cX12_no 0 = .ok (.aload_n 0, 1) := by decide +kernel
theorem dX12_no_1 : decode cX12_no 1 = .ok (.getfield 17, 3) := by decide +kernel
theorem dX12_no_4 : decode cX12_no 4 = .ok (.iconst 1, 1) := by decide +kernel
theorem dX12_no_5 : decode cX12_no 5 = .ok (.dup2, 1) := by decide +kernel
theorem dX12_no_6 : decode cX12_no 6 = .ok (.iaload, 1) := by decide +kernel
theorem dX12_no_7 : decode cX12_no 7 = .ok (.iconst 1, 1) := by decide +kernel
theorem dX12_no_8 : decode cX12_no 8 = .ok (.iadd, 1) := by decide +kernel
theorem dX12_no_9 : decode cX12_no 9 = .ok (.iastore, 1) := by decide +kernel
theorem dX12_no_10 : decode cX12_no 10 = .ok (.bipush (-3), 2) := by decide +kernel
theorem dX12_no_12 : decode cX12_no 12 = .ok (.ireturn, 1) := by decide +kernel
theorem dX12_full_0 : decode cX12_full 0 = .ok (.aload_n 0, 1) := by decide +kernel
theorem dX12_full_1 : decode cX12_full 1 = .ok (.getfield 17, 3) := by decide +kernel
theorem dX12_full_4 : decode cX12_full 4 = .ok (.iconst 2, 1) := by decide +kernel
theorem dX12_full_5 : decode cX12_full 5 = .ok (.dup2, 1) := by decide +kernel
theorem dX12_full_6 : decode cX12_full 6 = .ok (.iaload, 1) := by decide +kernel
theorem dX12_full_7 : decode cX12_full 7 = .ok (.iconst 1, 1) := by decide +kernel
theorem dX12_full_8 : decode cX12_full 8 = .ok (.iadd, 1) := by decide +kernel
theorem dX12_full_9 : decode cX12_full 9 = .ok (.iastore, 1) := by decide +kernel
theorem dX12_full_10 : decode cX12_full 10 = .ok (.bipush (-4), 2) := by decide +kernel
theorem dX12_full_12 : decode cX12_full 12 = .ok (.ireturn, 1) := by decide +kernel
theorem dX12_get_0 : decode cX12_get 0 = .ok (.aload_n 0, 1) := by decide +kernel
theorem dX12_get_1 : decode cX12_get 1 = .ok (.getfield 7, 3) := by decide +kernel
theorem dX12_get_4 : decode cX12_get 4 = .ok (.aload_n 0, 1) := by decide +kernel
theorem dX12_get_5 : decode cX12_get 5 = .ok (.getfield 40, 3) := by decide +kernel
theorem dX12_get_8 : decode cX12_get 8 = .ok (.iload_n 1, 1) := by decide +kernel
theorem dX12_get_9 : decode cX12_get 9 = .ok (.iadd, 1) := by decide +kernel
theorem dX12_get_10 : decode cX12_get 10 = .ok (.iaload, 1) := by decide +kernel
theorem dX12_get_11 : decode cX12_get 11 = .ok (.ireturn, 1) := by decide +kernel
theorem dX12_set_0 : decode cX12_set 0 = .ok (.aload_n 0, 1) := by decide +kernel
theorem dX12_set_1 : decode cX12_set 1 = .ok (.getfield 7, 3) := by decide +kernel
theorem dX12_set_4 : decode cX12_set 4 = .ok (.aload_n 0, 1) := by decide +kernel
theorem dX12_set_5 : decode cX12_set 5 = .ok (.getfield 40, 3) := by decide +kernel
theorem dX12_set_8 : decode cX12_set 8 = .ok (.iload_n 1, 1) := by decide +kernel
theorem dX12_set_9 : decode cX12_set 9 = .ok (.iadd, 1) := by decide +kernel
theorem dX12_set_10 : decode cX12_set 10 = .ok (.iload_n 2, 1) := by decide +kernel
theorem dX12_set_11 : decode cX12_set 11 = .ok (.iastore, 1) := by decide +kernel
theorem dX12_set_12 : decode cX12_set 12 = .ok (.return_, 1) := by decide +kernel
theorem dX12_copy_0 : decode cX12_copy 0 = .ok (.iconst 0, 1) := by decide +kernel
theorem dX12_copy_1 : decode cX12_copy 1 = .ok (.istore_n 3, 1) := by decide +kernel
theorem dX12_copy_2 : decode cX12_copy 2 = .ok (.iload_n 3, 1) := by decide +kernel
theorem dX12_copy_3 : decode cX12_copy 3 = .ok (.sipush 453, 3) := by decide +kernel
theorem dX12_copy_6 : decode cX12_copy 6 = .ok (.if_icmp .ge 25, 3) := by decide +kernel
theorem dX12_copy_9 : decode cX12_copy 9 = .ok (.aload_n 0, 1) := by decide +kernel
theorem dX12_copy_10 : decode cX12_copy 10 = .ok (.getfield 7, 3) := by decide +kernel
theorem dX12_copy_13 : decode cX12_copy 13 = .ok (.iload_n 2, 1) := by decide +kernel
theorem dX12_copy_14 : decode cX12_copy 14 = .ok (.iload_n 3, 1) := by decide +kernel
theorem dX12_copy_15 : decode cX12_copy 15 = .ok (.iadd, 1) := by decide +kernel
theorem dX12_copy_16 : decode cX12_copy 16 = .ok (.aload_n 0, 1) := by decide +kernel
theorem dX12_copy_17 : decode cX12_copy 17 = .ok (.getfield 7, 3) := by decide +kernel
theorem dX12_copy_20 : decode cX12_copy 20 = .ok (.iload_n 1, 1) := by decide +kernel
theorem dX12_copy_21 : decode cX12_copy 21 = .ok (.iload_n 3, 1) := by decide +kernel
theorem dX12_copy_22 : decode cX12_copy 22 = .ok (.iadd, 1) := by decide +kernel
theorem dX12_copy_23 : decode cX12_copy 23 = .ok (.iaload, 1) := by decide +kernel
theorem dX12_copy_24 : decode cX12_copy 24 = .ok (.iastore, 1) := by decide +kernel
theorem dX12_copy_25 : decode cX12_copy 25 = .ok (.iinc 3 1, 3) := by decide +kernel
theorem dX12_copy_28 : decode cX12_copy 28 = .ok (.goto (-26), 3) := by decide +kernel
theorem dX12_copy_31 : decode cX12_copy 31 = .ok (.return_, 1) := by decide +kernel
theorem dX12_isCode_0 : decode cX12_isCode 0 = .ok (.iload_n 1, 1) := by decide +kernel
theorem dX12_isCode_1 : decode cX12_isCode 1 = .ok (.iconst 0, 1) := by decide +kernel
theorem dX12_isCode_2 : decode cX12_isCode 2 = .ok (.aload_n 0, 1) := by decide +kernel
theorem dX12_isCode_3 : decode cX12_isCode 3 = .ok (.iconst 0, 1) := by decide +kernel
theorem dX12_isCode_4 : decode cX12_isCode 4 = .ok (.invokevirtual 43, 3) := by decide +kernel
theorem dX12_isCode_7 : decode cX12_isCode 7 = .ok (.iconst 1, 1) := by decide +kernel
theorem dX12_isCode_8 : decode cX12_isCode 8 = .ok (.isub, 1) := by decide +kernel
theorem dX12_isCode_9 : decode cX12_isCode 9 = .ok (.invokestatic 47, 3) := by decide +kernel
theorem dX12_isCode_12 : decode cX12_isCode 12 = .ok (.ireturn, 1) := by decide +kernel
theorem dX12_entriesOf_0 : decode cX12_entriesOf 0 = .ok (.aload_n 0, 1) := by decide +kernel
theorem dX12_entriesOf_1 : decode cX12_entriesOf 1 = .ok (.bipush 36, 2) := by decide +kernel
theorem dX12_entriesOf_3 : decode cX12_entriesOf 3 = .ok (.bipush 17, 2) := by decide +kernel
theorem dX12_entriesOf_5 : decode cX12_entriesOf 5 = .ok (.iload_n 1, 1) := by decide +kernel
theorem dX12_entriesOf_6 : decode cX12_entriesOf 6 = .ok (.imul, 1) := by decide +kernel
theorem dX12_entriesOf_7 : decode cX12_entriesOf 7 = .ok (.iadd, 1) := by decide +kernel
theorem dX12_entriesOf_8 : decode cX12_entriesOf 8 = .ok (.invokevirtual 43, 3) := by decide +kernel
theorem dX12_entriesOf_11 : decode cX12_entriesOf 11 = .ok (.ireturn, 1) := by decide +kernel
theorem dX12_rowOf_0 : decode cX12_rowOf 0 = .ok (.aload_n 0, 1) := by decide +kernel
theorem dX12_rowOf_1 : decode cX12_rowOf 1 = .ok (.bipush 36, 2) := by decide +kernel
theorem dX12_rowOf_3 : decode cX12_rowOf 3 = .ok (.bipush 17, 2) := by decide +kernel
theorem dX12_rowOf_5 : decode cX12_rowOf 5 = .ok (.iload_n 1, 1) := by decide +kernel
theorem dX12_rowOf_6 : decode cX12_rowOf 6 = .ok (.imul, 1) := by decide +kernel
theorem dX12_rowOf_7 : decode cX12_rowOf 7 = .ok (.iadd, 1) := by decide +kernel
theorem dX12_rowOf_8 : decode cX12_rowOf 8 = .ok (.iconst 1, 1) := by decide +kernel
theorem dX12_rowOf_9 : decode cX12_rowOf 9 = .ok (.iadd, 1) := by decide +kernel
theorem dX12_rowOf_10 : decode cX12_rowOf 10 = .ok (.iconst 2, 1) := by decide +kernel
theorem dX12_rowOf_11 : decode cX12_rowOf 11 = .ok (.iload_n 2, 1) := by decide +kernel
theorem dX12_rowOf_12 : decode cX12_rowOf 12 = .ok (.imul, 1) := by decide +kernel
theorem dX12_rowOf_13 : decode cX12_rowOf 13 = .ok (.iadd, 1) := by decide +kernel
theorem dX12_rowOf_14 : decode cX12_rowOf 14 = .ok (.invokevirtual 43, 3) := by decide +kernel
theorem dX12_rowOf_17 : decode cX12_rowOf 17 = .ok (.ireturn, 1) := by decide +kernel
theorem dX12_wordOf_0 : decode cX12_wordOf 0 = .ok (.aload_n 0, 1) := by decide +kernel
theorem dX12_wordOf_1 : decode cX12_wordOf 1 = .ok (.bipush 36, 2) := by decide +kernel
theorem dX12_wordOf_3 : decode cX12_wordOf 3 = .ok (.bipush 17, 2) := by decide +kernel
theorem dX12_wordOf_5 : decode cX12_wordOf 5 = .ok (.iload_n 1, 1) := by decide +kernel
theorem dX12_wordOf_6 : decode cX12_wordOf 6 = .ok (.imul, 1) := by decide +kernel
theorem dX12_wordOf_7 : decode cX12_wordOf 7 = .ok (.iadd, 1) := by decide +kernel
theorem dX12_wordOf_8 : decode cX12_wordOf 8 = .ok (.iconst 2, 1) := by decide +kernel
theorem dX12_wordOf_9 : decode cX12_wordOf 9 = .ok (.iadd, 1) := by decide +kernel
theorem dX12_wordOf_10 : decode cX12_wordOf 10 = .ok (.iconst 2, 1) := by decide +kernel
theorem dX12_wordOf_11 : decode cX12_wordOf 11 = .ok (.iload_n 2, 1) := by decide +kernel
theorem dX12_wordOf_12 : decode cX12_wordOf 12 = .ok (.imul, 1) := by decide +kernel
theorem dX12_wordOf_13 : decode cX12_wordOf 13 = .ok (.iadd, 1) := by decide +kernel
theorem dX12_wordOf_14 : decode cX12_wordOf 14 = .ok (.invokevirtual 43, 3) := by decide +kernel
theorem dX12_wordOf_17 : decode cX12_wordOf 17 = .ok (.ireturn, 1) := by decide +kernel
theorem dX12_lengthOf_0 : decode cX12_lengthOf 0 = .ok (.bipush 12, 2) := by decide +kernel
theorem dX12_lengthOf_2 : decode cX12_lengthOf 2 = .ok (.istore_n 1, 1) := by decide +kernel
theorem dX12_lengthOf_3 : decode cX12_lengthOf 3 = .ok (.iconst 1, 1) := by decide +kernel
theorem dX12_lengthOf_4 : decode cX12_lengthOf 4 = .ok (.istore_n 2, 1) := by decide +kernel
theorem dX12_lengthOf_5 : decode cX12_lengthOf 5 = .ok (.iload_n 2, 1) := by decide +kernel
theorem dX12_lengthOf_6 : decode cX12_lengthOf 6 = .ok (.bipush 6, 2) := by decide +kernel
theorem dX12_lengthOf_8 : decode cX12_lengthOf 8 = .ok (.if_icmp .gt 29, 3) := by decide +kernel
theorem dX12_lengthOf_11 : decode cX12_lengthOf 11 = .ok (.iload_n 0, 1) := by decide +kernel
theorem dX12_lengthOf_12 : decode cX12_lengthOf 12 = .ok (.iload_n 1, 1) := by decide +kernel
theorem dX12_lengthOf_13 : decode cX12_lengthOf 13 = .ok (.iconst 2, 1) := by decide +kernel
theorem dX12_lengthOf_14 : decode cX12_lengthOf 14 = .ok (.iload_n 1, 1) := by decide +kernel
theorem dX12_lengthOf_15 : decode cX12_lengthOf 15 = .ok (.imul, 1) := by decide +kernel
theorem dX12_lengthOf_16 : decode cX12_lengthOf 16 = .ok (.iconst 1, 1) := by decide +kernel
theorem dX12_lengthOf_17 : decode cX12_lengthOf 17 = .ok (.isub, 1) := by decide +kernel
theorem dX12_lengthOf_18 : decode cX12_lengthOf 18 = .ok (.invokestatic 47, 3) := by decide +kernel
theorem dX12_lengthOf_21 : decode cX12_lengthOf 21 = .ok (.ifCond .eq 5, 3) := by decide +kernel
theorem dX12_lengthOf_24 : decode cX12_lengthOf 24 = .ok (.iload_n 2, 1) := by decide +kernel
theorem dX12_lengthOf_25 : decode cX12_lengthOf 25 = .ok (.ireturn, 1) := by decide +kernel
theorem dX12_lengthOf_26 : decode cX12_lengthOf 26 = .ok (.iload_n 1, 1) := by decide +kernel
theorem dX12_lengthOf_27 : decode cX12_lengthOf 27 = .ok (.bipush 12, 2) := by decide +kernel
theorem dX12_lengthOf_29 : decode cX12_lengthOf 29 = .ok (.imul, 1) := by decide +kernel
theorem dX12_lengthOf_30 : decode cX12_lengthOf 30 = .ok (.istore_n 1, 1) := by decide +kernel
theorem dX12_lengthOf_31 : decode cX12_lengthOf 31 = .ok (.iinc 2 1, 3) := by decide +kernel
theorem dX12_lengthOf_34 : decode cX12_lengthOf 34 = .ok (.goto (-29), 3) := by decide +kernel
theorem dX12_lengthOf_37 : decode cX12_lengthOf 37 = .ok (.iconst (-1), 1) := by decide +kernel
theorem dX12_lengthOf_38 : decode cX12_lengthOf 38 = .ok (.ireturn, 1) := by decide +kernel
theorem dX12_stateOf_0 : decode cX12_stateOf 0 = .ok (.iload_n 0, 1) := by decide +kernel
theorem dX12_stateOf_1 : decode cX12_stateOf 1 = .ok (.istore_n 3, 1) := by decide +kernel
theorem dX12_stateOf_2 : decode cX12_stateOf 2 = .ok (.iload_n 1, 1) := by decide +kernel
theorem dX12_stateOf_3 : decode cX12_stateOf 3 = .ok (.iconst 1, 1) := by decide +kernel
theorem dX12_stateOf_4 : decode cX12_stateOf 4 = .ok (.isub, 1) := by decide +kernel
theorem dX12_stateOf_5 : decode cX12_stateOf 5 = .ok (.istore 4, 2) := by decide +kernel
theorem dX12_stateOf_7 : decode cX12_stateOf 7 = .ok (.iload 4, 2) := by decide +kernel
theorem dX12_stateOf_9 : decode cX12_stateOf 9 = .ok (.iload_n 2, 1) := by decide +kernel
theorem dX12_stateOf_10 : decode cX12_stateOf 10 = .ok (.if_icmp .le 14, 3) := by decide +kernel
theorem dX12_stateOf_13 : decode cX12_stateOf 13 = .ok (.iload_n 3, 1) := by decide +kernel
theorem dX12_stateOf_14 : decode cX12_stateOf 14 = .ok (.bipush 12, 2) := by decide +kernel
theorem dX12_stateOf_16 : decode cX12_stateOf 16 = .ok (.idiv, 1) := by decide +kernel
theorem dX12_stateOf_17 : decode cX12_stateOf 17 = .ok (.istore_n 3, 1) := by decide +kernel
theorem dX12_stateOf_18 : decode cX12_stateOf 18 = .ok (.iinc 4 (-1), 3) := by decide +kernel
theorem dX12_stateOf_21 : decode cX12_stateOf 21 = .ok (.goto (-14), 3) := by decide +kernel
theorem dX12_stateOf_24 : decode cX12_stateOf 24 = .ok (.iload_n 3, 1) := by decide +kernel
theorem dX12_stateOf_25 : decode cX12_stateOf 25 = .ok (.bipush 12, 2) := by decide +kernel
theorem dX12_stateOf_27 : decode cX12_stateOf 27 = .ok (.irem, 1) := by decide +kernel
theorem dX12_stateOf_28 : decode cX12_stateOf 28 = .ok (.ireturn, 1) := by decide +kernel
theorem dX12_hasRow_0 : decode cX12_hasRow 0 = .ok (.iconst 0, 1) := by decide +kernel
theorem dX12_hasRow_1 : decode cX12_hasRow 1 = .ok (.istore_n 3, 1) := by decide +kernel
theorem dX12_hasRow_2 : decode cX12_hasRow 2 = .ok (.iconst 0, 1) := by decide +kernel
theorem dX12_hasRow_3 : decode cX12_hasRow 3 = .ok (.istore 4, 2) := by decide +kernel
theorem dX12_hasRow_5 : decode cX12_hasRow 5 = .ok (.iload 4, 2) := by decide +kernel
theorem dX12_hasRow_7 : decode cX12_hasRow 7 = .ok (.aload_n 0, 1) := by decide +kernel
theorem dX12_hasRow_8 : decode cX12_hasRow 8 = .ok (.iload_n 1, 1) := by decide +kernel
theorem dX12_hasRow_9 : decode cX12_hasRow 9 = .ok (.invokevirtual 51, 3) := by decide +kernel
theorem dX12_hasRow_12 : decode cX12_hasRow 12 = .ok (.if_icmp .ge 30, 3) := by decide +kernel
theorem dX12_hasRow_15 : decode cX12_hasRow 15 = .ok (.iload_n 3, 1) := by decide +kernel
theorem dX12_hasRow_16 : decode cX12_hasRow 16 = .ok (.ifCond .ne 14, 3) := by decide +kernel
theorem dX12_hasRow_19 : decode cX12_hasRow 19 = .ok (.aload_n 0, 1) := by decide +kernel
theorem dX12_hasRow_20 : decode cX12_hasRow 20 = .ok (.iload_n 1, 1) := by decide +kernel
theorem dX12_hasRow_21 : decode cX12_hasRow 21 = .ok (.iload 4, 2) := by decide +kernel
theorem dX12_hasRow_23 : decode cX12_hasRow 23 = .ok (.invokevirtual 54, 3) := by decide +kernel
theorem dX12_hasRow_26 : decode cX12_hasRow 26 = .ok (.iload_n 2, 1) := by decide +kernel
theorem dX12_hasRow_27 : decode cX12_hasRow 27 = .ok (.if_icmp .ne 7, 3) := by decide +kernel
theorem dX12_hasRow_30 : decode cX12_hasRow 30 = .ok (.iconst 1, 1) := by decide +kernel
theorem dX12_hasRow_31 : decode cX12_hasRow 31 = .ok (.goto 4, 3) := by decide +kernel
theorem dX12_hasRow_34 : decode cX12_hasRow 34 = .ok (.iconst 0, 1) := by decide +kernel
theorem dX12_hasRow_35 : decode cX12_hasRow 35 = .ok (.istore_n 3, 1) := by decide +kernel
theorem dX12_hasRow_36 : decode cX12_hasRow 36 = .ok (.iinc 4 1, 3) := by decide +kernel
theorem dX12_hasRow_39 : decode cX12_hasRow 39 = .ok (.goto (-34), 3) := by decide +kernel
theorem dX12_hasRow_42 : decode cX12_hasRow 42 = .ok (.iload_n 3, 1) := by decide +kernel
theorem dX12_hasRow_43 : decode cX12_hasRow 43 = .ok (.ireturn, 1) := by decide +kernel
theorem dX12_addEntry_0 : decode cX12_addEntry 0 = .ok (.aload_n 0, 1) := by decide +kernel
theorem dX12_addEntry_1 : decode cX12_addEntry 1 = .ok (.iload_n 1, 1) := by decide +kernel
theorem dX12_addEntry_2 : decode cX12_addEntry 2 = .ok (.invokevirtual 51, 3) := by decide +kernel
theorem dX12_addEntry_5 : decode cX12_addEntry 5 = .ok (.istore 4, 2) := by decide +kernel
theorem dX12_addEntry_7 : decode cX12_addEntry 7 = .ok (.aload_n 0, 1) := by decide +kernel
theorem dX12_addEntry_8 : decode cX12_addEntry 8 = .ok (.bipush 36, 2) := by decide +kernel
theorem dX12_addEntry_10 : decode cX12_addEntry 10 = .ok (.bipush 17, 2) := by decide +kernel
theorem dX12_addEntry_12 : decode cX12_addEntry 12 = .ok (.iload_n 1, 1) := by decide +kernel
theorem dX12_addEntry_13 : decode cX12_addEntry 13 = .ok (.imul, 1) := by decide +kernel
theorem dX12_addEntry_14 : decode cX12_addEntry 14 = .ok (.iadd, 1) := by decide +kernel
theorem dX12_addEntry_15 : decode cX12_addEntry 15 = .ok (.iconst 1, 1) := by decide +kernel
theorem dX12_addEntry_16 : decode cX12_addEntry 16 = .ok (.iadd, 1) := by decide +kernel
theorem dX12_addEntry_17 : decode cX12_addEntry 17 = .ok (.iconst 2, 1) := by decide +kernel
theorem dX12_addEntry_18 : decode cX12_addEntry 18 = .ok (.iload 4, 2) := by decide +kernel
theorem dX12_addEntry_20 : decode cX12_addEntry 20 = .ok (.imul, 1) := by decide +kernel
theorem dX12_addEntry_21 : decode cX12_addEntry 21 = .ok (.iadd, 1) := by decide +kernel
theorem dX12_addEntry_22 : decode cX12_addEntry 22 = .ok (.iload_n 3, 1) := by decide +kernel
theorem dX12_addEntry_23 : decode cX12_addEntry 23 = .ok (.invokevirtual 58, 3) := by decide +kernel
theorem dX12_addEntry_26 : decode cX12_addEntry 26 = .ok (.aload_n 0, 1) := by decide +kernel
theorem dX12_addEntry_27 : decode cX12_addEntry 27 = .ok (.bipush 36, 2) := by decide +kernel
theorem dX12_addEntry_29 : decode cX12_addEntry 29 = .ok (.bipush 17, 2) := by decide +kernel
theorem dX12_addEntry_31 : decode cX12_addEntry 31 = .ok (.iload_n 1, 1) := by decide +kernel
theorem dX12_addEntry_32 : decode cX12_addEntry 32 = .ok (.imul, 1) := by decide +kernel
theorem dX12_addEntry_33 : decode cX12_addEntry 33 = .ok (.iadd, 1) := by decide +kernel
theorem dX12_addEntry_34 : decode cX12_addEntry 34 = .ok (.iconst 2, 1) := by decide +kernel
theorem dX12_addEntry_35 : decode cX12_addEntry 35 = .ok (.iadd, 1) := by decide +kernel
theorem dX12_addEntry_36 : decode cX12_addEntry 36 = .ok (.iconst 2, 1) := by decide +kernel
theorem dX12_addEntry_37 : decode cX12_addEntry 37 = .ok (.iload 4, 2) := by decide +kernel
theorem dX12_addEntry_39 : decode cX12_addEntry 39 = .ok (.imul, 1) := by decide +kernel
theorem dX12_addEntry_40 : decode cX12_addEntry 40 = .ok (.iadd, 1) := by decide +kernel
theorem dX12_addEntry_41 : decode cX12_addEntry 41 = .ok (.iload_n 2, 1) := by decide +kernel
theorem dX12_addEntry_42 : decode cX12_addEntry 42 = .ok (.invokevirtual 58, 3) := by decide +kernel
theorem dX12_addEntry_45 : decode cX12_addEntry 45 = .ok (.aload_n 0, 1) := by decide +kernel
theorem dX12_addEntry_46 : decode cX12_addEntry 46 = .ok (.bipush 36, 2) := by decide +kernel
theorem dX12_addEntry_48 : decode cX12_addEntry 48 = .ok (.bipush 17, 2) := by decide +kernel
theorem dX12_addEntry_50 : decode cX12_addEntry 50 = .ok (.iload_n 1, 1) := by decide +kernel
theorem dX12_addEntry_51 : decode cX12_addEntry 51 = .ok (.imul, 1) := by decide +kernel
theorem dX12_addEntry_52 : decode cX12_addEntry 52 = .ok (.iadd, 1) := by decide +kernel
theorem dX12_addEntry_53 : decode cX12_addEntry 53 = .ok (.iload 4, 2) := by decide +kernel
theorem dX12_addEntry_55 : decode cX12_addEntry 55 = .ok (.iconst 1, 1) := by decide +kernel
theorem dX12_addEntry_56 : decode cX12_addEntry 56 = .ok (.iadd, 1) := by decide +kernel
theorem dX12_addEntry_57 : decode cX12_addEntry 57 = .ok (.invokevirtual 58, 3) := by decide +kernel
theorem dX12_addEntry_60 : decode cX12_addEntry 60 = .ok (.return_, 1) := by decide +kernel
theorem dX12_code_0 : decode cX12_code 0 = .ok (.aload_n 0, 1) := by decide +kernel
theorem dX12_code_1 : decode cX12_code 1 = .ok (.iconst 0, 1) := by decide +kernel
theorem dX12_code_2 : decode cX12_code 2 = .ok (.invokevirtual 43, 3) := by decide +kernel
theorem dX12_code_5 : decode cX12_code 5 = .ok (.iconst 3, 1) := by decide +kernel
theorem dX12_code_6 : decode cX12_code 6 = .ok (.if_icmp .ne 8, 3) := by decide +kernel
theorem dX12_code_9 : decode cX12_code 9 = .ok (.aload_n 0, 1) := by decide +kernel
theorem dX12_code_10 : decode cX12_code 10 = .ok (.invokevirtual 62, 3) := by decide +kernel
theorem dX12_code_13 : decode cX12_code 13 = .ok (.ireturn, 1) := by decide +kernel
theorem dX12_code_14 : decode cX12_code 14 = .ok (.aload_n 0, 1) := by decide +kernel
theorem dX12_code_15 : decode cX12_code 15 = .ok (.bipush 36, 2) := by decide +kernel
theorem dX12_code_17 : decode cX12_code 17 = .ok (.bipush 17, 2) := by decide +kernel
theorem dX12_code_19 : decode cX12_code 19 = .ok (.aload_n 0, 1) := by decide +kernel
theorem dX12_code_20 : decode cX12_code 20 = .ok (.iconst 0, 1) := by decide +kernel
theorem dX12_code_21 : decode cX12_code 21 = .ok (.invokevirtual 43, 3) := by decide +kernel
theorem dX12_code_24 : decode cX12_code 24 = .ok (.imul, 1) := by decide +kernel
theorem dX12_code_25 : decode cX12_code 25 = .ok (.iadd, 1) := by decide +kernel
theorem dX12_code_26 : decode cX12_code 26 = .ok (.iconst 0, 1) := by decide +kernel
theorem dX12_code_27 : decode cX12_code 27 = .ok (.invokevirtual 58, 3) := by decide +kernel
theorem dX12_code_30 : decode cX12_code 30 = .ok (.aload_n 0, 1) := by decide +kernel
theorem dX12_code_31 : decode cX12_code 31 = .ok (.iconst 0, 1) := by decide +kernel
theorem dX12_code_32 : decode cX12_code 32 = .ok (.aload_n 0, 1) := by decide +kernel
theorem dX12_code_33 : decode cX12_code 33 = .ok (.iconst 0, 1) := by decide +kernel
theorem dX12_code_34 : decode cX12_code 34 = .ok (.invokevirtual 43, 3) := by decide +kernel
theorem dX12_code_37 : decode cX12_code 37 = .ok (.iconst 1, 1) := by decide +kernel
theorem dX12_code_38 : decode cX12_code 38 = .ok (.iadd, 1) := by decide +kernel
theorem dX12_code_39 : decode cX12_code 39 = .ok (.invokevirtual 58, 3) := by decide +kernel
theorem dX12_code_42 : decode cX12_code 42 = .ok (.aload_n 0, 1) := by decide +kernel
theorem dX12_code_43 : decode cX12_code 43 = .ok (.iconst 5, 1) := by decide +kernel
theorem dX12_code_44 : decode cX12_code 44 = .ok (.iconst 0, 1) := by decide +kernel
theorem dX12_code_45 : decode cX12_code 45 = .ok (.invokevirtual 58, 3) := by decide +kernel
theorem dX12_code_48 : decode cX12_code 48 = .ok (.aload_n 0, 1) := by decide +kernel
theorem dX12_code_49 : decode cX12_code 49 = .ok (.iconst 0, 1) := by decide +kernel
theorem dX12_code_50 : decode cX12_code 50 = .ok (.invokevirtual 43, 3) := by decide +kernel
theorem dX12_code_53 : decode cX12_code 53 = .ok (.iconst 1, 1) := by decide +kernel
theorem dX12_code_54 : decode cX12_code 54 = .ok (.isub, 1) := by decide +kernel
theorem dX12_code_55 : decode cX12_code 55 = .ok (.ireturn, 1) := by decide +kernel
theorem dX12_entry_0 : decode cX12_entry 0 = .ok (.aload_n 0, 1) := by decide +kernel
theorem dX12_entry_1 : decode cX12_entry 1 = .ok (.iload_n 1, 1) := by decide +kernel
theorem dX12_entry_2 : decode cX12_entry 2 = .ok (.invokevirtual 66, 3) := by decide +kernel
theorem dX12_entry_5 : decode cX12_entry 5 = .ok (.ifCond .eq 25, 3) := by decide +kernel
theorem dX12_entry_8 : decode cX12_entry 8 = .ok (.iload_n 2, 1) := by decide +kernel
theorem dX12_entry_9 : decode cX12_entry 9 = .ok (.iconst 0, 1) := by decide +kernel
theorem dX12_entry_10 : decode cX12_entry 10 = .ok (.bipush 9, 2) := by decide +kernel
theorem dX12_entry_12 : decode cX12_entry 12 = .ok (.invokestatic 47, 3) := by decide +kernel
theorem dX12_entry_15 : decode cX12_entry 15 = .ok (.ifCond .eq 15, 3) := by decide +kernel
theorem dX12_entry_18 : decode cX12_entry 18 = .ok (.iload_n 3, 1) := by decide +kernel
theorem dX12_entry_19 : decode cX12_entry 19 = .ok (.invokestatic 70, 3) := by decide +kernel
theorem dX12_entry_22 : decode cX12_entry 22 = .ok (.iconst 1, 1) := by decide +kernel
theorem dX12_entry_23 : decode cX12_entry 23 = .ok (.iconst 3, 1) := by decide +kernel
theorem dX12_entry_24 : decode cX12_entry 24 = .ok (.invokestatic 47, 3) := by decide +kernel
theorem dX12_entry_27 : decode cX12_entry 27 = .ok (.ifCond .ne 8, 3) := by decide +kernel
theorem dX12_entry_30 : decode cX12_entry 30 = .ok (.aload_n 0, 1) := by decide +kernel
theorem dX12_entry_31 : decode cX12_entry 31 = .ok (.invokevirtual 73, 3) := by decide +kernel
theorem dX12_entry_34 : decode cX12_entry 34 = .ok (.ireturn, 1) := by decide +kernel
theorem dX12_entry_35 : decode cX12_entry 35 = .ok (.aload_n 0, 1) := by decide +kernel
theorem dX12_entry_36 : decode cX12_entry 36 = .ok (.iload_n 1, 1) := by decide +kernel
theorem dX12_entry_37 : decode cX12_entry 37 = .ok (.iload_n 3, 1) := by decide +kernel
theorem dX12_entry_38 : decode cX12_entry 38 = .ok (.invokevirtual 76, 3) := by decide +kernel
theorem dX12_entry_41 : decode cX12_entry 41 = .ok (.ifCond .eq 8, 3) := by decide +kernel
theorem dX12_entry_44 : decode cX12_entry 44 = .ok (.aload_n 0, 1) := by decide +kernel
theorem dX12_entry_45 : decode cX12_entry 45 = .ok (.invokevirtual 80, 3) := by decide +kernel
theorem dX12_entry_48 : decode cX12_entry 48 = .ok (.ireturn, 1) := by decide +kernel
theorem dX12_entry_49 : decode cX12_entry 49 = .ok (.aload_n 0, 1) := by decide +kernel
theorem dX12_entry_50 : decode cX12_entry 50 = .ok (.iload_n 1, 1) := by decide +kernel
theorem dX12_entry_51 : decode cX12_entry 51 = .ok (.invokevirtual 51, 3) := by decide +kernel
theorem dX12_entry_54 : decode cX12_entry 54 = .ok (.bipush 8, 2) := by decide +kernel
theorem dX12_entry_56 : decode cX12_entry 56 = .ok (.if_icmp .ne 8, 3) := by decide +kernel
theorem dX12_entry_59 : decode cX12_entry 59 = .ok (.aload_n 0, 1) := by decide +kernel
theorem dX12_entry_60 : decode cX12_entry 60 = .ok (.invokevirtual 62, 3) := by decide +kernel
theorem dX12_entry_63 : decode cX12_entry 63 = .ok (.ireturn, 1) := by decide +kernel
theorem dX12_entry_64 : decode cX12_entry 64 = .ok (.aload_n 0, 1) := by decide +kernel
theorem dX12_entry_65 : decode cX12_entry 65 = .ok (.iload_n 1, 1) := by decide +kernel
theorem dX12_entry_66 : decode cX12_entry 66 = .ok (.iload_n 2, 1) := by decide +kernel
theorem dX12_entry_67 : decode cX12_entry 67 = .ok (.iload_n 3, 1) := by decide +kernel
theorem dX12_entry_68 : decode cX12_entry 68 = .ok (.invokevirtual 83, 3) := by decide +kernel
theorem dX12_entry_71 : decode cX12_entry 71 = .ok (.aload_n 0, 1) := by decide +kernel
theorem dX12_entry_72 : decode cX12_entry 72 = .ok (.iconst 5, 1) := by decide +kernel
theorem dX12_entry_73 : decode cX12_entry 73 = .ok (.iconst 0, 1) := by decide +kernel
theorem dX12_entry_74 : decode cX12_entry 74 = .ok (.invokevirtual 58, 3) := by decide +kernel
theorem dX12_entry_77 : decode cX12_entry 77 = .ok (.aload_n 0, 1) := by decide +kernel
theorem dX12_entry_78 : decode cX12_entry 78 = .ok (.iload_n 1, 1) := by decide +kernel
theorem dX12_entry_79 : decode cX12_entry 79 = .ok (.invokevirtual 51, 3) := by decide +kernel
theorem dX12_entry_82 : decode cX12_entry 82 = .ok (.iconst 1, 1) := by decide +kernel
theorem dX12_entry_83 : decode cX12_entry 83 = .ok (.isub, 1) := by decide +kernel
theorem dX12_entry_84 : decode cX12_entry 84 = .ok (.ireturn, 1) := by decide +kernel
theorem dX12_told_0 : decode cX12_told 0 = .ok (.aload_n 0, 1) := by decide +kernel
theorem dX12_told_1 : decode cX12_told 1 = .ok (.iload_n 1, 1) := by decide +kernel
theorem dX12_told_2 : decode cX12_told 2 = .ok (.invokevirtual 66, 3) := by decide +kernel
theorem dX12_told_5 : decode cX12_told 5 = .ok (.ifCond .eq 27, 3) := by decide +kernel
theorem dX12_told_8 : decode cX12_told 8 = .ok (.iload_n 2, 1) := by decide +kernel
theorem dX12_told_9 : decode cX12_told 9 = .ok (.iconst 0, 1) := by decide +kernel
theorem dX12_told_10 : decode cX12_told 10 = .ok (.aload_n 0, 1) := by decide +kernel
theorem dX12_told_11 : decode cX12_told 11 = .ok (.iload_n 1, 1) := by decide +kernel
theorem dX12_told_12 : decode cX12_told 12 = .ok (.invokevirtual 51, 3) := by decide +kernel
theorem dX12_told_15 : decode cX12_told 15 = .ok (.iconst 1, 1) := by decide +kernel
theorem dX12_told_16 : decode cX12_told 16 = .ok (.isub, 1) := by decide +kernel
theorem dX12_told_17 : decode cX12_told 17 = .ok (.invokestatic 47, 3) := by decide +kernel
theorem dX12_told_20 : decode cX12_told 20 = .ok (.ifCond .eq 12, 3) := by decide +kernel
theorem dX12_told_23 : decode cX12_told 23 = .ok (.iload_n 3, 1) := by decide +kernel
theorem dX12_told_24 : decode cX12_told 24 = .ok (.iconst 0, 1) := by decide +kernel
theorem dX12_told_25 : decode cX12_told 25 = .ok (.iconst 1, 1) := by decide +kernel
theorem dX12_told_26 : decode cX12_told 26 = .ok (.invokestatic 47, 3) := by decide +kernel
theorem dX12_told_29 : decode cX12_told 29 = .ok (.ifCond .ne 8, 3) := by decide +kernel
theorem dX12_told_32 : decode cX12_told 32 = .ok (.aload_n 0, 1) := by decide +kernel
theorem dX12_told_33 : decode cX12_told 33 = .ok (.invokevirtual 73, 3) := by decide +kernel
theorem dX12_told_36 : decode cX12_told 36 = .ok (.ireturn, 1) := by decide +kernel
theorem dX12_told_37 : decode cX12_told 37 = .ok (.iload_n 3, 1) := by decide +kernel
theorem dX12_told_38 : decode cX12_told 38 = .ok (.ifCond .ne 12, 3) := by decide +kernel
theorem dX12_told_41 : decode cX12_told 41 = .ok (.aload_n 0, 1) := by decide +kernel
theorem dX12_told_42 : decode cX12_told 42 = .ok (.iload_n 1, 1) := by decide +kernel
theorem dX12_told_43 : decode cX12_told 43 = .ok (.iload_n 2, 1) := by decide +kernel
theorem dX12_told_44 : decode cX12_told 44 = .ok (.invokevirtual 54, 3) := by decide +kernel
theorem dX12_told_47 : decode cX12_told 47 = .ok (.goto 9, 3) := by decide +kernel
theorem dX12_told_50 : decode cX12_told 50 = .ok (.aload_n 0, 1) := by decide +kernel
theorem dX12_told_51 : decode cX12_told 51 = .ok (.iload_n 1, 1) := by decide +kernel
theorem dX12_told_52 : decode cX12_told 52 = .ok (.iload_n 2, 1) := by decide +kernel
theorem dX12_told_53 : decode cX12_told 53 = .ok (.invokevirtual 87, 3) := by decide +kernel
theorem dX12_told_56 : decode cX12_told 56 = .ok (.ireturn, 1) := by decide +kernel
theorem dX12_draughts_0 : decode cX12_draughts 0 = .ok (.iload_n 1, 1) := by decide +kernel
theorem dX12_draughts_1 : decode cX12_draughts 1 = .ok (.iconst 0, 1) := by decide +kernel
theorem dX12_draughts_2 : decode cX12_draughts 2 = .ok (.bipush 63, 2) := by decide +kernel
theorem dX12_draughts_4 : decode cX12_draughts 4 = .ok (.invokestatic 47, 3) := by decide +kernel
theorem dX12_draughts_7 : decode cX12_draughts 7 = .ok (.ifCond .ne 8, 3) := by decide +kernel
theorem dX12_draughts_10 : decode cX12_draughts 10 = .ok (.aload_n 0, 1) := by decide +kernel
theorem dX12_draughts_11 : decode cX12_draughts 11 = .ok (.invokevirtual 73, 3) := by decide +kernel
theorem dX12_draughts_14 : decode cX12_draughts 14 = .ok (.ireturn, 1) := by decide +kernel
theorem dX12_draughts_15 : decode cX12_draughts 15 = .ok (.aload_n 0, 1) := by decide +kernel
theorem dX12_draughts_16 : decode cX12_draughts 16 = .ok (.iconst 1, 1) := by decide +kernel
theorem dX12_draughts_17 : decode cX12_draughts 17 = .ok (.invokevirtual 43, 3) := by decide +kernel
theorem dX12_draughts_20 : decode cX12_draughts 20 = .ok (.istore_n 2, 1) := by decide +kernel
theorem dX12_draughts_21 : decode cX12_draughts 21 = .ok (.aload_n 0, 1) := by decide +kernel
theorem dX12_draughts_22 : decode cX12_draughts 22 = .ok (.iconst 1, 1) := by decide +kernel
theorem dX12_draughts_23 : decode cX12_draughts 23 = .ok (.iload_n 1, 1) := by decide +kernel
theorem dX12_draughts_24 : decode cX12_draughts 24 = .ok (.invokevirtual 58, 3) := by decide +kernel
theorem dX12_draughts_27 : decode cX12_draughts 27 = .ok (.iload_n 2, 1) := by decide +kernel
theorem dX12_draughts_28 : decode cX12_draughts 28 = .ok (.ireturn, 1) := by decide +kernel
theorem dX12_type_0 : decode cX12_type 0 = .ok (.iload_n 3, 1) := by decide +kernel
theorem dX12_type_1 : decode cX12_type 1 = .ok (.iconst 1, 1) := by decide +kernel
theorem dX12_type_2 : decode cX12_type 2 = .ok (.bipush 8, 2) := by decide +kernel
theorem dX12_type_4 : decode cX12_type 4 = .ok (.invokestatic 47, 3) := by decide +kernel
theorem dX12_type_7 : decode cX12_type 7 = .ok (.ifCond .ne 8, 3) := by decide +kernel
theorem dX12_type_10 : decode cX12_type 10 = .ok (.aload_n 0, 1) := by decide +kernel
theorem dX12_type_11 : decode cX12_type 11 = .ok (.invokevirtual 73, 3) := by decide +kernel
theorem dX12_type_14 : decode cX12_type 14 = .ok (.ireturn, 1) := by decide +kernel
theorem dX12_type_15 : decode cX12_type 15 = .ok (.aload_n 0, 1) := by decide +kernel
theorem dX12_type_16 : decode cX12_type 16 = .ok (.getfield 36, 3) := by decide +kernel
theorem dX12_type_19 : decode cX12_type 19 = .ok (.iload_n 3, 1) := by decide +kernel
theorem dX12_type_20 : decode cX12_type 20 = .ok (.iadd, 1) := by decide +kernel
theorem dX12_type_21 : decode cX12_type 21 = .ok (.sipush 250, 3) := by decide +kernel
theorem dX12_type_24 : decode cX12_type 24 = .ok (.if_icmp .le 8, 3) := by decide +kernel
theorem dX12_type_27 : decode cX12_type 27 = .ok (.aload_n 0, 1) := by decide +kernel
theorem dX12_type_28 : decode cX12_type 28 = .ok (.invokevirtual 62, 3) := by decide +kernel
theorem dX12_type_31 : decode cX12_type 31 = .ok (.ireturn, 1) := by decide +kernel
theorem dX12_type_32 : decode cX12_type 32 = .ok (.iload_n 3, 1) := by decide +kernel
theorem dX12_type_33 : decode cX12_type 33 = .ok (.iconst 1, 1) := by decide +kernel
theorem dX12_type_34 : decode cX12_type 34 = .ok (.isub, 1) := by decide +kernel
theorem dX12_type_35 : decode cX12_type 35 = .ok (.istore 4, 2) := by decide +kernel
theorem dX12_type_37 : decode cX12_type 37 = .ok (.iload 4, 2) := by decide +kernel
theorem dX12_type_39 : decode cX12_type 39 = .ok (.ifCond .lt 41, 3) := by decide +kernel
theorem dX12_type_42 : decode cX12_type 42 = .ok (.aload_n 0, 1) := by decide +kernel
theorem dX12_type_43 : decode cX12_type 43 = .ok (.getfield 20, 3) := by decide +kernel
theorem dX12_type_46 : decode cX12_type 46 = .ok (.aload_n 0, 1) := by decide +kernel
theorem dX12_type_47 : decode cX12_type 47 = .ok (.getfield 36, 3) := by decide +kernel
theorem dX12_type_50 : decode cX12_type 50 = .ok (.lload_n 1, 1) := by decide +kernel
theorem dX12_type_51 : decode cX12_type 51 = .ok (.bipush 8, 2) := by decide +kernel
theorem dX12_type_53 : decode cX12_type 53 = .ok (.iload 4, 2) := by decide +kernel
theorem dX12_type_55 : decode cX12_type 55 = .ok (.imul, 1) := by decide +kernel
theorem dX12_type_56 : decode cX12_type 56 = .ok (.lshr, 1) := by decide +kernel
theorem dX12_type_57 : decode cX12_type 57 = .ok (.ldc2_w 90, 3) := by decide +kernel
theorem dX12_type_60 : decode cX12_type 60 = .ok (.land, 1) := by decide +kernel
theorem dX12_type_61 : decode cX12_type 61 = .ok (.l2i, 1) := by decide +kernel
theorem dX12_type_62 : decode cX12_type 62 = .ok (.i2b, 1) := by decide +kernel
theorem dX12_type_63 : decode cX12_type 63 = .ok (.bastore, 1) := by decide +kernel
theorem dX12_type_64 : decode cX12_type 64 = .ok (.aload_n 0, 1) := by decide +kernel
theorem dX12_type_65 : decode cX12_type 65 = .ok (.dup, 1) := by decide +kernel
theorem dX12_type_66 : decode cX12_type 66 = .ok (.getfield 36, 3) := by decide +kernel
theorem dX12_type_69 : decode cX12_type 69 = .ok (.iconst 1, 1) := by decide +kernel
theorem dX12_type_70 : decode cX12_type 70 = .ok (.iadd, 1) := by decide +kernel
theorem dX12_type_71 : decode cX12_type 71 = .ok (.putfield 36, 3) := by decide +kernel
theorem dX12_type_74 : decode cX12_type 74 = .ok (.iinc 4 (-1), 3) := by decide +kernel
theorem dX12_type_77 : decode cX12_type 77 = .ok (.goto (-40), 3) := by decide +kernel
theorem dX12_type_80 : decode cX12_type 80 = .ok (.aload_n 0, 1) := by decide +kernel
theorem dX12_type_81 : decode cX12_type 81 = .ok (.getfield 36, 3) := by decide +kernel
theorem dX12_type_84 : decode cX12_type 84 = .ok (.ireturn, 1) := by decide +kernel
theorem dX12_clear_0 : decode cX12_clear 0 = .ok (.aload_n 0, 1) := by decide +kernel
theorem dX12_clear_1 : decode cX12_clear 1 = .ok (.getfield 36, 3) := by decide +kernel
theorem dX12_clear_4 : decode cX12_clear 4 = .ok (.istore_n 1, 1) := by decide +kernel
theorem dX12_clear_5 : decode cX12_clear 5 = .ok (.aload_n 0, 1) := by decide +kernel
theorem dX12_clear_6 : decode cX12_clear 6 = .ok (.iconst 0, 1) := by decide +kernel
theorem dX12_clear_7 : decode cX12_clear 7 = .ok (.putfield 36, 3) := by decide +kernel
theorem dX12_clear_10 : decode cX12_clear 10 = .ok (.iload_n 1, 1) := by decide +kernel
theorem dX12_clear_11 : decode cX12_clear 11 = .ok (.ireturn, 1) := by decide +kernel
theorem dX12_here_0 : decode cX12_here 0 = .ok (.aload_n 0, 1) := by decide +kernel
theorem dX12_here_1 : decode cX12_here 1 = .ok (.getfield 92, 3) := by decide +kernel
theorem dX12_here_4 : decode cX12_here 4 = .ok (.aload_n 0, 1) := by decide +kernel
theorem dX12_here_5 : decode cX12_here 5 = .ok (.getfield 36, 3) := by decide +kernel
theorem dX12_here_8 : decode cX12_here 8 = .ok (.if_icmp .ge 19, 3) := by decide +kernel
theorem dX12_here_11 : decode cX12_here 11 = .ok (.aload_n 0, 1) := by decide +kernel
theorem dX12_here_12 : decode cX12_here 12 = .ok (.getfield 20, 3) := by decide +kernel
theorem dX12_here_15 : decode cX12_here 15 = .ok (.aload_n 0, 1) := by decide +kernel
theorem dX12_here_16 : decode cX12_here 16 = .ok (.getfield 92, 3) := by decide +kernel
theorem dX12_here_19 : decode cX12_here 19 = .ok (.baload, 1) := by decide +kernel
theorem dX12_here_20 : decode cX12_here 20 = .ok (.sipush 255, 3) := by decide +kernel
theorem dX12_here_23 : decode cX12_here 23 = .ok (.iand, 1) := by decide +kernel
theorem dX12_here_24 : decode cX12_here 24 = .ok (.goto 4, 3) := by decide +kernel
theorem dX12_here_27 : decode cX12_here 27 = .ok (.iconst (-1), 1) := by decide +kernel
theorem dX12_here_28 : decode cX12_here 28 = .ok (.ireturn, 1) := by decide +kernel
theorem dX12_next_0 : decode cX12_next 0 = .ok (.aload_n 0, 1) := by decide +kernel
theorem dX12_next_1 : decode cX12_next 1 = .ok (.invokevirtual 95, 3) := by decide +kernel
theorem dX12_next_4 : decode cX12_next 4 = .ok (.bipush 32, 2) := by decide +kernel
theorem dX12_next_6 : decode cX12_next 6 = .ok (.if_icmp .ne 16, 3) := by decide +kernel
theorem dX12_next_9 : decode cX12_next 9 = .ok (.aload_n 0, 1) := by decide +kernel
theorem dX12_next_10 : decode cX12_next 10 = .ok (.dup, 1) := by decide +kernel
theorem dX12_next_11 : decode cX12_next 11 = .ok (.getfield 92, 3) := by decide +kernel
theorem dX12_next_14 : decode cX12_next 14 = .ok (.iconst 1, 1) := by decide +kernel
theorem dX12_next_15 : decode cX12_next 15 = .ok (.iadd, 1) := by decide +kernel
theorem dX12_next_16 : decode cX12_next 16 = .ok (.putfield 92, 3) := by decide +kernel
theorem dX12_next_19 : decode cX12_next 19 = .ok (.goto (-19), 3) := by decide +kernel
theorem dX12_next_22 : decode cX12_next 22 = .ok (.aload_n 0, 1) := by decide +kernel
theorem dX12_next_23 : decode cX12_next 23 = .ok (.aload_n 0, 1) := by decide +kernel
theorem dX12_next_24 : decode cX12_next 24 = .ok (.getfield 92, 3) := by decide +kernel
theorem dX12_next_27 : decode cX12_next 27 = .ok (.putfield 98, 3) := by decide +kernel
theorem dX12_next_30 : decode cX12_next 30 = .ok (.aload_n 0, 1) := by decide +kernel
theorem dX12_next_31 : decode cX12_next 31 = .ok (.iconst 0, 1) := by decide +kernel
theorem dX12_next_32 : decode cX12_next 32 = .ok (.putfield 101, 3) := by decide +kernel
theorem dX12_next_35 : decode cX12_next 35 = .ok (.aload_n 0, 1) := by decide +kernel
theorem dX12_next_36 : decode cX12_next 36 = .ok (.invokevirtual 95, 3) := by decide +kernel
theorem dX12_next_39 : decode cX12_next 39 = .ok (.istore_n 1, 1) := by decide +kernel
theorem dX12_next_40 : decode cX12_next 40 = .ok (.iload_n 1, 1) := by decide +kernel
theorem dX12_next_41 : decode cX12_next 41 = .ok (.ifCond .ge 11, 3) := by decide +kernel
theorem dX12_next_44 : decode cX12_next 44 = .ok (.aload_n 0, 1) := by decide +kernel
theorem dX12_next_45 : decode cX12_next 45 = .ok (.iconst 5, 1) := by decide +kernel
theorem dX12_next_46 : decode cX12_next 46 = .ok (.putfield 104, 3) := by decide +kernel
theorem dX12_next_49 : decode cX12_next 49 = .ok (.goto 291, 3) := by decide +kernel
theorem dX12_next_52 : decode cX12_next 52 = .ok (.iload_n 1, 1) := by decide +kernel
theorem dX12_next_53 : decode cX12_next 53 = .ok (.bipush 97, 2) := by decide +kernel
theorem dX12_next_55 : decode cX12_next 55 = .ok (.bipush 122, 2) := by decide +kernel
theorem dX12_next_57 : decode cX12_next 57 = .ok (.invokestatic 47, 3) := by decide +kernel
theorem dX12_next_60 : decode cX12_next 60 = .ok (.ifCond .eq 154, 3) := by decide +kernel
theorem dX12_next_63 : decode cX12_next 63 = .ok (.iconst 0, 1) := by decide +kernel
theorem dX12_next_64 : decode cX12_next 64 = .ok (.istore_n 2, 1) := by decide +kernel
theorem dX12_next_65 : decode cX12_next 65 = .ok (.iconst 0, 1) := by decide +kernel
theorem dX12_next_66 : decode cX12_next 66 = .ok (.istore_n 3, 1) := by decide +kernel
theorem dX12_next_67 : decode cX12_next 67 = .ok (.aload_n 0, 1) := by decide +kernel
theorem dX12_next_68 : decode cX12_next 68 = .ok (.invokevirtual 95, 3) := by decide +kernel
theorem dX12_next_71 : decode cX12_next 71 = .ok (.bipush 97, 2) := by decide +kernel
theorem dX12_next_73 : decode cX12_next 73 = .ok (.bipush 122, 2) := by decide +kernel
theorem dX12_next_75 : decode cX12_next 75 = .ok (.invokestatic 47, 3) := by decide +kernel
theorem dX12_next_78 : decode cX12_next 78 = .ok (.ifCond .eq 82, 3) := by decide +kernel
theorem dX12_next_81 : decode cX12_next 81 = .ok (.aload_n 0, 1) := by decide +kernel
theorem dX12_next_82 : decode cX12_next 82 = .ok (.getfield 92, 3) := by decide +kernel
theorem dX12_next_85 : decode cX12_next 85 = .ok (.aload_n 0, 1) := by decide +kernel
theorem dX12_next_86 : decode cX12_next 86 = .ok (.getfield 98, 3) := by decide +kernel
theorem dX12_next_89 : decode cX12_next 89 = .ok (.isub, 1) := by decide +kernel
theorem dX12_next_90 : decode cX12_next 90 = .ok (.istore 4, 2) := by decide +kernel
theorem dX12_next_92 : decode cX12_next 92 = .ok (.iload 4, 2) := by decide +kernel
theorem dX12_next_94 : decode cX12_next 94 = .ok (.bipush 6, 2) := by decide +kernel
theorem dX12_next_96 : decode cX12_next 96 = .ok (.if_icmp .ge 18, 3) := by decide +kernel
theorem dX12_next_99 : decode cX12_next 99 = .ok (.bipush 27, 2) := by decide +kernel
theorem dX12_next_101 : decode cX12_next 101 = .ok (.iload_n 2, 1) := by decide +kernel
theorem dX12_next_102 : decode cX12_next 102 = .ok (.imul, 1) := by decide +kernel
theorem dX12_next_103 : decode cX12_next 103 = .ok (.aload_n 0, 1) := by decide +kernel
theorem dX12_next_104 : decode cX12_next 104 = .ok (.invokevirtual 95, 3) := by decide +kernel
theorem dX12_next_107 : decode cX12_next 107 = .ok (.iadd, 1) := by decide +kernel
theorem dX12_next_108 : decode cX12_next 108 = .ok (.bipush 96, 2) := by decide +kernel
theorem dX12_next_110 : decode cX12_next 110 = .ok (.isub, 1) := by decide +kernel
theorem dX12_next_111 : decode cX12_next 111 = .ok (.goto 4, 3) := by decide +kernel
theorem dX12_next_114 : decode cX12_next 114 = .ok (.iload_n 2, 1) := by decide +kernel
theorem dX12_next_115 : decode cX12_next 115 = .ok (.istore_n 2, 1) := by decide +kernel
theorem dX12_next_116 : decode cX12_next 116 = .ok (.iload 4, 2) := by decide +kernel
theorem dX12_next_118 : decode cX12_next 118 = .ok (.bipush 6, 2) := by decide +kernel
theorem dX12_next_120 : decode cX12_next 120 = .ok (.if_icmp .ne 13, 3) := by decide +kernel
theorem dX12_next_123 : decode cX12_next 123 = .ok (.aload_n 0, 1) := by decide +kernel
theorem dX12_next_124 : decode cX12_next 124 = .ok (.invokevirtual 95, 3) := by decide +kernel
theorem dX12_next_127 : decode cX12_next 127 = .ok (.bipush 96, 2) := by decide +kernel
theorem dX12_next_129 : decode cX12_next 129 = .ok (.isub, 1) := by decide +kernel
theorem dX12_next_130 : decode cX12_next 130 = .ok (.goto 16, 3) := by decide +kernel
theorem dX12_next_133 : decode cX12_next 133 = .ok (.iload 4, 2) := by decide +kernel
theorem dX12_next_135 : decode cX12_next 135 = .ok (.bipush 6, 2) := by decide +kernel
theorem dX12_next_137 : decode cX12_next 137 = .ok (.if_icmp .le 8, 3) := by decide +kernel
theorem dX12_next_140 : decode cX12_next 140 = .ok (.bipush 99, 2) := by decide +kernel
theorem dX12_next_142 : decode cX12_next 142 = .ok (.goto 4, 3) := by decide +kernel
theorem dX12_next_145 : decode cX12_next 145 = .ok (.iload_n 3, 1) := by decide +kernel
theorem dX12_next_146 : decode cX12_next 146 = .ok (.istore_n 3, 1) := by decide +kernel
theorem dX12_next_147 : decode cX12_next 147 = .ok (.aload_n 0, 1) := by decide +kernel
theorem dX12_next_148 : decode cX12_next 148 = .ok (.dup, 1) := by decide +kernel
theorem dX12_next_149 : decode cX12_next 149 = .ok (.getfield 92, 3) := by decide +kernel
theorem dX12_next_152 : decode cX12_next 152 = .ok (.iconst 1, 1) := by decide +kernel
theorem dX12_next_153 : decode cX12_next 153 = .ok (.iadd, 1) := by decide +kernel
theorem dX12_next_154 : decode cX12_next 154 = .ok (.putfield 92, 3) := by decide +kernel
theorem dX12_next_157 : decode cX12_next 157 = .ok (.goto (-90), 3) := by decide +kernel
theorem dX12_next_160 : decode cX12_next 160 = .ok (.aload_n 0, 1) := by decide +kernel
theorem dX12_next_161 : decode cX12_next 161 = .ok (.iload_n 2, 1) := by decide +kernel
theorem dX12_next_162 : decode cX12_next 162 = .ok (.ldc 107, 2) := by decide +kernel
theorem dX12_next_164 : decode cX12_next 164 = .ok (.if_icmp .ne 13, 3) := by decide +kernel
theorem dX12_next_167 : decode cX12_next 167 = .ok (.iload_n 3, 1) := by decide +kernel
theorem dX12_next_168 : decode cX12_next 168 = .ok (.bipush 20, 2) := by decide +kernel
theorem dX12_next_170 : decode cX12_next 170 = .ok (.if_icmp .ne 7, 3) := by decide +kernel
theorem dX12_next_173 : decode cX12_next 173 = .ok (.iconst 2, 1) := by decide +kernel
theorem dX12_next_174 : decode cX12_next 174 = .ok (.goto 34, 3) := by decide +kernel
theorem dX12_next_177 : decode cX12_next 177 = .ok (.iload_n 3, 1) := by decide +kernel
theorem dX12_next_178 : decode cX12_next 178 = .ok (.ifCond .le 8, 3) := by decide +kernel
theorem dX12_next_181 : decode cX12_next 181 = .ok (.bipush 6, 2) := by decide +kernel
theorem dX12_next_183 : decode cX12_next 183 = .ok (.goto 25, 3) := by decide +kernel
theorem dX12_next_186 : decode cX12_next 186 = .ok (.iload_n 2, 1) := by decide +kernel
theorem dX12_next_187 : decode cX12_next 187 = .ok (.ldc 108, 2) := by decide +kernel
theorem dX12_next_189 : decode cX12_next 189 = .ok (.if_icmp .ne 7, 3) := by decide +kernel
theorem dX12_next_192 : decode cX12_next 192 = .ok (.iconst 0, 1) := by decide +kernel
theorem dX12_next_193 : decode cX12_next 193 = .ok (.goto 15, 3) := by decide +kernel
theorem dX12_next_196 : decode cX12_next 196 = .ok (.iload_n 2, 1) := by decide +kernel
theorem dX12_next_197 : decode cX12_next 197 = .ok (.ldc 109, 2) := by decide +kernel
theorem dX12_next_199 : decode cX12_next 199 = .ok (.if_icmp .ne 7, 3) := by decide +kernel
theorem dX12_next_202 : decode cX12_next 202 = .ok (.iconst 1, 1) := by decide +kernel
theorem dX12_next_203 : decode cX12_next 203 = .ok (.goto 5, 3) := by decide +kernel
theorem dX12_next_206 : decode cX12_next 206 = .ok (.bipush 6, 2) := by decide +kernel
theorem dX12_next_208 : decode cX12_next 208 = .ok (.putfield 104, 3) := by decide +kernel
theorem dX12_next_211 : decode cX12_next 211 = .ok (.goto 129, 3) := by decide +kernel
theorem dX12_next_214 : decode cX12_next 214 = .ok (.iload_n 1, 1) := by decide +kernel
theorem dX12_next_215 : decode cX12_next 215 = .ok (.bipush 48, 2) := by decide +kernel
theorem dX12_next_217 : decode cX12_next 217 = .ok (.bipush 57, 2) := by decide +kernel
theorem dX12_next_219 : decode cX12_next 219 = .ok (.invokestatic 47, 3) := by decide +kernel
theorem dX12_next_222 : decode cX12_next 222 = .ok (.ifCond .eq 92, 3) := by decide +kernel
theorem dX12_next_225 : decode cX12_next 225 = .ok (.aload_n 0, 1) := by decide +kernel
theorem dX12_next_226 : decode cX12_next 226 = .ok (.invokevirtual 95, 3) := by decide +kernel
theorem dX12_next_229 : decode cX12_next 229 = .ok (.bipush 48, 2) := by decide +kernel
theorem dX12_next_231 : decode cX12_next 231 = .ok (.bipush 57, 2) := by decide +kernel
theorem dX12_next_233 : decode cX12_next 233 = .ok (.invokestatic 47, 3) := by decide +kernel
theorem dX12_next_236 : decode cX12_next 236 = .ok (.ifCond .eq 52, 3) := by decide +kernel
theorem dX12_next_239 : decode cX12_next 239 = .ok (.aload_n 0, 1) := by decide +kernel
theorem dX12_next_240 : decode cX12_next 240 = .ok (.aload_n 0, 1) := by decide +kernel
theorem dX12_next_241 : decode cX12_next 241 = .ok (.getfield 92, 3) := by decide +kernel
theorem dX12_next_244 : decode cX12_next 244 = .ok (.aload_n 0, 1) := by decide +kernel
theorem dX12_next_245 : decode cX12_next 245 = .ok (.getfield 98, 3) := by decide +kernel
theorem dX12_next_248 : decode cX12_next 248 = .ok (.isub, 1) := by decide +kernel
theorem dX12_next_249 : decode cX12_next 249 = .ok (.iconst 2, 1) := by decide +kernel
theorem dX12_next_250 : decode cX12_next 250 = .ok (.if_icmp .ge 21, 3) := by decide +kernel
theorem dX12_next_253 : decode cX12_next 253 = .ok (.bipush 10, 2) := by decide +kernel
theorem dX12_next_255 : decode cX12_next 255 = .ok (.aload_n 0, 1) := by decide +kernel
theorem dX12_next_256 : decode cX12_next 256 = .ok (.getfield 101, 3) := by decide +kernel
theorem dX12_next_259 : decode cX12_next 259 = .ok (.imul, 1) := by decide +kernel
theorem dX12_next_260 : decode cX12_next 260 = .ok (.aload_n 0, 1) := by decide +kernel
theorem dX12_next_261 : decode cX12_next 261 = .ok (.invokevirtual 95, 3) := by decide +kernel
theorem dX12_next_264 : decode cX12_next 264 = .ok (.iadd, 1) := by decide +kernel
theorem dX12_next_265 : decode cX12_next 265 = .ok (.bipush 48, 2) := by decide +kernel
theorem dX12_next_267 : decode cX12_next 267 = .ok (.isub, 1) := by decide +kernel
theorem dX12_next_268 : decode cX12_next 268 = .ok (.goto 4, 3) := by decide +kernel
theorem dX12_next_271 : decode cX12_next 271 = .ok (.iconst 0, 1) := by decide +kernel
theorem dX12_next_272 : decode cX12_next 272 = .ok (.putfield 101, 3) := by decide +kernel
theorem dX12_next_275 : decode cX12_next 275 = .ok (.aload_n 0, 1) := by decide +kernel
theorem dX12_next_276 : decode cX12_next 276 = .ok (.dup, 1) := by decide +kernel
theorem dX12_next_277 : decode cX12_next 277 = .ok (.getfield 92, 3) := by decide +kernel
theorem dX12_next_280 : decode cX12_next 280 = .ok (.iconst 1, 1) := by decide +kernel
theorem dX12_next_281 : decode cX12_next 281 = .ok (.iadd, 1) := by decide +kernel
theorem dX12_next_282 : decode cX12_next 282 = .ok (.putfield 92, 3) := by decide +kernel
theorem dX12_next_285 : decode cX12_next 285 = .ok (.goto (-60), 3) := by decide +kernel
theorem dX12_next_288 : decode cX12_next 288 = .ok (.aload_n 0, 1) := by decide +kernel
theorem dX12_next_289 : decode cX12_next 289 = .ok (.aload_n 0, 1) := by decide +kernel
theorem dX12_next_290 : decode cX12_next 290 = .ok (.getfield 92, 3) := by decide +kernel
theorem dX12_next_293 : decode cX12_next 293 = .ok (.aload_n 0, 1) := by decide +kernel
theorem dX12_next_294 : decode cX12_next 294 = .ok (.getfield 98, 3) := by decide +kernel
theorem dX12_next_297 : decode cX12_next 297 = .ok (.isub, 1) := by decide +kernel
theorem dX12_next_298 : decode cX12_next 298 = .ok (.iconst 2, 1) := by decide +kernel
theorem dX12_next_299 : decode cX12_next 299 = .ok (.if_icmp .le 8, 3) := by decide +kernel
theorem dX12_next_302 : decode cX12_next 302 = .ok (.bipush 6, 2) := by decide +kernel
theorem dX12_next_304 : decode cX12_next 304 = .ok (.goto 4, 3) := by decide +kernel
theorem dX12_next_307 : decode cX12_next 307 = .ok (.iconst 3, 1) := by decide +kernel
theorem dX12_next_308 : decode cX12_next 308 = .ok (.putfield 104, 3) := by decide +kernel
theorem dX12_next_311 : decode cX12_next 311 = .ok (.goto 29, 3) := by decide +kernel
theorem dX12_next_314 : decode cX12_next 314 = .ok (.aload_n 0, 1) := by decide +kernel
theorem dX12_next_315 : decode cX12_next 315 = .ok (.dup, 1) := by decide +kernel
theorem dX12_next_316 : decode cX12_next 316 = .ok (.getfield 92, 3) := by decide +kernel
theorem dX12_next_319 : decode cX12_next 319 = .ok (.iconst 1, 1) := by decide +kernel
theorem dX12_next_320 : decode cX12_next 320 = .ok (.iadd, 1) := by decide +kernel
theorem dX12_next_321 : decode cX12_next 321 = .ok (.putfield 92, 3) := by decide +kernel
theorem dX12_next_324 : decode cX12_next 324 = .ok (.aload_n 0, 1) := by decide +kernel
theorem dX12_next_325 : decode cX12_next 325 = .ok (.iload_n 1, 1) := by decide +kernel
theorem dX12_next_326 : decode cX12_next 326 = .ok (.bipush 59, 2) := by decide +kernel
theorem dX12_next_328 : decode cX12_next 328 = .ok (.if_icmp .ne 7, 3) := by decide +kernel
theorem dX12_next_331 : decode cX12_next 331 = .ok (.iconst 4, 1) := by decide +kernel
theorem dX12_next_332 : decode cX12_next 332 = .ok (.goto 5, 3) := by decide +kernel
theorem dX12_next_335 : decode cX12_next 335 = .ok (.bipush 6, 2) := by decide +kernel
theorem dX12_next_337 : decode cX12_next 337 = .ok (.putfield 104, 3) := by decide +kernel
theorem dX12_next_340 : decode cX12_next 340 = .ok (.return_, 1) := by decide +kernel
theorem dX12_due_0 : decode cX12_due 0 = .ok (.aload_n 0, 1) := by decide +kernel
theorem dX12_due_1 : decode cX12_due 1 = .ok (.getfield 101, 3) := by decide +kernel
theorem dX12_due_4 : decode cX12_due 4 = .ok (.istore_n 2, 1) := by decide +kernel
theorem dX12_due_5 : decode cX12_due 5 = .ok (.aload_n 0, 1) := by decide +kernel
theorem dX12_due_6 : decode cX12_due 6 = .ok (.getfield 110, 3) := by decide +kernel
theorem dX12_due_9 : decode cX12_due 9 = .ok (.iconst (-1), 1) := by decide +kernel
theorem dX12_due_10 : decode cX12_due 10 = .ok (.if_icmp .ne 22, 3) := by decide +kernel
theorem dX12_due_13 : decode cX12_due 13 = .ok (.iload_n 1, 1) := by decide +kernel
theorem dX12_due_14 : decode cX12_due 14 = .ok (.ifCond .eq 10, 3) := by decide +kernel
theorem dX12_due_17 : decode cX12_due 17 = .ok (.aload_n 0, 1) := by decide +kernel
theorem dX12_due_18 : decode cX12_due 18 = .ok (.invokevirtual 113, 3) := by decide +kernel
theorem dX12_due_21 : decode cX12_due 21 = .ok (.goto 11, 3) := by decide +kernel
theorem dX12_due_24 : decode cX12_due 24 = .ok (.aload_n 0, 1) := by decide +kernel
theorem dX12_due_25 : decode cX12_due 25 = .ok (.aload_n 0, 1) := by decide +kernel
theorem dX12_due_26 : decode cX12_due 26 = .ok (.getfield 98, 3) := by decide +kernel
theorem dX12_due_29 : decode cX12_due 29 = .ok (.putfield 110, 3) := by decide +kernel
theorem dX12_due_32 : decode cX12_due 32 = .ok (.iload_n 2, 1) := by decide +kernel
theorem dX12_due_33 : decode cX12_due 33 = .ok (.ireturn, 1) := by decide +kernel
theorem dX12_isNumber_0 : decode cX12_isNumber 0 = .ok (.aload_n 0, 1) := by decide +kernel
theorem dX12_isNumber_1 : decode cX12_isNumber 1 = .ok (.getfield 104, 3) := by decide +kernel
theorem dX12_isNumber_4 : decode cX12_isNumber 4 = .ok (.iconst 3, 1) := by decide +kernel
theorem dX12_isNumber_5 : decode cX12_isNumber 5 = .ok (.if_icmp .ne 19, 3) := by decide +kernel
theorem dX12_isNumber_8 : decode cX12_isNumber 8 = .ok (.aload_n 0, 1) := by decide +kernel
theorem dX12_isNumber_9 : decode cX12_isNumber 9 = .ok (.getfield 101, 3) := by decide +kernel
theorem dX12_isNumber_12 : decode cX12_isNumber 12 = .ok (.iload_n 1, 1) := by decide +kernel
theorem dX12_isNumber_13 : decode cX12_isNumber 13 = .ok (.iload_n 2, 1) := by decide +kernel
theorem dX12_isNumber_14 : decode cX12_isNumber 14 = .ok (.invokestatic 47, 3) := by decide +kernel
theorem dX12_isNumber_17 : decode cX12_isNumber 17 = .ok (.ifCond .eq 7, 3) := by decide +kernel
theorem dX12_isNumber_20 : decode cX12_isNumber 20 = .ok (.iconst 1, 1) := by decide +kernel
theorem dX12_isNumber_21 : decode cX12_isNumber 21 = .ok (.goto 4, 3) := by decide +kernel
theorem dX12_isNumber_24 : decode cX12_isNumber 24 = .ok (.iconst 0, 1) := by decide +kernel
theorem dX12_isNumber_25 : decode cX12_isNumber 25 = .ok (.ireturn, 1) := by decide +kernel
theorem dX12_readEntry_0 : decode cX12_readEntry 0 = .ok (.aload_n 0, 1) := by decide +kernel
theorem dX12_readEntry_1 : decode cX12_readEntry 1 = .ok (.aload_n 0, 1) := by decide +kernel
theorem dX12_readEntry_2 : decode cX12_readEntry 2 = .ok (.iconst 0, 1) := by decide +kernel
theorem dX12_readEntry_3 : decode cX12_readEntry 3 = .ok (.aload_n 0, 1) := by decide +kernel
theorem dX12_readEntry_4 : decode cX12_readEntry 4 = .ok (.iconst 0, 1) := by decide +kernel
theorem dX12_readEntry_5 : decode cX12_readEntry 5 = .ok (.invokevirtual 43, 3) := by decide +kernel
theorem dX12_readEntry_8 : decode cX12_readEntry 8 = .ok (.iconst 1, 1) := by decide +kernel
theorem dX12_readEntry_9 : decode cX12_readEntry 9 = .ok (.isub, 1) := by decide +kernel
theorem dX12_readEntry_10 : decode cX12_readEntry 10 = .ok (.invokevirtual 116, 3) := by decide +kernel
theorem dX12_readEntry_13 : decode cX12_readEntry 13 = .ok (.ifCond .eq 20, 3) := by decide +kernel
theorem dX12_readEntry_16 : decode cX12_readEntry 16 = .ok (.aload_n 0, 1) := by decide +kernel
theorem dX12_readEntry_17 : decode cX12_readEntry 17 = .ok (.aload_n 0, 1) := by decide +kernel
theorem dX12_readEntry_18 : decode cX12_readEntry 18 = .ok (.getfield 101, 3) := by decide +kernel
theorem dX12_readEntry_21 : decode cX12_readEntry 21 = .ok (.invokevirtual 51, 3) := by decide +kernel
theorem dX12_readEntry_24 : decode cX12_readEntry 24 = .ok (.bipush 8, 2) := by decide +kernel
theorem dX12_readEntry_26 : decode cX12_readEntry 26 = .ok (.if_icmp .ge 7, 3) := by decide +kernel
theorem dX12_readEntry_29 : decode cX12_readEntry 29 = .ok (.iconst 1, 1) := by decide +kernel
theorem dX12_readEntry_30 : decode cX12_readEntry 30 = .ok (.goto 4, 3) := by decide +kernel
theorem dX12_readEntry_33 : decode cX12_readEntry 33 = .ok (.iconst 0, 1) := by decide +kernel
theorem dX12_readEntry_34 : decode cX12_readEntry 34 = .ok (.invokevirtual 119, 3) := by decide +kernel
theorem dX12_readEntry_37 : decode cX12_readEntry 37 = .ok (.istore_n 1, 1) := by decide +kernel
theorem dX12_readEntry_38 : decode cX12_readEntry 38 = .ok (.aload_n 0, 1) := by decide +kernel
theorem dX12_readEntry_39 : decode cX12_readEntry 39 = .ok (.aload_n 0, 1) := by decide +kernel
theorem dX12_readEntry_40 : decode cX12_readEntry 40 = .ok (.iconst 0, 1) := by decide +kernel
theorem dX12_readEntry_41 : decode cX12_readEntry 41 = .ok (.bipush 9, 2) := by decide +kernel
theorem dX12_readEntry_43 : decode cX12_readEntry 43 = .ok (.invokevirtual 116, 3) := by decide +kernel
theorem dX12_readEntry_46 : decode cX12_readEntry 46 = .ok (.invokevirtual 119, 3) := by decide +kernel
theorem dX12_readEntry_49 : decode cX12_readEntry 49 = .ok (.istore_n 2, 1) := by decide +kernel
theorem dX12_readEntry_50 : decode cX12_readEntry 50 = .ok (.bipush 12, 2) := by decide +kernel
theorem dX12_readEntry_52 : decode cX12_readEntry 52 = .ok (.aload_n 0, 1) := by decide +kernel
theorem dX12_readEntry_53 : decode cX12_readEntry 53 = .ok (.aload_n 0, 1) := by decide +kernel
theorem dX12_readEntry_54 : decode cX12_readEntry 54 = .ok (.iconst 0, 1) := by decide +kernel
theorem dX12_readEntry_55 : decode cX12_readEntry 55 = .ok (.bipush 11, 2) := by decide +kernel
theorem dX12_readEntry_57 : decode cX12_readEntry 57 = .ok (.invokevirtual 116, 3) := by decide +kernel
theorem dX12_readEntry_60 : decode cX12_readEntry 60 = .ok (.invokevirtual 119, 3) := by decide +kernel
theorem dX12_readEntry_63 : decode cX12_readEntry 63 = .ok (.iadd, 1) := by decide +kernel
theorem dX12_readEntry_64 : decode cX12_readEntry 64 = .ok (.istore_n 3, 1) := by decide +kernel
theorem dX12_readEntry_65 : decode cX12_readEntry 65 = .ok (.iconst 1, 1) := by decide +kernel
theorem dX12_readEntry_66 : decode cX12_readEntry 66 = .ok (.istore 4, 2) := by decide +kernel
theorem dX12_readEntry_68 : decode cX12_readEntry 68 = .ok (.iload 4, 2) := by decide +kernel
theorem dX12_readEntry_70 : decode cX12_readEntry 70 = .ok (.iconst 3, 1) := by decide +kernel
theorem dX12_readEntry_71 : decode cX12_readEntry 71 = .ok (.if_icmp .ge 42, 3) := by decide +kernel
theorem dX12_readEntry_74 : decode cX12_readEntry 74 = .ok (.aload_n 0, 1) := by decide +kernel
theorem dX12_readEntry_75 : decode cX12_readEntry 75 = .ok (.getfield 110, 3) := by decide +kernel
theorem dX12_readEntry_78 : decode cX12_readEntry 78 = .ok (.iconst (-1), 1) := by decide +kernel
theorem dX12_readEntry_79 : decode cX12_readEntry 79 = .ok (.if_icmp .ne 34, 3) := by decide +kernel
theorem dX12_readEntry_82 : decode cX12_readEntry 82 = .ok (.aload_n 0, 1) := by decide +kernel
theorem dX12_readEntry_83 : decode cX12_readEntry 83 = .ok (.getfield 104, 3) := by decide +kernel
theorem dX12_readEntry_86 : decode cX12_readEntry 86 = .ok (.iconst 3, 1) := by decide +kernel
theorem dX12_readEntry_87 : decode cX12_readEntry 87 = .ok (.if_icmp .ne 26, 3) := by decide +kernel
theorem dX12_readEntry_90 : decode cX12_readEntry 90 = .ok (.bipush 12, 2) := by decide +kernel
theorem dX12_readEntry_92 : decode cX12_readEntry 92 = .ok (.iload_n 3, 1) := by decide +kernel
theorem dX12_readEntry_93 : decode cX12_readEntry 93 = .ok (.imul, 1) := by decide +kernel
theorem dX12_readEntry_94 : decode cX12_readEntry 94 = .ok (.aload_n 0, 1) := by decide +kernel
theorem dX12_readEntry_95 : decode cX12_readEntry 95 = .ok (.aload_n 0, 1) := by decide +kernel
theorem dX12_readEntry_96 : decode cX12_readEntry 96 = .ok (.iconst 0, 1) := by decide +kernel
theorem dX12_readEntry_97 : decode cX12_readEntry 97 = .ok (.bipush 11, 2) := by decide +kernel
theorem dX12_readEntry_99 : decode cX12_readEntry 99 = .ok (.invokevirtual 116, 3) := by decide +kernel
theorem dX12_readEntry_102 : decode cX12_readEntry 102 = .ok (.invokevirtual 119, 3) := by decide +kernel
theorem dX12_readEntry_105 : decode cX12_readEntry 105 = .ok (.iadd, 1) := by decide +kernel
theorem dX12_readEntry_106 : decode cX12_readEntry 106 = .ok (.istore_n 3, 1) := by decide +kernel
theorem dX12_readEntry_107 : decode cX12_readEntry 107 = .ok (.iinc 4 1, 3) := by decide +kernel
theorem dX12_readEntry_110 : decode cX12_readEntry 110 = .ok (.goto (-42), 3) := by decide +kernel
theorem dX12_readEntry_113 : decode cX12_readEntry 113 = .ok (.aload_n 0, 1) := by decide +kernel
theorem dX12_readEntry_114 : decode cX12_readEntry 114 = .ok (.getfield 110, 3) := by decide +kernel
theorem dX12_readEntry_117 : decode cX12_readEntry 117 = .ok (.iconst (-1), 1) := by decide +kernel
theorem dX12_readEntry_118 : decode cX12_readEntry 118 = .ok (.if_icmp .ne 30, 3) := by decide +kernel
theorem dX12_readEntry_121 : decode cX12_readEntry 121 = .ok (.aload_n 0, 1) := by decide +kernel
theorem dX12_readEntry_122 : decode cX12_readEntry 122 = .ok (.aload_n 0, 1) := by decide +kernel
theorem dX12_readEntry_123 : decode cX12_readEntry 123 = .ok (.getfield 104, 3) := by decide +kernel
theorem dX12_readEntry_126 : decode cX12_readEntry 126 = .ok (.iconst 4, 1) := by decide +kernel
theorem dX12_readEntry_127 : decode cX12_readEntry 127 = .ok (.if_icmp .ne 16, 3) := by decide +kernel
theorem dX12_readEntry_130 : decode cX12_readEntry 130 = .ok (.aload_n 0, 1) := by decide +kernel
theorem dX12_readEntry_131 : decode cX12_readEntry 131 = .ok (.iload_n 1, 1) := by decide +kernel
theorem dX12_readEntry_132 : decode cX12_readEntry 132 = .ok (.iload_n 3, 1) := by decide +kernel
theorem dX12_readEntry_133 : decode cX12_readEntry 133 = .ok (.invokevirtual 76, 3) := by decide +kernel
theorem dX12_readEntry_136 : decode cX12_readEntry 136 = .ok (.ifCond .ne 7, 3) := by decide +kernel
theorem dX12_readEntry_139 : decode cX12_readEntry 139 = .ok (.iconst 1, 1) := by decide +kernel
theorem dX12_readEntry_140 : decode cX12_readEntry 140 = .ok (.goto 4, 3) := by decide +kernel
theorem dX12_readEntry_143 : decode cX12_readEntry 143 = .ok (.iconst 0, 1) := by decide +kernel
theorem dX12_readEntry_144 : decode cX12_readEntry 144 = .ok (.invokevirtual 119, 3) := by decide +kernel
theorem dX12_readEntry_147 : decode cX12_readEntry 147 = .ok (.pop, 1) := by decide +kernel
theorem dX12_readEntry_148 : decode cX12_readEntry 148 = .ok (.aload_n 0, 1) := by decide +kernel
theorem dX12_readEntry_149 : decode cX12_readEntry 149 = .ok (.getfield 110, 3) := by decide +kernel
theorem dX12_readEntry_152 : decode cX12_readEntry 152 = .ok (.iconst (-1), 1) := by decide +kernel
theorem dX12_readEntry_153 : decode cX12_readEntry 153 = .ok (.if_icmp .ne 10, 3) := by decide +kernel
theorem dX12_readEntry_156 : decode cX12_readEntry 156 = .ok (.aload_n 0, 1) := by decide +kernel
theorem dX12_readEntry_157 : decode cX12_readEntry 157 = .ok (.iload_n 1, 1) := by decide +kernel
theorem dX12_readEntry_158 : decode cX12_readEntry 158 = .ok (.iload_n 2, 1) := by decide +kernel
theorem dX12_readEntry_159 : decode cX12_readEntry 159 = .ok (.iload_n 3, 1) := by decide +kernel
theorem dX12_readEntry_160 : decode cX12_readEntry 160 = .ok (.invokevirtual 83, 3) := by decide +kernel
theorem dX12_readEntry_163 : decode cX12_readEntry 163 = .ok (.return_, 1) := by decide +kernel
theorem dX12_readItem_0 : decode cX12_readItem 0 = .ok (.aload_n 0, 1) := by decide +kernel
theorem dX12_readItem_1 : decode cX12_readItem 1 = .ok (.getfield 104, 3) := by decide +kernel
theorem dX12_readItem_4 : decode cX12_readItem 4 = .ok (.istore_n 1, 1) := by decide +kernel
theorem dX12_readItem_5 : decode cX12_readItem 5 = .ok (.aload_n 0, 1) := by decide +kernel
theorem dX12_readItem_6 : decode cX12_readItem 6 = .ok (.iload_n 1, 1) := by decide +kernel
theorem dX12_readItem_7 : decode cX12_readItem 7 = .ok (.ifCond .ne 12, 3) := by decide +kernel
theorem dX12_readItem_10 : decode cX12_readItem 10 = .ok (.aload_n 0, 1) := by decide +kernel
theorem dX12_readItem_11 : decode cX12_readItem 11 = .ok (.iconst 0, 1) := by decide +kernel
theorem dX12_readItem_12 : decode cX12_readItem 12 = .ok (.invokevirtual 43, 3) := by decide +kernel
theorem dX12_readItem_15 : decode cX12_readItem 15 = .ok (.iconst 3, 1) := by decide +kernel
theorem dX12_readItem_16 : decode cX12_readItem 16 = .ok (.if_icmp .lt 13, 3) := by decide +kernel
theorem dX12_readItem_19 : decode cX12_readItem 19 = .ok (.iload_n 1, 1) := by decide +kernel
theorem dX12_readItem_20 : decode cX12_readItem 20 = .ok (.iconst 1, 1) := by decide +kernel
theorem dX12_readItem_21 : decode cX12_readItem 21 = .ok (.if_icmp .eq 8, 3) := by decide +kernel
theorem dX12_readItem_24 : decode cX12_readItem 24 = .ok (.iload_n 1, 1) := by decide +kernel
theorem dX12_readItem_25 : decode cX12_readItem 25 = .ok (.iconst 2, 1) := by decide +kernel
theorem dX12_readItem_26 : decode cX12_readItem 26 = .ok (.if_icmp .ne 7, 3) := by decide +kernel
theorem dX12_readItem_29 : decode cX12_readItem 29 = .ok (.iconst 1, 1) := by decide +kernel
theorem dX12_readItem_30 : decode cX12_readItem 30 = .ok (.goto 4, 3) := by decide +kernel
theorem dX12_readItem_33 : decode cX12_readItem 33 = .ok (.iconst 0, 1) := by decide +kernel
theorem dX12_readItem_34 : decode cX12_readItem 34 = .ok (.invokevirtual 119, 3) := by decide +kernel
theorem dX12_readItem_37 : decode cX12_readItem 37 = .ok (.pop, 1) := by decide +kernel
theorem dX12_readItem_38 : decode cX12_readItem 38 = .ok (.aload_n 0, 1) := by decide +kernel
theorem dX12_readItem_39 : decode cX12_readItem 39 = .ok (.getfield 110, 3) := by decide +kernel
theorem dX12_readItem_42 : decode cX12_readItem 42 = .ok (.iconst (-1), 1) := by decide +kernel
theorem dX12_readItem_43 : decode cX12_readItem 43 = .ok (.if_icmp .eq 4, 3) := by decide +kernel
theorem dX12_readItem_46 : decode cX12_readItem 46 = .ok (.return_, 1) := by decide +kernel
theorem dX12_readItem_47 : decode cX12_readItem 47 = .ok (.iload_n 1, 1) := by decide +kernel
theorem dX12_readItem_48 : decode cX12_readItem 48 = .ok (.iconst 1, 1) := by decide +kernel
theorem dX12_readItem_49 : decode cX12_readItem 49 = .ok (.if_icmp .ne 8, 3) := by decide +kernel
theorem dX12_readItem_52 : decode cX12_readItem 52 = .ok (.aload_n 0, 1) := by decide +kernel
theorem dX12_readItem_53 : decode cX12_readItem 53 = .ok (.invokevirtual 123, 3) := by decide +kernel
theorem dX12_readItem_56 : decode cX12_readItem 56 = .ok (.return_, 1) := by decide +kernel
theorem dX12_readItem_57 : decode cX12_readItem 57 = .ok (.iload_n 1, 1) := by decide +kernel
theorem dX12_readItem_58 : decode cX12_readItem 58 = .ok (.ifCond .ne 34, 3) := by decide +kernel
theorem dX12_readItem_61 : decode cX12_readItem 61 = .ok (.aload_n 0, 1) := by decide +kernel
theorem dX12_readItem_62 : decode cX12_readItem 62 = .ok (.bipush 36, 2) := by decide +kernel
theorem dX12_readItem_64 : decode cX12_readItem 64 = .ok (.bipush 17, 2) := by decide +kernel
theorem dX12_readItem_66 : decode cX12_readItem 66 = .ok (.aload_n 0, 1) := by decide +kernel
theorem dX12_readItem_67 : decode cX12_readItem 67 = .ok (.iconst 0, 1) := by decide +kernel
theorem dX12_readItem_68 : decode cX12_readItem 68 = .ok (.invokevirtual 43, 3) := by decide +kernel
theorem dX12_readItem_71 : decode cX12_readItem 71 = .ok (.imul, 1) := by decide +kernel
theorem dX12_readItem_72 : decode cX12_readItem 72 = .ok (.iadd, 1) := by decide +kernel
theorem dX12_readItem_73 : decode cX12_readItem 73 = .ok (.iconst 0, 1) := by decide +kernel
theorem dX12_readItem_74 : decode cX12_readItem 74 = .ok (.invokevirtual 58, 3) := by decide +kernel
theorem dX12_readItem_77 : decode cX12_readItem 77 = .ok (.aload_n 0, 1) := by decide +kernel
theorem dX12_readItem_78 : decode cX12_readItem 78 = .ok (.iconst 0, 1) := by decide +kernel
theorem dX12_readItem_79 : decode cX12_readItem 79 = .ok (.aload_n 0, 1) := by decide +kernel
theorem dX12_readItem_80 : decode cX12_readItem 80 = .ok (.iconst 0, 1) := by decide +kernel
theorem dX12_readItem_81 : decode cX12_readItem 81 = .ok (.invokevirtual 43, 3) := by decide +kernel
theorem dX12_readItem_84 : decode cX12_readItem 84 = .ok (.iconst 1, 1) := by decide +kernel
theorem dX12_readItem_85 : decode cX12_readItem 85 = .ok (.iadd, 1) := by decide +kernel
theorem dX12_readItem_86 : decode cX12_readItem 86 = .ok (.invokevirtual 58, 3) := by decide +kernel
theorem dX12_readItem_89 : decode cX12_readItem 89 = .ok (.goto 19, 3) := by decide +kernel
theorem dX12_readItem_92 : decode cX12_readItem 92 = .ok (.aload_n 0, 1) := by decide +kernel
theorem dX12_readItem_93 : decode cX12_readItem 93 = .ok (.iconst 1, 1) := by decide +kernel
theorem dX12_readItem_94 : decode cX12_readItem 94 = .ok (.aload_n 0, 1) := by decide +kernel
theorem dX12_readItem_95 : decode cX12_readItem 95 = .ok (.aload_n 0, 1) := by decide +kernel
theorem dX12_readItem_96 : decode cX12_readItem 96 = .ok (.iconst 0, 1) := by decide +kernel
theorem dX12_readItem_97 : decode cX12_readItem 97 = .ok (.bipush 63, 2) := by decide +kernel
theorem dX12_readItem_99 : decode cX12_readItem 99 = .ok (.invokevirtual 116, 3) := by decide +kernel
theorem dX12_readItem_102 : decode cX12_readItem 102 = .ok (.invokevirtual 119, 3) := by decide +kernel
theorem dX12_readItem_105 : decode cX12_readItem 105 = .ok (.invokevirtual 58, 3) := by decide +kernel
theorem dX12_readItem_108 : decode cX12_readItem 108 = .ok (.aload_n 0, 1) := by decide +kernel
theorem dX12_readItem_109 : decode cX12_readItem 109 = .ok (.aload_n 0, 1) := by decide +kernel
theorem dX12_readItem_110 : decode cX12_readItem 110 = .ok (.getfield 104, 3) := by decide +kernel
theorem dX12_readItem_113 : decode cX12_readItem 113 = .ok (.iconst 4, 1) := by decide +kernel
theorem dX12_readItem_114 : decode cX12_readItem 114 = .ok (.if_icmp .ne 7, 3) := by decide +kernel
theorem dX12_readItem_117 : decode cX12_readItem 117 = .ok (.iconst 1, 1) := by decide +kernel
theorem dX12_readItem_118 : decode cX12_readItem 118 = .ok (.goto 4, 3) := by decide +kernel
theorem dX12_readItem_121 : decode cX12_readItem 121 = .ok (.iconst 0, 1) := by decide +kernel
theorem dX12_readItem_122 : decode cX12_readItem 122 = .ok (.invokevirtual 119, 3) := by decide +kernel
theorem dX12_readItem_125 : decode cX12_readItem 125 = .ok (.pop, 1) := by decide +kernel
theorem dX12_readItem_126 : decode cX12_readItem 126 = .ok (.return_, 1) := by decide +kernel
theorem dX12_read_0 : decode cX12_read 0 = .ok (.aload_n 0, 1) := by decide +kernel
theorem dX12_read_1 : decode cX12_read 1 = .ok (.iconst 0, 1) := by decide +kernel
theorem dX12_read_2 : decode cX12_read 2 = .ok (.sipush 1359, 3) := by decide +kernel
theorem dX12_read_5 : decode cX12_read 5 = .ok (.invokevirtual 126, 3) := by decide +kernel
theorem dX12_read_8 : decode cX12_read 8 = .ok (.aload_n 0, 1) := by decide +kernel
theorem dX12_read_9 : decode cX12_read 9 = .ok (.sipush 1359, 3) := by decide +kernel
theorem dX12_read_12 : decode cX12_read 12 = .ok (.putfield 40, 3) := by decide +kernel
theorem dX12_read_15 : decode cX12_read 15 = .ok (.aload_n 0, 1) := by decide +kernel
theorem dX12_read_16 : decode cX12_read 16 = .ok (.iconst 0, 1) := by decide +kernel
theorem dX12_read_17 : decode cX12_read 17 = .ok (.iconst 0, 1) := by decide +kernel
theorem dX12_read_18 : decode cX12_read 18 = .ok (.invokevirtual 58, 3) := by decide +kernel
theorem dX12_read_21 : decode cX12_read 21 = .ok (.aload_n 0, 1) := by decide +kernel
theorem dX12_read_22 : decode cX12_read 22 = .ok (.iconst 1, 1) := by decide +kernel
theorem dX12_read_23 : decode cX12_read 23 = .ok (.iconst 0, 1) := by decide +kernel
theorem dX12_read_24 : decode cX12_read 24 = .ok (.invokevirtual 58, 3) := by decide +kernel
theorem dX12_read_27 : decode cX12_read 27 = .ok (.aload_n 0, 1) := by decide +kernel
theorem dX12_read_28 : decode cX12_read 28 = .ok (.iconst 5, 1) := by decide +kernel
theorem dX12_read_29 : decode cX12_read 29 = .ok (.iconst 0, 1) := by decide +kernel
theorem dX12_read_30 : decode cX12_read 30 = .ok (.invokevirtual 58, 3) := by decide +kernel
theorem dX12_read_33 : decode cX12_read 33 = .ok (.iconst 0, 1) := by decide +kernel
theorem dX12_read_34 : decode cX12_read 34 = .ok (.istore_n 1, 1) := by decide +kernel
theorem dX12_read_35 : decode cX12_read 35 = .ok (.iload_n 1, 1) := by decide +kernel
theorem dX12_read_36 : decode cX12_read 36 = .ok (.bipush 10, 2) := by decide +kernel
theorem dX12_read_38 : decode cX12_read 38 = .ok (.if_icmp .ge 18, 3) := by decide +kernel
theorem dX12_read_41 : decode cX12_read 41 = .ok (.aload_n 0, 1) := by decide +kernel
theorem dX12_read_42 : decode cX12_read 42 = .ok (.bipush 26, 2) := by decide +kernel
theorem dX12_read_44 : decode cX12_read 44 = .ok (.iload_n 1, 1) := by decide +kernel
theorem dX12_read_45 : decode cX12_read 45 = .ok (.iadd, 1) := by decide +kernel
theorem dX12_read_46 : decode cX12_read 46 = .ok (.iconst 0, 1) := by decide +kernel
theorem dX12_read_47 : decode cX12_read 47 = .ok (.invokevirtual 58, 3) := by decide +kernel
theorem dX12_read_50 : decode cX12_read 50 = .ok (.iinc 1 1, 3) := by decide +kernel
theorem dX12_read_53 : decode cX12_read 53 = .ok (.goto (-18), 3) := by decide +kernel
theorem dX12_read_56 : decode cX12_read 56 = .ok (.aload_n 0, 1) := by decide +kernel
theorem dX12_read_57 : decode cX12_read 57 = .ok (.iconst 0, 1) := by decide +kernel
theorem dX12_read_58 : decode cX12_read 58 = .ok (.putfield 92, 3) := by decide +kernel
theorem dX12_read_61 : decode cX12_read 61 = .ok (.aload_n 0, 1) := by decide +kernel
theorem dX12_read_62 : decode cX12_read 62 = .ok (.iconst (-1), 1) := by decide +kernel
theorem dX12_read_63 : decode cX12_read 63 = .ok (.putfield 110, 3) := by decide +kernel
theorem dX12_read_66 : decode cX12_read 66 = .ok (.iconst 0, 1) := by decide +kernel
theorem dX12_read_67 : decode cX12_read 67 = .ok (.istore_n 1, 1) := by decide +kernel
theorem dX12_read_68 : decode cX12_read 68 = .ok (.aload_n 0, 1) := by decide +kernel
theorem dX12_read_69 : decode cX12_read 69 = .ok (.invokevirtual 113, 3) := by decide +kernel
theorem dX12_read_72 : decode cX12_read 72 = .ok (.aload_n 0, 1) := by decide +kernel
theorem dX12_read_73 : decode cX12_read 73 = .ok (.getfield 110, 3) := by decide +kernel
theorem dX12_read_76 : decode cX12_read 76 = .ok (.iconst (-1), 1) := by decide +kernel
theorem dX12_read_77 : decode cX12_read 77 = .ok (.if_icmp .ne 21, 3) := by decide +kernel
theorem dX12_read_80 : decode cX12_read 80 = .ok (.aload_n 0, 1) := by decide +kernel
theorem dX12_read_81 : decode cX12_read 81 = .ok (.getfield 104, 3) := by decide +kernel
theorem dX12_read_84 : decode cX12_read 84 = .ok (.iconst 5, 1) := by decide +kernel
theorem dX12_read_85 : decode cX12_read 85 = .ok (.if_icmp .eq 13, 3) := by decide +kernel
theorem dX12_read_88 : decode cX12_read 88 = .ok (.aload_n 0, 1) := by decide +kernel
theorem dX12_read_89 : decode cX12_read 89 = .ok (.invokevirtual 129, 3) := by decide +kernel
theorem dX12_read_92 : decode cX12_read 92 = .ok (.iinc 1 1, 3) := by decide +kernel
theorem dX12_read_95 : decode cX12_read 95 = .ok (.goto (-23), 3) := by decide +kernel
theorem dX12_read_98 : decode cX12_read 98 = .ok (.aload_n 0, 1) := by decide +kernel
theorem dX12_read_99 : decode cX12_read 99 = .ok (.iconst 0, 1) := by decide +kernel
theorem dX12_read_100 : decode cX12_read 100 = .ok (.putfield 40, 3) := by decide +kernel
theorem dX12_read_103 : decode cX12_read 103 = .ok (.aload_n 0, 1) := by decide +kernel
theorem dX12_read_104 : decode cX12_read 104 = .ok (.getfield 110, 3) := by decide +kernel
theorem dX12_read_107 : decode cX12_read 107 = .ok (.iconst (-1), 1) := by decide +kernel
theorem dX12_read_108 : decode cX12_read 108 = .ok (.if_icmp .eq 11, 3) := by decide +kernel
theorem dX12_read_111 : decode cX12_read 111 = .ok (.bipush (-10), 2) := by decide +kernel
theorem dX12_read_113 : decode cX12_read 113 = .ok (.aload_n 0, 1) := by decide +kernel
theorem dX12_read_114 : decode cX12_read 114 = .ok (.getfield 110, 3) := by decide +kernel
theorem dX12_read_117 : decode cX12_read 117 = .ok (.isub, 1) := by decide +kernel
theorem dX12_read_118 : decode cX12_read 118 = .ok (.ireturn, 1) := by decide +kernel
theorem dX12_read_119 : decode cX12_read 119 = .ok (.aload_n 0, 1) := by decide +kernel
theorem dX12_read_120 : decode cX12_read 120 = .ok (.sipush 1359, 3) := by decide +kernel
theorem dX12_read_123 : decode cX12_read 123 = .ok (.iconst 0, 1) := by decide +kernel
theorem dX12_read_124 : decode cX12_read 124 = .ok (.invokevirtual 126, 3) := by decide +kernel
theorem dX12_read_127 : decode cX12_read 127 = .ok (.iload_n 1, 1) := by decide +kernel
theorem dX12_read_128 : decode cX12_read 128 = .ok (.ireturn, 1) := by decide +kernel
theorem dX12_make_0 : decode cX12_make 0 = .ok (.aload_n 0, 1) := by decide +kernel
theorem dX12_make_1 : decode cX12_make 1 = .ok (.iload_n 1, 1) := by decide +kernel
theorem dX12_make_2 : decode cX12_make 2 = .ok (.invokestatic 70, 3) := by decide +kernel
theorem dX12_make_5 : decode cX12_make 5 = .ok (.putfield 132, 3) := by decide +kernel
theorem dX12_make_8 : decode cX12_make 8 = .ok (.aload_n 0, 1) := by decide +kernel
theorem dX12_make_9 : decode cX12_make 9 = .ok (.aload_n 0, 1) := by decide +kernel
theorem dX12_make_10 : decode cX12_make 10 = .ok (.getfield 132, 3) := by decide +kernel
theorem dX12_make_13 : decode cX12_make 13 = .ok (.ifCond .ge 7, 3) := by decide +kernel
theorem dX12_make_16 : decode cX12_make 16 = .ok (.iconst 0, 1) := by decide +kernel
theorem dX12_make_17 : decode cX12_make 17 = .ok (.goto 7, 3) := by decide +kernel
theorem dX12_make_20 : decode cX12_make 20 = .ok (.aload_n 0, 1) := by decide +kernel
theorem dX12_make_21 : decode cX12_make 21 = .ok (.getfield 132, 3) := by decide +kernel
theorem dX12_make_24 : decode cX12_make 24 = .ok (.putfield 132, 3) := by decide +kernel
theorem dX12_make_27 : decode cX12_make 27 = .ok (.iconst 0, 1) := by decide +kernel
theorem dX12_make_28 : decode cX12_make 28 = .ok (.istore_n 2, 1) := by decide +kernel
theorem dX12_make_29 : decode cX12_make 29 = .ok (.iload_n 2, 1) := by decide +kernel
theorem dX12_make_30 : decode cX12_make 30 = .ok (.aload_n 0, 1) := by decide +kernel
theorem dX12_make_31 : decode cX12_make 31 = .ok (.getfield 132, 3) := by decide +kernel
theorem dX12_make_34 : decode cX12_make 34 = .ok (.if_icmp .ge 24, 3) := by decide +kernel
theorem dX12_make_37 : decode cX12_make 37 = .ok (.aload_n 0, 1) := by decide +kernel
theorem dX12_make_38 : decode cX12_make 38 = .ok (.getfield 24, 3) := by decide +kernel
theorem dX12_make_41 : decode cX12_make 41 = .ok (.iload_n 2, 1) := by decide +kernel
theorem dX12_make_42 : decode cX12_make 42 = .ok (.iload_n 1, 1) := by decide +kernel
theorem dX12_make_43 : decode cX12_make 43 = .ok (.aload_n 0, 1) := by decide +kernel
theorem dX12_make_44 : decode cX12_make 44 = .ok (.getfield 132, 3) := by decide +kernel
theorem dX12_make_47 : decode cX12_make 47 = .ok (.iload_n 2, 1) := by decide +kernel
theorem dX12_make_48 : decode cX12_make 48 = .ok (.invokestatic 135, 3) := by decide +kernel
theorem dX12_make_51 : decode cX12_make 51 = .ok (.iastore, 1) := by decide +kernel
theorem dX12_make_52 : decode cX12_make 52 = .ok (.iinc 2 1, 3) := by decide +kernel
theorem dX12_make_55 : decode cX12_make 55 = .ok (.goto (-26), 3) := by decide +kernel
theorem dX12_make_58 : decode cX12_make 58 = .ok (.return_, 1) := by decide +kernel
theorem dX12_blown_0 : decode cX12_blown 0 = .ok (.iload_n 0, 1) := by decide +kernel
theorem dX12_blown_1 : decode cX12_blown 1 = .ok (.bipush 10, 2) := by decide +kernel
theorem dX12_blown_3 : decode cX12_blown 3 = .ok (.if_icmp .ge 9, 3) := by decide +kernel
theorem dX12_blown_6 : decode cX12_blown 6 = .ok (.iload_n 0, 1) := by decide +kernel
theorem dX12_blown_7 : decode cX12_blown 7 = .ok (.iconst 2, 1) := by decide +kernel
theorem dX12_blown_8 : decode cX12_blown 8 = .ok (.iadd, 1) := by decide +kernel
theorem dX12_blown_9 : decode cX12_blown 9 = .ok (.goto 4, 3) := by decide +kernel
theorem dX12_blown_12 : decode cX12_blown 12 = .ok (.iload_n 0, 1) := by decide +kernel
theorem dX12_blown_13 : decode cX12_blown 13 = .ok (.ireturn, 1) := by decide +kernel
theorem dX12_seenBy_0 : decode cX12_seenBy 0 = .ok (.iload_n 0, 1) := by decide +kernel
theorem dX12_seenBy_1 : decode cX12_seenBy 1 = .ok (.iconst 2, 1) := by decide +kernel
theorem dX12_seenBy_2 : decode cX12_seenBy 2 = .ok (.if_icmp .eq 8, 3) := by decide +kernel
theorem dX12_seenBy_5 : decode cX12_seenBy 5 = .ok (.iload_n 0, 1) := by decide +kernel
theorem dX12_seenBy_6 : decode cX12_seenBy 6 = .ok (.iconst 4, 1) := by decide +kernel
theorem dX12_seenBy_7 : decode cX12_seenBy 7 = .ok (.if_icmp .ne 12, 3) := by decide +kernel
theorem dX12_seenBy_10 : decode cX12_seenBy 10 = .ok (.iload_n 2, 1) := by decide +kernel
theorem dX12_seenBy_11 : decode cX12_seenBy 11 = .ok (.iconst 3, 1) := by decide +kernel
theorem dX12_seenBy_12 : decode cX12_seenBy 12 = .ok (.irem, 1) := by decide +kernel
theorem dX12_seenBy_13 : decode cX12_seenBy 13 = .ok (.iconst 2, 1) := by decide +kernel
theorem dX12_seenBy_14 : decode cX12_seenBy 14 = .ok (.if_icmp .ne 5, 3) := by decide +kernel
theorem dX12_seenBy_17 : decode cX12_seenBy 17 = .ok (.iconst (-1), 1) := by decide +kernel
theorem dX12_seenBy_18 : decode cX12_seenBy 18 = .ok (.ireturn, 1) := by decide +kernel
theorem dX12_seenBy_19 : decode cX12_seenBy 19 = .ok (.iload_n 0, 1) := by decide +kernel
theorem dX12_seenBy_20 : decode cX12_seenBy 20 = .ok (.iconst 3, 1) := by decide +kernel
theorem dX12_seenBy_21 : decode cX12_seenBy 21 = .ok (.if_icmp .ne 21, 3) := by decide +kernel
theorem dX12_seenBy_24 : decode cX12_seenBy 24 = .ok (.iload_n 1, 1) := by decide +kernel
theorem dX12_seenBy_25 : decode cX12_seenBy 25 = .ok (.iconst 2, 1) := by decide +kernel
theorem dX12_seenBy_26 : decode cX12_seenBy 26 = .ok (.irem, 1) := by decide +kernel
theorem dX12_seenBy_27 : decode cX12_seenBy 27 = .ok (.ifCond .ne 9, 3) := by decide +kernel
theorem dX12_seenBy_30 : decode cX12_seenBy 30 = .ok (.iload_n 1, 1) := by decide +kernel
theorem dX12_seenBy_31 : decode cX12_seenBy 31 = .ok (.iconst 1, 1) := by decide +kernel
theorem dX12_seenBy_32 : decode cX12_seenBy 32 = .ok (.iadd, 1) := by decide +kernel
theorem dX12_seenBy_33 : decode cX12_seenBy 33 = .ok (.goto 27, 3) := by decide +kernel
theorem dX12_seenBy_36 : decode cX12_seenBy 36 = .ok (.iload_n 1, 1) := by decide +kernel
theorem dX12_seenBy_37 : decode cX12_seenBy 37 = .ok (.iconst 1, 1) := by decide +kernel
theorem dX12_seenBy_38 : decode cX12_seenBy 38 = .ok (.isub, 1) := by decide +kernel
theorem dX12_seenBy_39 : decode cX12_seenBy 39 = .ok (.goto 21, 3) := by decide +kernel
theorem dX12_seenBy_42 : decode cX12_seenBy 42 = .ok (.iload_n 0, 1) := by decide +kernel
theorem dX12_seenBy_43 : decode cX12_seenBy 43 = .ok (.iconst 4, 1) := by decide +kernel
theorem dX12_seenBy_44 : decode cX12_seenBy 44 = .ok (.if_icmp .ne 15, 3) := by decide +kernel
theorem dX12_seenBy_47 : decode cX12_seenBy 47 = .ok (.iload_n 1, 1) := by decide +kernel
theorem dX12_seenBy_48 : decode cX12_seenBy 48 = .ok (.bipush 10, 2) := by decide +kernel
theorem dX12_seenBy_50 : decode cX12_seenBy 50 = .ok (.if_icmp .lt 9, 3) := by decide +kernel
theorem dX12_seenBy_53 : decode cX12_seenBy 53 = .ok (.iload_n 1, 1) := by decide +kernel
theorem dX12_seenBy_54 : decode cX12_seenBy 54 = .ok (.iconst 2, 1) := by decide +kernel
theorem dX12_seenBy_55 : decode cX12_seenBy 55 = .ok (.isub, 1) := by decide +kernel
theorem dX12_seenBy_56 : decode cX12_seenBy 56 = .ok (.goto 4, 3) := by decide +kernel
theorem dX12_seenBy_59 : decode cX12_seenBy 59 = .ok (.iload_n 1, 1) := by decide +kernel
theorem dX12_seenBy_60 : decode cX12_seenBy 60 = .ok (.ireturn, 1) := by decide +kernel
theorem dX12_fits_0 : decode cX12_fits 0 = .ok (.iload_n 3, 1) := by decide +kernel
theorem dX12_fits_1 : decode cX12_fits 1 = .ok (.iload_n 2, 1) := by decide +kernel
theorem dX12_fits_2 : decode cX12_fits 2 = .ok (.iadd, 1) := by decide +kernel
theorem dX12_fits_3 : decode cX12_fits 3 = .ok (.aload_n 0, 1) := by decide +kernel
theorem dX12_fits_4 : decode cX12_fits 4 = .ok (.getfield 132, 3) := by decide +kernel
theorem dX12_fits_7 : decode cX12_fits 7 = .ok (.if_icmp .gt 7, 3) := by decide +kernel
theorem dX12_fits_10 : decode cX12_fits 10 = .ok (.iconst 1, 1) := by decide +kernel
theorem dX12_fits_11 : decode cX12_fits 11 = .ok (.goto 4, 3) := by decide +kernel
theorem dX12_fits_14 : decode cX12_fits 14 = .ok (.iconst 0, 1) := by decide +kernel
theorem dX12_fits_15 : decode cX12_fits 15 = .ok (.istore 4, 2) := by decide +kernel
theorem dX12_fits_17 : decode cX12_fits 17 = .ok (.iconst 0, 1) := by decide +kernel
theorem dX12_fits_18 : decode cX12_fits 18 = .ok (.istore 5, 2) := by decide +kernel
theorem dX12_fits_20 : decode cX12_fits 20 = .ok (.iload 5, 2) := by decide +kernel
theorem dX12_fits_22 : decode cX12_fits 22 = .ok (.iload_n 2, 1) := by decide +kernel
theorem dX12_fits_23 : decode cX12_fits 23 = .ok (.if_icmp .ge 40, 3) := by decide +kernel
theorem dX12_fits_26 : decode cX12_fits 26 = .ok (.iload 4, 2) := by decide +kernel
theorem dX12_fits_28 : decode cX12_fits 28 = .ok (.ifCond .eq 35, 3) := by decide +kernel
theorem dX12_fits_31 : decode cX12_fits 31 = .ok (.aload_n 0, 1) := by decide +kernel
theorem dX12_fits_32 : decode cX12_fits 32 = .ok (.getfield 27, 3) := by decide +kernel
theorem dX12_fits_35 : decode cX12_fits 35 = .ok (.iload_n 3, 1) := by decide +kernel
theorem dX12_fits_36 : decode cX12_fits 36 = .ok (.iload 5, 2) := by decide +kernel
theorem dX12_fits_38 : decode cX12_fits 38 = .ok (.iadd, 1) := by decide +kernel
theorem dX12_fits_39 : decode cX12_fits 39 = .ok (.iaload, 1) := by decide +kernel
theorem dX12_fits_40 : decode cX12_fits 40 = .ok (.iload_n 1, 1) := by decide +kernel
theorem dX12_fits_41 : decode cX12_fits 41 = .ok (.iload_n 2, 1) := by decide +kernel
theorem dX12_fits_42 : decode cX12_fits 42 = .ok (.iload 5, 2) := by decide +kernel
theorem dX12_fits_44 : decode cX12_fits 44 = .ok (.invokestatic 135, 3) := by decide +kernel
theorem dX12_fits_47 : decode cX12_fits 47 = .ok (.if_icmp .ne 7, 3) := by decide +kernel
theorem dX12_fits_50 : decode cX12_fits 50 = .ok (.iconst 1, 1) := by decide +kernel
theorem dX12_fits_51 : decode cX12_fits 51 = .ok (.goto 4, 3) := by decide +kernel
theorem dX12_fits_54 : decode cX12_fits 54 = .ok (.iconst 0, 1) := by decide +kernel
theorem dX12_fits_55 : decode cX12_fits 55 = .ok (.istore 4, 2) := by decide +kernel
theorem dX12_fits_57 : decode cX12_fits 57 = .ok (.iinc 5 1, 3) := by decide +kernel
theorem dX12_fits_60 : decode cX12_fits 60 = .ok (.goto (-40), 3) := by decide +kernel
theorem dX12_fits_63 : decode cX12_fits 63 = .ok (.iload 4, 2) := by decide +kernel
theorem dX12_fits_65 : decode cX12_fits 65 = .ok (.ireturn, 1) := by decide +kernel
theorem dX12_readBy_0 : decode cX12_readBy 0 = .ok (.iconst 0, 1) := by decide +kernel
theorem dX12_readBy_1 : decode cX12_readBy 1 = .ok (.istore 4, 2) := by decide +kernel
theorem dX12_readBy_3 : decode cX12_readBy 3 = .ok (.iload 4, 2) := by decide +kernel
theorem dX12_readBy_5 : decode cX12_readBy 5 = .ok (.aload_n 0, 1) := by decide +kernel
theorem dX12_readBy_6 : decode cX12_readBy 6 = .ok (.getfield 132, 3) := by decide +kernel
theorem dX12_readBy_9 : decode cX12_readBy 9 = .ok (.if_icmp .ge 63, 3) := by decide +kernel
theorem dX12_readBy_12 : decode cX12_readBy 12 = .ok (.iload 4, 2) := by decide +kernel
theorem dX12_readBy_14 : decode cX12_readBy 14 = .ok (.bipush 6, 2) := by decide +kernel
theorem dX12_readBy_16 : decode cX12_readBy 16 = .ok (.if_icmp .ge 26, 3) := by decide +kernel
theorem dX12_readBy_19 : decode cX12_readBy 19 = .ok (.iload_n 3, 1) := by decide +kernel
theorem dX12_readBy_20 : decode cX12_readBy 20 = .ok (.iload 4, 2) := by decide +kernel
theorem dX12_readBy_22 : decode cX12_readBy 22 = .ok (.ishr, 1) := by decide +kernel
theorem dX12_readBy_23 : decode cX12_readBy 23 = .ok (.iconst 1, 1) := by decide +kernel
theorem dX12_readBy_24 : decode cX12_readBy 24 = .ok (.iand, 1) := by decide +kernel
theorem dX12_readBy_25 : decode cX12_readBy 25 = .ok (.iconst 1, 1) := by decide +kernel
theorem dX12_readBy_26 : decode cX12_readBy 26 = .ok (.if_icmp .ne 16, 3) := by decide +kernel
theorem dX12_readBy_29 : decode cX12_readBy 29 = .ok (.aload_n 0, 1) := by decide +kernel
theorem dX12_readBy_30 : decode cX12_readBy 30 = .ok (.getfield 24, 3) := by decide +kernel
theorem dX12_readBy_33 : decode cX12_readBy 33 = .ok (.iload 4, 2) := by decide +kernel
theorem dX12_readBy_35 : decode cX12_readBy 35 = .ok (.iaload, 1) := by decide +kernel
theorem dX12_readBy_36 : decode cX12_readBy 36 = .ok (.invokestatic 139, 3) := by decide +kernel
theorem dX12_readBy_39 : decode cX12_readBy 39 = .ok (.goto 10, 3) := by decide +kernel
theorem dX12_readBy_42 : decode cX12_readBy 42 = .ok (.aload_n 0, 1) := by decide +kernel
theorem dX12_readBy_43 : decode cX12_readBy 43 = .ok (.getfield 24, 3) := by decide +kernel
theorem dX12_readBy_46 : decode cX12_readBy 46 = .ok (.iload 4, 2) := by decide +kernel
theorem dX12_readBy_48 : decode cX12_readBy 48 = .ok (.iaload, 1) := by decide +kernel
theorem dX12_readBy_49 : decode cX12_readBy 49 = .ok (.istore 5, 2) := by decide +kernel
theorem dX12_readBy_51 : decode cX12_readBy 51 = .ok (.aload_n 0, 1) := by decide +kernel
theorem dX12_readBy_52 : decode cX12_readBy 52 = .ok (.getfield 27, 3) := by decide +kernel
theorem dX12_readBy_55 : decode cX12_readBy 55 = .ok (.iload 4, 2) := by decide +kernel
theorem dX12_readBy_57 : decode cX12_readBy 57 = .ok (.iload_n 1, 1) := by decide +kernel
theorem dX12_readBy_58 : decode cX12_readBy 58 = .ok (.iload 5, 2) := by decide +kernel
theorem dX12_readBy_60 : decode cX12_readBy 60 = .ok (.iload 4, 2) := by decide +kernel
theorem dX12_readBy_62 : decode cX12_readBy 62 = .ok (.invokestatic 142, 3) := by decide +kernel
theorem dX12_readBy_65 : decode cX12_readBy 65 = .ok (.iastore, 1) := by decide +kernel
theorem dX12_readBy_66 : decode cX12_readBy 66 = .ok (.iinc 4 1, 3) := by decide +kernel
theorem dX12_readBy_69 : decode cX12_readBy 69 = .ok (.goto (-66), 3) := by decide +kernel
theorem dX12_readBy_72 : decode cX12_readBy 72 = .ok (.iload_n 1, 1) := by decide +kernel
theorem dX12_readBy_73 : decode cX12_readBy 73 = .ok (.iconst 1, 1) := by decide +kernel
theorem dX12_readBy_74 : decode cX12_readBy 74 = .ok (.if_icmp .eq 8, 3) := by decide +kernel
theorem dX12_readBy_77 : decode cX12_readBy 77 = .ok (.iload_n 1, 1) := by decide +kernel
theorem dX12_readBy_78 : decode cX12_readBy 78 = .ok (.iconst 3, 1) := by decide +kernel
theorem dX12_readBy_79 : decode cX12_readBy 79 = .ok (.if_icmp .ne 7, 3) := by decide +kernel
theorem dX12_readBy_82 : decode cX12_readBy 82 = .ok (.iconst 1, 1) := by decide +kernel
theorem dX12_readBy_83 : decode cX12_readBy 83 = .ok (.goto 4, 3) := by decide +kernel
theorem dX12_readBy_86 : decode cX12_readBy 86 = .ok (.iconst 0, 1) := by decide +kernel
theorem dX12_readBy_87 : decode cX12_readBy 87 = .ok (.istore 4, 2) := by decide +kernel
theorem dX12_readBy_89 : decode cX12_readBy 89 = .ok (.aload_n 0, 1) := by decide +kernel
theorem dX12_readBy_90 : decode cX12_readBy 90 = .ok (.iconst 0, 1) := by decide +kernel
theorem dX12_readBy_91 : decode cX12_readBy 91 = .ok (.putfield 145, 3) := by decide +kernel
theorem dX12_readBy_94 : decode cX12_readBy 94 = .ok (.iconst 0, 1) := by decide +kernel
theorem dX12_readBy_95 : decode cX12_readBy 95 = .ok (.istore 5, 2) := by decide +kernel
theorem dX12_readBy_97 : decode cX12_readBy 97 = .ok (.iload 5, 2) := by decide +kernel
theorem dX12_readBy_99 : decode cX12_readBy 99 = .ok (.aload_n 0, 1) := by decide +kernel
theorem dX12_readBy_100 : decode cX12_readBy 100 = .ok (.getfield 132, 3) := by decide +kernel
theorem dX12_readBy_103 : decode cX12_readBy 103 = .ok (.if_icmp .ge 143, 3) := by decide +kernel
theorem dX12_readBy_106 : decode cX12_readBy 106 = .ok (.iconst 0, 1) := by decide +kernel
theorem dX12_readBy_107 : decode cX12_readBy 107 = .ok (.istore 6, 2) := by decide +kernel
theorem dX12_readBy_109 : decode cX12_readBy 109 = .ok (.iconst (-1), 1) := by decide +kernel
theorem dX12_readBy_110 : decode cX12_readBy 110 = .ok (.istore 7, 2) := by decide +kernel
theorem dX12_readBy_112 : decode cX12_readBy 112 = .ok (.iconst 0, 1) := by decide +kernel
theorem dX12_readBy_113 : decode cX12_readBy 113 = .ok (.istore 8, 2) := by decide +kernel
theorem dX12_readBy_115 : decode cX12_readBy 115 = .ok (.iload 8, 2) := by decide +kernel
theorem dX12_readBy_117 : decode cX12_readBy 117 = .ok (.aload_n 0, 1) := by decide +kernel
theorem dX12_readBy_118 : decode cX12_readBy 118 = .ok (.iload_n 2, 1) := by decide +kernel
theorem dX12_readBy_119 : decode cX12_readBy 119 = .ok (.invokevirtual 51, 3) := by decide +kernel
theorem dX12_readBy_122 : decode cX12_readBy 122 = .ok (.if_icmp .ge 79, 3) := by decide +kernel
theorem dX12_readBy_125 : decode cX12_readBy 125 = .ok (.aload_n 0, 1) := by decide +kernel
theorem dX12_readBy_126 : decode cX12_readBy 126 = .ok (.iload_n 2, 1) := by decide +kernel
theorem dX12_readBy_127 : decode cX12_readBy 127 = .ok (.iload 8, 2) := by decide +kernel
theorem dX12_readBy_129 : decode cX12_readBy 129 = .ok (.invokevirtual 54, 3) := by decide +kernel
theorem dX12_readBy_132 : decode cX12_readBy 132 = .ok (.invokestatic 70, 3) := by decide +kernel
theorem dX12_readBy_135 : decode cX12_readBy 135 = .ok (.istore 9, 2) := by decide +kernel
theorem dX12_readBy_137 : decode cX12_readBy 137 = .ok (.aload_n 0, 1) := by decide +kernel
theorem dX12_readBy_138 : decode cX12_readBy 138 = .ok (.aload_n 0, 1) := by decide +kernel
theorem dX12_readBy_139 : decode cX12_readBy 139 = .ok (.iload_n 2, 1) := by decide +kernel
theorem dX12_readBy_140 : decode cX12_readBy 140 = .ok (.iload 8, 2) := by decide +kernel
theorem dX12_readBy_142 : decode cX12_readBy 142 = .ok (.invokevirtual 54, 3) := by decide +kernel
theorem dX12_readBy_145 : decode cX12_readBy 145 = .ok (.iload 9, 2) := by decide +kernel
theorem dX12_readBy_147 : decode cX12_readBy 147 = .ok (.iload 5, 2) := by decide +kernel
theorem dX12_readBy_149 : decode cX12_readBy 149 = .ok (.invokevirtual 148, 3) := by decide +kernel
theorem dX12_readBy_152 : decode cX12_readBy 152 = .ok (.ifCond .eq 43, 3) := by decide +kernel
theorem dX12_readBy_155 : decode cX12_readBy 155 = .ok (.iload 6, 2) := by decide +kernel
theorem dX12_readBy_157 : decode cX12_readBy 157 = .ok (.ifCond .eq 25, 3) := by decide +kernel
theorem dX12_readBy_160 : decode cX12_readBy 160 = .ok (.iload 4, 2) := by decide +kernel
theorem dX12_readBy_162 : decode cX12_readBy 162 = .ok (.ifCond .eq 13, 3) := by decide +kernel
theorem dX12_readBy_165 : decode cX12_readBy 165 = .ok (.iload 9, 2) := by decide +kernel
theorem dX12_readBy_167 : decode cX12_readBy 167 = .ok (.iload 6, 2) := by decide +kernel
theorem dX12_readBy_169 : decode cX12_readBy 169 = .ok (.if_icmp .ge 26, 3) := by decide +kernel
theorem dX12_readBy_172 : decode cX12_readBy 172 = .ok (.goto 10, 3) := by decide +kernel
theorem dX12_readBy_175 : decode cX12_readBy 175 = .ok (.iload 9, 2) := by decide +kernel
theorem dX12_readBy_177 : decode cX12_readBy 177 = .ok (.iload 6, 2) := by decide +kernel
theorem dX12_readBy_179 : decode cX12_readBy 179 = .ok (.if_icmp .le 16, 3) := by decide +kernel
theorem dX12_readBy_182 : decode cX12_readBy 182 = .ok (.iload 9, 2) := by decide +kernel
theorem dX12_readBy_184 : decode cX12_readBy 184 = .ok (.istore 6, 2) := by decide +kernel
theorem dX12_readBy_186 : decode cX12_readBy 186 = .ok (.aload_n 0, 1) := by decide +kernel
theorem dX12_readBy_187 : decode cX12_readBy 187 = .ok (.iload_n 2, 1) := by decide +kernel
theorem dX12_readBy_188 : decode cX12_readBy 188 = .ok (.iload 8, 2) := by decide +kernel
theorem dX12_readBy_190 : decode cX12_readBy 190 = .ok (.invokevirtual 87, 3) := by decide +kernel
theorem dX12_readBy_193 : decode cX12_readBy 193 = .ok (.istore 7, 2) := by decide +kernel
theorem dX12_readBy_195 : decode cX12_readBy 195 = .ok (.iinc 8 1, 3) := by decide +kernel
theorem dX12_readBy_198 : decode cX12_readBy 198 = .ok (.goto (-83), 3) := by decide +kernel
theorem dX12_readBy_201 : decode cX12_readBy 201 = .ok (.iload 6, 2) := by decide +kernel
theorem dX12_readBy_203 : decode cX12_readBy 203 = .ok (.ifCond .le 24, 3) := by decide +kernel
theorem dX12_readBy_206 : decode cX12_readBy 206 = .ok (.aload_n 0, 1) := by decide +kernel
theorem dX12_readBy_207 : decode cX12_readBy 207 = .ok (.getfield 30, 3) := by decide +kernel
theorem dX12_readBy_210 : decode cX12_readBy 210 = .ok (.aload_n 0, 1) := by decide +kernel
theorem dX12_readBy_211 : decode cX12_readBy 211 = .ok (.getfield 145, 3) := by decide +kernel
theorem dX12_readBy_214 : decode cX12_readBy 214 = .ok (.iload 7, 2) := by decide +kernel
theorem dX12_readBy_216 : decode cX12_readBy 216 = .ok (.iastore, 1) := by decide +kernel
theorem dX12_readBy_217 : decode cX12_readBy 217 = .ok (.aload_n 0, 1) := by decide +kernel
theorem dX12_readBy_218 : decode cX12_readBy 218 = .ok (.dup, 1) := by decide +kernel
theorem dX12_readBy_219 : decode cX12_readBy 219 = .ok (.getfield 145, 3) := by decide +kernel
theorem dX12_readBy_222 : decode cX12_readBy 222 = .ok (.iconst 1, 1) := by decide +kernel
theorem dX12_readBy_223 : decode cX12_readBy 223 = .ok (.iadd, 1) := by decide +kernel
theorem dX12_readBy_224 : decode cX12_readBy 224 = .ok (.putfield 145, 3) := by decide +kernel
theorem dX12_readBy_227 : decode cX12_readBy 227 = .ok (.iload 5, 2) := by decide +kernel
theorem dX12_readBy_229 : decode cX12_readBy 229 = .ok (.iload 6, 2) := by decide +kernel
theorem dX12_readBy_231 : decode cX12_readBy 231 = .ok (.ifCond .le 8, 3) := by decide +kernel
theorem dX12_readBy_234 : decode cX12_readBy 234 = .ok (.iload 6, 2) := by decide +kernel
theorem dX12_readBy_236 : decode cX12_readBy 236 = .ok (.goto 4, 3) := by decide +kernel
theorem dX12_readBy_239 : decode cX12_readBy 239 = .ok (.iconst 1, 1) := by decide +kernel
theorem dX12_readBy_240 : decode cX12_readBy 240 = .ok (.iadd, 1) := by decide +kernel
theorem dX12_readBy_241 : decode cX12_readBy 241 = .ok (.istore 5, 2) := by decide +kernel
theorem dX12_readBy_243 : decode cX12_readBy 243 = .ok (.goto (-146), 3) := by decide +kernel
theorem dX12_readBy_246 : decode cX12_readBy 246 = .ok (.return_, 1) := by decide +kernel
theorem dX12_hasRead_0 : decode cX12_hasRead 0 = .ok (.iconst 0, 1) := by decide +kernel
theorem dX12_hasRead_1 : decode cX12_hasRead 1 = .ok (.istore_n 2, 1) := by decide +kernel
theorem dX12_hasRead_2 : decode cX12_hasRead 2 = .ok (.iconst 0, 1) := by decide +kernel
theorem dX12_hasRead_3 : decode cX12_hasRead 3 = .ok (.istore_n 3, 1) := by decide +kernel
theorem dX12_hasRead_4 : decode cX12_hasRead 4 = .ok (.iload_n 3, 1) := by decide +kernel
theorem dX12_hasRead_5 : decode cX12_hasRead 5 = .ok (.aload_n 0, 1) := by decide +kernel
theorem dX12_hasRead_6 : decode cX12_hasRead 6 = .ok (.getfield 145, 3) := by decide +kernel
theorem dX12_hasRead_9 : decode cX12_hasRead 9 = .ok (.if_icmp .ge 29, 3) := by decide +kernel
theorem dX12_hasRead_12 : decode cX12_hasRead 12 = .ok (.iload_n 2, 1) := by decide +kernel
theorem dX12_hasRead_13 : decode cX12_hasRead 13 = .ok (.ifCond .ne 13, 3) := by decide +kernel
theorem dX12_hasRead_16 : decode cX12_hasRead 16 = .ok (.aload_n 0, 1) := by decide +kernel
theorem dX12_hasRead_17 : decode cX12_hasRead 17 = .ok (.getfield 30, 3) := by decide +kernel
theorem dX12_hasRead_20 : decode cX12_hasRead 20 = .ok (.iload_n 3, 1) := by decide +kernel
theorem dX12_hasRead_21 : decode cX12_hasRead 21 = .ok (.iaload, 1) := by decide +kernel
theorem dX12_hasRead_22 : decode cX12_hasRead 22 = .ok (.iload_n 1, 1) := by decide +kernel
theorem dX12_hasRead_23 : decode cX12_hasRead 23 = .ok (.if_icmp .ne 7, 3) := by decide +kernel
theorem dX12_hasRead_26 : decode cX12_hasRead 26 = .ok (.iconst 1, 1) := by decide +kernel
theorem dX12_hasRead_27 : decode cX12_hasRead 27 = .ok (.goto 4, 3) := by decide +kernel
theorem dX12_hasRead_30 : decode cX12_hasRead 30 = .ok (.iconst 0, 1) := by decide +kernel
theorem dX12_hasRead_31 : decode cX12_hasRead 31 = .ok (.istore_n 2, 1) := by decide +kernel
theorem dX12_hasRead_32 : decode cX12_hasRead 32 = .ok (.iinc 3 1, 3) := by decide +kernel
theorem dX12_hasRead_35 : decode cX12_hasRead 35 = .ok (.goto (-31), 3) := by decide +kernel
theorem dX12_hasRead_38 : decode cX12_hasRead 38 = .ok (.iload_n 2, 1) := by decide +kernel
theorem dX12_hasRead_39 : decode cX12_hasRead 39 = .ok (.ireturn, 1) := by decide +kernel
theorem dX12_isKind_0 : decode cX12_isKind 0 = .ok (.iload_n 0, 1) := by decide +kernel
theorem dX12_isKind_1 : decode cX12_isKind 1 = .ok (.iconst 0, 1) := by decide +kernel
theorem dX12_isKind_2 : decode cX12_isKind 2 = .ok (.iconst 4, 1) := by decide +kernel
theorem dX12_isKind_3 : decode cX12_isKind 3 = .ok (.invokestatic 47, 3) := by decide +kernel
theorem dX12_isKind_6 : decode cX12_isKind 6 = .ok (.ireturn, 1) := by decide +kernel
theorem dX12_isLawful_0 : decode cX12_isLawful 0 = .ok (.iload_n 0, 1) := by decide +kernel
theorem dX12_isLawful_1 : decode cX12_isLawful 1 = .ok (.iconst 2, 1) := by decide +kernel
theorem dX12_isLawful_2 : decode cX12_isLawful 2 = .ok (.idiv, 1) := by decide +kernel
theorem dX12_isLawful_3 : decode cX12_isLawful 3 = .ok (.iload_n 1, 1) := by decide +kernel
theorem dX12_isLawful_4 : decode cX12_isLawful 4 = .ok (.iconst 2, 1) := by decide +kernel
theorem dX12_isLawful_5 : decode cX12_isLawful 5 = .ok (.idiv, 1) := by decide +kernel
theorem dX12_isLawful_6 : decode cX12_isLawful 6 = .ok (.isub, 1) := by decide +kernel
theorem dX12_isLawful_7 : decode cX12_isLawful 7 = .ok (.iconst (-1), 1) := by decide +kernel
theorem dX12_isLawful_8 : decode cX12_isLawful 8 = .ok (.iconst 1, 1) := by decide +kernel
theorem dX12_isLawful_9 : decode cX12_isLawful 9 = .ok (.invokestatic 47, 3) := by decide +kernel
theorem dX12_isLawful_12 : decode cX12_isLawful 12 = .ok (.ireturn, 1) := by decide +kernel
theorem dX12_say_0 : decode cX12_say 0 = .ok (.iload_n 1, 1) := by decide +kernel
theorem dX12_say_1 : decode cX12_say 1 = .ok (.invokestatic 70, 3) := by decide +kernel
theorem dX12_say_4 : decode cX12_say 4 = .ok (.istore_n 2, 1) := by decide +kernel
theorem dX12_say_5 : decode cX12_say 5 = .ok (.iload_n 2, 1) := by decide +kernel
theorem dX12_say_6 : decode cX12_say 6 = .ok (.iconst (-1), 1) := by decide +kernel
theorem dX12_say_7 : decode cX12_say 7 = .ok (.if_icmp .ne 8, 3) := by decide +kernel
theorem dX12_say_10 : decode cX12_say 10 = .ok (.aload_n 0, 1) := by decide +kernel
theorem dX12_say_11 : decode cX12_say 11 = .ok (.invokevirtual 73, 3) := by decide +kernel
theorem dX12_say_14 : decode cX12_say 14 = .ok (.ireturn, 1) := by decide +kernel
theorem dX12_say_15 : decode cX12_say 15 = .ok (.iconst 1, 1) := by decide +kernel
theorem dX12_say_16 : decode cX12_say 16 = .ok (.istore_n 3, 1) := by decide +kernel
theorem dX12_say_17 : decode cX12_say 17 = .ok (.iconst 1, 1) := by decide +kernel
theorem dX12_say_18 : decode cX12_say 18 = .ok (.istore 4, 2) := by decide +kernel
theorem dX12_say_20 : decode cX12_say 20 = .ok (.iload 4, 2) := by decide +kernel
theorem dX12_say_22 : decode cX12_say 22 = .ok (.iload_n 2, 1) := by decide +kernel
theorem dX12_say_23 : decode cX12_say 23 = .ok (.if_icmp .ge 41, 3) := by decide +kernel
theorem dX12_say_26 : decode cX12_say 26 = .ok (.iload_n 3, 1) := by decide +kernel
theorem dX12_say_27 : decode cX12_say 27 = .ok (.ifCond .eq 29, 3) := by decide +kernel
theorem dX12_say_30 : decode cX12_say 30 = .ok (.iload_n 1, 1) := by decide +kernel
theorem dX12_say_31 : decode cX12_say 31 = .ok (.iload_n 2, 1) := by decide +kernel
theorem dX12_say_32 : decode cX12_say 32 = .ok (.iload 4, 2) := by decide +kernel
theorem dX12_say_34 : decode cX12_say 34 = .ok (.iconst 1, 1) := by decide +kernel
theorem dX12_say_35 : decode cX12_say 35 = .ok (.isub, 1) := by decide +kernel
theorem dX12_say_36 : decode cX12_say 36 = .ok (.invokestatic 135, 3) := by decide +kernel
theorem dX12_say_39 : decode cX12_say 39 = .ok (.iload_n 1, 1) := by decide +kernel
theorem dX12_say_40 : decode cX12_say 40 = .ok (.iload_n 2, 1) := by decide +kernel
theorem dX12_say_41 : decode cX12_say 41 = .ok (.iload 4, 2) := by decide +kernel
theorem dX12_say_43 : decode cX12_say 43 = .ok (.invokestatic 135, 3) := by decide +kernel
theorem dX12_say_46 : decode cX12_say 46 = .ok (.invokestatic 151, 3) := by decide +kernel
theorem dX12_say_49 : decode cX12_say 49 = .ok (.ifCond .eq 7, 3) := by decide +kernel
theorem dX12_say_52 : decode cX12_say 52 = .ok (.iconst 1, 1) := by decide +kernel
theorem dX12_say_53 : decode cX12_say 53 = .ok (.goto 4, 3) := by decide +kernel
theorem dX12_say_56 : decode cX12_say 56 = .ok (.iconst 0, 1) := by decide +kernel
theorem dX12_say_57 : decode cX12_say 57 = .ok (.istore_n 3, 1) := by decide +kernel
theorem dX12_say_58 : decode cX12_say 58 = .ok (.iinc 4 1, 3) := by decide +kernel
theorem dX12_say_61 : decode cX12_say 61 = .ok (.goto (-41), 3) := by decide +kernel
theorem dX12_say_64 : decode cX12_say 64 = .ok (.iload_n 3, 1) := by decide +kernel
theorem dX12_say_65 : decode cX12_say 65 = .ok (.ifCond .ne 8, 3) := by decide +kernel
theorem dX12_say_68 : decode cX12_say 68 = .ok (.aload_n 0, 1) := by decide +kernel
theorem dX12_say_69 : decode cX12_say 69 = .ok (.invokevirtual 80, 3) := by decide +kernel
theorem dX12_say_72 : decode cX12_say 72 = .ok (.ireturn, 1) := by decide +kernel
theorem dX12_say_73 : decode cX12_say 73 = .ok (.aload_n 0, 1) := by decide +kernel
theorem dX12_say_74 : decode cX12_say 74 = .ok (.iconst 2, 1) := by decide +kernel
theorem dX12_say_75 : decode cX12_say 75 = .ok (.iload_n 1, 1) := by decide +kernel
theorem dX12_say_76 : decode cX12_say 76 = .ok (.invokevirtual 58, 3) := by decide +kernel
theorem dX12_say_79 : decode cX12_say 79 = .ok (.iload_n 2, 1) := by decide +kernel
theorem dX12_say_80 : decode cX12_say 80 = .ok (.ireturn, 1) := by decide +kernel
theorem dX12_seen_0 : decode cX12_seen 0 = .ok (.iload_n 1, 1) := by decide +kernel
theorem dX12_seen_1 : decode cX12_seen 1 = .ok (.ifCond .ge 8, 3) := by decide +kernel
theorem dX12_seen_4 : decode cX12_seen 4 = .ok (.aload_n 0, 1) := by decide +kernel
theorem dX12_seen_5 : decode cX12_seen 5 = .ok (.invokevirtual 73, 3) := by decide +kernel
theorem dX12_seen_8 : decode cX12_seen 8 = .ok (.ireturn, 1) := by decide +kernel
theorem dX12_seen_9 : decode cX12_seen 9 = .ok (.aload_n 0, 1) := by decide +kernel
theorem dX12_seen_10 : decode cX12_seen 10 = .ok (.aload_n 0, 1) := by decide +kernel
theorem dX12_seen_11 : decode cX12_seen 11 = .ok (.iconst 2, 1) := by decide +kernel
theorem dX12_seen_12 : decode cX12_seen 12 = .ok (.invokevirtual 43, 3) := by decide +kernel
theorem dX12_seen_15 : decode cX12_seen 15 = .ok (.invokevirtual 154, 3) := by decide +kernel
theorem dX12_seen_18 : decode cX12_seen 18 = .ok (.iload_n 1, 1) := by decide +kernel
theorem dX12_seen_19 : decode cX12_seen 19 = .ok (.aload_n 0, 1) := by decide +kernel
theorem dX12_seen_20 : decode cX12_seen 20 = .ok (.getfield 132, 3) := by decide +kernel
theorem dX12_seen_23 : decode cX12_seen 23 = .ok (.if_icmp .lt 7, 3) := by decide +kernel
theorem dX12_seen_26 : decode cX12_seen 26 = .ok (.iconst (-1), 1) := by decide +kernel
theorem dX12_seen_27 : decode cX12_seen 27 = .ok (.goto 34, 3) := by decide +kernel
theorem dX12_seen_30 : decode cX12_seen 30 = .ok (.aload_n 0, 1) := by decide +kernel
theorem dX12_seen_31 : decode cX12_seen 31 = .ok (.iconst 1, 1) := by decide +kernel
theorem dX12_seen_32 : decode cX12_seen 32 = .ok (.invokevirtual 43, 3) := by decide +kernel
theorem dX12_seen_35 : decode cX12_seen 35 = .ok (.iload_n 1, 1) := by decide +kernel
theorem dX12_seen_36 : decode cX12_seen 36 = .ok (.ishr, 1) := by decide +kernel
theorem dX12_seen_37 : decode cX12_seen 37 = .ok (.iconst 1, 1) := by decide +kernel
theorem dX12_seen_38 : decode cX12_seen 38 = .ok (.iand, 1) := by decide +kernel
theorem dX12_seen_39 : decode cX12_seen 39 = .ok (.iconst 1, 1) := by decide +kernel
theorem dX12_seen_40 : decode cX12_seen 40 = .ok (.if_icmp .ne 15, 3) := by decide +kernel
theorem dX12_seen_43 : decode cX12_seen 43 = .ok (.aload_n 0, 1) := by decide +kernel
theorem dX12_seen_44 : decode cX12_seen 44 = .ok (.getfield 24, 3) := by decide +kernel
theorem dX12_seen_47 : decode cX12_seen 47 = .ok (.iload_n 1, 1) := by decide +kernel
theorem dX12_seen_48 : decode cX12_seen 48 = .ok (.iaload, 1) := by decide +kernel
theorem dX12_seen_49 : decode cX12_seen 49 = .ok (.invokestatic 139, 3) := by decide +kernel
theorem dX12_seen_52 : decode cX12_seen 52 = .ok (.goto 9, 3) := by decide +kernel
theorem dX12_seen_55 : decode cX12_seen 55 = .ok (.aload_n 0, 1) := by decide +kernel
theorem dX12_seen_56 : decode cX12_seen 56 = .ok (.getfield 24, 3) := by decide +kernel
theorem dX12_seen_59 : decode cX12_seen 59 = .ok (.iload_n 1, 1) := by decide +kernel
theorem dX12_seen_60 : decode cX12_seen 60 = .ok (.iaload, 1) := by decide +kernel
theorem dX12_seen_61 : decode cX12_seen 61 = .ok (.ireturn, 1) := by decide +kernel
theorem dX12_readSaying_0 : decode cX12_readSaying 0 = .ok (.aload_n 0, 1) := by decide +kernel
theorem dX12_readSaying_1 : decode cX12_readSaying 1 = .ok (.aload_n 0, 1) := by decide +kernel
theorem dX12_readSaying_2 : decode cX12_readSaying 2 = .ok (.iconst 2, 1) := by decide +kernel
theorem dX12_readSaying_3 : decode cX12_readSaying 3 = .ok (.invokevirtual 43, 3) := by decide +kernel
theorem dX12_readSaying_6 : decode cX12_readSaying 6 = .ok (.invokevirtual 154, 3) := by decide +kernel
theorem dX12_readSaying_9 : decode cX12_readSaying 9 = .ok (.aload_n 0, 1) := by decide +kernel
theorem dX12_readSaying_10 : decode cX12_readSaying 10 = .ok (.iload_n 1, 1) := by decide +kernel
theorem dX12_readSaying_11 : decode cX12_readSaying 11 = .ok (.iload_n 2, 1) := by decide +kernel
theorem dX12_readSaying_12 : decode cX12_readSaying 12 = .ok (.aload_n 0, 1) := by decide +kernel
theorem dX12_readSaying_13 : decode cX12_readSaying 13 = .ok (.iconst 1, 1) := by decide +kernel
theorem dX12_readSaying_14 : decode cX12_readSaying 14 = .ok (.invokevirtual 43, 3) := by decide +kernel
theorem dX12_readSaying_17 : decode cX12_readSaying 17 = .ok (.invokevirtual 158, 3) := by decide +kernel
theorem dX12_readSaying_20 : decode cX12_readSaying 20 = .ok (.return_, 1) := by decide +kernel
theorem dX12_reads_0 : decode cX12_reads 0 = .ok (.iload_n 1, 1) := by decide +kernel
theorem dX12_reads_1 : decode cX12_reads 1 = .ok (.invokestatic 161, 3) := by decide +kernel
theorem dX12_reads_4 : decode cX12_reads 4 = .ok (.ifCond .eq 16, 3) := by decide +kernel
theorem dX12_reads_7 : decode cX12_reads 7 = .ok (.aload_n 0, 1) := by decide +kernel
theorem dX12_reads_8 : decode cX12_reads 8 = .ok (.iload_n 2, 1) := by decide +kernel
theorem dX12_reads_9 : decode cX12_reads 9 = .ok (.invokevirtual 66, 3) := by decide +kernel
theorem dX12_reads_12 : decode cX12_reads 12 = .ok (.ifCond .eq 8, 3) := by decide +kernel
theorem dX12_reads_15 : decode cX12_reads 15 = .ok (.iload_n 3, 1) := by decide +kernel
theorem dX12_reads_16 : decode cX12_reads 16 = .ok (.iconst (-1), 1) := by decide +kernel
theorem dX12_reads_17 : decode cX12_reads 17 = .ok (.if_icmp .ge 11, 3) := by decide +kernel
theorem dX12_reads_20 : decode cX12_reads 20 = .ok (.aload_n 0, 1) := by decide +kernel
theorem dX12_reads_21 : decode cX12_reads 21 = .ok (.invokevirtual 73, 3) := by decide +kernel
theorem dX12_reads_24 : decode cX12_reads 24 = .ok (.pop, 1) := by decide +kernel
theorem dX12_reads_25 : decode cX12_reads 25 = .ok (.bipush (-10), 2) := by decide +kernel
theorem dX12_reads_27 : decode cX12_reads 27 = .ok (.ireturn, 1) := by decide +kernel
theorem dX12_reads_28 : decode cX12_reads 28 = .ok (.aload_n 0, 1) := by decide +kernel
theorem dX12_reads_29 : decode cX12_reads 29 = .ok (.iload_n 1, 1) := by decide +kernel
theorem dX12_reads_30 : decode cX12_reads 30 = .ok (.iload_n 2, 1) := by decide +kernel
theorem dX12_reads_31 : decode cX12_reads 31 = .ok (.invokevirtual 164, 3) := by decide +kernel
theorem dX12_reads_34 : decode cX12_reads 34 = .ok (.iload_n 3, 1) := by decide +kernel
theorem dX12_reads_35 : decode cX12_reads 35 = .ok (.iconst (-1), 1) := by decide +kernel
theorem dX12_reads_36 : decode cX12_reads 36 = .ok (.if_icmp .ne 10, 3) := by decide +kernel
theorem dX12_reads_39 : decode cX12_reads 39 = .ok (.aload_n 0, 1) := by decide +kernel
theorem dX12_reads_40 : decode cX12_reads 40 = .ok (.getfield 145, 3) := by decide +kernel
theorem dX12_reads_43 : decode cX12_reads 43 = .ok (.goto 22, 3) := by decide +kernel
theorem dX12_reads_46 : decode cX12_reads 46 = .ok (.iload_n 3, 1) := by decide +kernel
theorem dX12_reads_47 : decode cX12_reads 47 = .ok (.aload_n 0, 1) := by decide +kernel
theorem dX12_reads_48 : decode cX12_reads 48 = .ok (.getfield 145, 3) := by decide +kernel
theorem dX12_reads_51 : decode cX12_reads 51 = .ok (.if_icmp .ge 12, 3) := by decide +kernel
theorem dX12_reads_54 : decode cX12_reads 54 = .ok (.aload_n 0, 1) := by decide +kernel
theorem dX12_reads_55 : decode cX12_reads 55 = .ok (.getfield 30, 3) := by decide +kernel
theorem dX12_reads_58 : decode cX12_reads 58 = .ok (.iload_n 3, 1) := by decide +kernel
theorem dX12_reads_59 : decode cX12_reads 59 = .ok (.iaload, 1) := by decide +kernel
theorem dX12_reads_60 : decode cX12_reads 60 = .ok (.goto 5, 3) := by decide +kernel
theorem dX12_reads_63 : decode cX12_reads 63 = .ok (.bipush (-5), 2) := by decide +kernel
theorem dX12_reads_65 : decode cX12_reads 65 = .ok (.ireturn, 1) := by decide +kernel
theorem dX12_otherwise_0 : decode cX12_otherwise 0 = .ok (.iload_n 1, 1) := by decide +kernel
theorem dX12_otherwise_1 : decode cX12_otherwise 1 = .ok (.invokestatic 161, 3) := by decide +kernel
theorem dX12_otherwise_4 : decode cX12_otherwise 4 = .ok (.ifCond .eq 27, 3) := by decide +kernel
theorem dX12_otherwise_7 : decode cX12_otherwise 7 = .ok (.aload_n 0, 1) := by decide +kernel
theorem dX12_otherwise_8 : decode cX12_otherwise 8 = .ok (.iload_n 2, 1) := by decide +kernel
theorem dX12_otherwise_9 : decode cX12_otherwise 9 = .ok (.invokevirtual 66, 3) := by decide +kernel
theorem dX12_otherwise_12 : decode cX12_otherwise 12 = .ok (.ifCond .eq 19, 3) := by decide +kernel
theorem dX12_otherwise_15 : decode cX12_otherwise 15 = .ok (.iload_n 3, 1) := by decide +kernel
theorem dX12_otherwise_16 : decode cX12_otherwise 16 = .ok (.invokestatic 161, 3) := by decide +kernel
theorem dX12_otherwise_19 : decode cX12_otherwise 19 = .ok (.ifCond .eq 12, 3) := by decide +kernel
theorem dX12_otherwise_22 : decode cX12_otherwise 22 = .ok (.aload_n 0, 1) := by decide +kernel
theorem dX12_otherwise_23 : decode cX12_otherwise 23 = .ok (.iload 4, 2) := by decide +kernel
theorem dX12_otherwise_25 : decode cX12_otherwise 25 = .ok (.invokevirtual 66, 3) := by decide +kernel
theorem dX12_otherwise_28 : decode cX12_otherwise 28 = .ok (.ifCond .ne 8, 3) := by decide +kernel
theorem dX12_otherwise_31 : decode cX12_otherwise 31 = .ok (.aload_n 0, 1) := by decide +kernel
theorem dX12_otherwise_32 : decode cX12_otherwise 32 = .ok (.invokevirtual 73, 3) := by decide +kernel
theorem dX12_otherwise_35 : decode cX12_otherwise 35 = .ok (.ireturn, 1) := by decide +kernel
theorem dX12_otherwise_36 : decode cX12_otherwise 36 = .ok (.aload_n 0, 1) := by decide +kernel
theorem dX12_otherwise_37 : decode cX12_otherwise 37 = .ok (.iload_n 1, 1) := by decide +kernel
theorem dX12_otherwise_38 : decode cX12_otherwise 38 = .ok (.iload_n 2, 1) := by decide +kernel
theorem dX12_otherwise_39 : decode cX12_otherwise 39 = .ok (.invokevirtual 164, 3) := by decide +kernel
theorem dX12_otherwise_42 : decode cX12_otherwise 42 = .ok (.aload_n 0, 1) := by decide +kernel
theorem dX12_otherwise_43 : decode cX12_otherwise 43 = .ok (.getfield 145, 3) := by decide +kernel
theorem dX12_otherwise_46 : decode cX12_otherwise 46 = .ok (.istore 5, 2) := by decide +kernel
theorem dX12_otherwise_48 : decode cX12_otherwise 48 = .ok (.iconst 0, 1) := by decide +kernel
theorem dX12_otherwise_49 : decode cX12_otherwise 49 = .ok (.istore 6, 2) := by decide +kernel
theorem dX12_otherwise_51 : decode cX12_otherwise 51 = .ok (.iload 6, 2) := by decide +kernel
theorem dX12_otherwise_53 : decode cX12_otherwise 53 = .ok (.iload 5, 2) := by decide +kernel
theorem dX12_otherwise_55 : decode cX12_otherwise 55 = .ok (.if_icmp .ge 23, 3) := by decide +kernel
theorem dX12_otherwise_58 : decode cX12_otherwise 58 = .ok (.aload_n 0, 1) := by decide +kernel
theorem dX12_otherwise_59 : decode cX12_otherwise 59 = .ok (.getfield 33, 3) := by decide +kernel
theorem dX12_otherwise_62 : decode cX12_otherwise 62 = .ok (.iload 6, 2) := by decide +kernel
theorem dX12_otherwise_64 : decode cX12_otherwise 64 = .ok (.aload_n 0, 1) := by decide +kernel
theorem dX12_otherwise_65 : decode cX12_otherwise 65 = .ok (.getfield 30, 3) := by decide +kernel
theorem dX12_otherwise_68 : decode cX12_otherwise 68 = .ok (.iload 6, 2) := by decide +kernel
theorem dX12_otherwise_70 : decode cX12_otherwise 70 = .ok (.iaload, 1) := by decide +kernel
theorem dX12_otherwise_71 : decode cX12_otherwise 71 = .ok (.iastore, 1) := by decide +kernel
theorem dX12_otherwise_72 : decode cX12_otherwise 72 = .ok (.iinc 6 1, 3) := by decide +kernel
theorem dX12_otherwise_75 : decode cX12_otherwise 75 = .ok (.goto (-24), 3) := by decide +kernel
theorem dX12_otherwise_78 : decode cX12_otherwise 78 = .ok (.aload_n 0, 1) := by decide +kernel
theorem dX12_otherwise_79 : decode cX12_otherwise 79 = .ok (.iload_n 3, 1) := by decide +kernel
theorem dX12_otherwise_80 : decode cX12_otherwise 80 = .ok (.iload 4, 2) := by decide +kernel
theorem dX12_otherwise_82 : decode cX12_otherwise 82 = .ok (.invokevirtual 164, 3) := by decide +kernel
theorem dX12_otherwise_85 : decode cX12_otherwise 85 = .ok (.iload 5, 2) := by decide +kernel
theorem dX12_otherwise_87 : decode cX12_otherwise 87 = .ok (.aload_n 0, 1) := by decide +kernel
theorem dX12_otherwise_88 : decode cX12_otherwise 88 = .ok (.getfield 145, 3) := by decide +kernel
theorem dX12_otherwise_91 : decode cX12_otherwise 91 = .ok (.if_icmp .le 8, 3) := by decide +kernel
theorem dX12_otherwise_94 : decode cX12_otherwise 94 = .ok (.iload 5, 2) := by decide +kernel
theorem dX12_otherwise_96 : decode cX12_otherwise 96 = .ok (.goto 7, 3) := by decide +kernel
theorem dX12_otherwise_99 : decode cX12_otherwise 99 = .ok (.aload_n 0, 1) := by decide +kernel
theorem dX12_otherwise_100 : decode cX12_otherwise 100 = .ok (.getfield 145, 3) := by decide +kernel
theorem dX12_otherwise_103 : decode cX12_otherwise 103 = .ok (.istore 6, 2) := by decide +kernel
theorem dX12_otherwise_105 : decode cX12_otherwise 105 = .ok (.iconst 0, 1) := by decide +kernel
theorem dX12_otherwise_106 : decode cX12_otherwise 106 = .ok (.istore 7, 2) := by decide +kernel
theorem dX12_otherwise_108 : decode cX12_otherwise 108 = .ok (.iload 7, 2) := by decide +kernel
theorem dX12_otherwise_110 : decode cX12_otherwise 110 = .ok (.iload 6, 2) := by decide +kernel
theorem dX12_otherwise_112 : decode cX12_otherwise 112 = .ok (.if_icmp .ge 45, 3) := by decide +kernel
theorem dX12_otherwise_115 : decode cX12_otherwise 115 = .ok (.iload 7, 2) := by decide +kernel
theorem dX12_otherwise_117 : decode cX12_otherwise 117 = .ok (.iload 5, 2) := by decide +kernel
theorem dX12_otherwise_119 : decode cX12_otherwise 119 = .ok (.if_icmp .ge 29, 3) := by decide +kernel
theorem dX12_otherwise_122 : decode cX12_otherwise 122 = .ok (.iload 7, 2) := by decide +kernel
theorem dX12_otherwise_124 : decode cX12_otherwise 124 = .ok (.aload_n 0, 1) := by decide +kernel
theorem dX12_otherwise_125 : decode cX12_otherwise 125 = .ok (.getfield 145, 3) := by decide +kernel
theorem dX12_otherwise_128 : decode cX12_otherwise 128 = .ok (.if_icmp .ge 20, 3) := by decide +kernel
theorem dX12_otherwise_131 : decode cX12_otherwise 131 = .ok (.aload_n 0, 1) := by decide +kernel
theorem dX12_otherwise_132 : decode cX12_otherwise 132 = .ok (.getfield 33, 3) := by decide +kernel
theorem dX12_otherwise_135 : decode cX12_otherwise 135 = .ok (.iload 7, 2) := by decide +kernel
theorem dX12_otherwise_137 : decode cX12_otherwise 137 = .ok (.iaload, 1) := by decide +kernel
theorem dX12_otherwise_138 : decode cX12_otherwise 138 = .ok (.aload_n 0, 1) := by decide +kernel
theorem dX12_otherwise_139 : decode cX12_otherwise 139 = .ok (.getfield 30, 3) := by decide +kernel
theorem dX12_otherwise_142 : decode cX12_otherwise 142 = .ok (.iload 7, 2) := by decide +kernel
theorem dX12_otherwise_144 : decode cX12_otherwise 144 = .ok (.iaload, 1) := by decide +kernel
theorem dX12_otherwise_145 : decode cX12_otherwise 145 = .ok (.if_icmp .eq 6, 3) := by decide +kernel
theorem dX12_otherwise_148 : decode cX12_otherwise 148 = .ok (.iload 7, 2) := by decide +kernel
theorem dX12_otherwise_150 : decode cX12_otherwise 150 = .ok (.ireturn, 1) := by decide +kernel
theorem dX12_otherwise_151 : decode cX12_otherwise 151 = .ok (.iinc 7 1, 3) := by decide +kernel
theorem dX12_otherwise_154 : decode cX12_otherwise 154 = .ok (.goto (-46), 3) := by decide +kernel
theorem dX12_otherwise_157 : decode cX12_otherwise 157 = .ok (.iconst (-1), 1) := by decide +kernel
theorem dX12_otherwise_158 : decode cX12_otherwise 158 = .ok (.ireturn, 1) := by decide +kernel
theorem dX12_know_0 : decode cX12_know 0 = .ok (.aload_n 0, 1) := by decide +kernel
theorem dX12_know_1 : decode cX12_know 1 = .ok (.iconst 5, 1) := by decide +kernel
theorem dX12_know_2 : decode cX12_know 2 = .ok (.invokevirtual 43, 3) := by decide +kernel
theorem dX12_know_5 : decode cX12_know 5 = .ok (.bipush 6, 2) := by decide +kernel
theorem dX12_know_7 : decode cX12_know 7 = .ok (.if_icmp .ne 41, 3) := by decide +kernel
theorem dX12_know_10 : decode cX12_know 10 = .ok (.iconst 0, 1) := by decide +kernel
theorem dX12_know_11 : decode cX12_know 11 = .ok (.istore_n 1, 1) := by decide +kernel
theorem dX12_know_12 : decode cX12_know 12 = .ok (.iload_n 1, 1) := by decide +kernel
theorem dX12_know_13 : decode cX12_know 13 = .ok (.sipush 305, 3) := by decide +kernel
theorem dX12_know_16 : decode cX12_know 16 = .ok (.if_icmp .ge 26, 3) := by decide +kernel
theorem dX12_know_19 : decode cX12_know 19 = .ok (.aload_n 0, 1) := by decide +kernel
theorem dX12_know_20 : decode cX12_know 20 = .ok (.bipush 87, 2) := by decide +kernel
theorem dX12_know_22 : decode cX12_know 22 = .ok (.iload_n 1, 1) := by decide +kernel
theorem dX12_know_23 : decode cX12_know 23 = .ok (.iadd, 1) := by decide +kernel
theorem dX12_know_24 : decode cX12_know 24 = .ok (.aload_n 0, 1) := by decide +kernel
theorem dX12_know_25 : decode cX12_know 25 = .ok (.sipush 148, 3) := by decide +kernel
theorem dX12_know_28 : decode cX12_know 28 = .ok (.iload_n 1, 1) := by decide +kernel
theorem dX12_know_29 : decode cX12_know 29 = .ok (.iadd, 1) := by decide +kernel
theorem dX12_know_30 : decode cX12_know 30 = .ok (.invokevirtual 43, 3) := by decide +kernel
theorem dX12_know_33 : decode cX12_know 33 = .ok (.invokevirtual 58, 3) := by decide +kernel
theorem dX12_know_36 : decode cX12_know 36 = .ok (.iinc 1 1, 3) := by decide +kernel
theorem dX12_know_39 : decode cX12_know 39 = .ok (.goto (-27), 3) := by decide +kernel
theorem dX12_know_42 : decode cX12_know 42 = .ok (.aload_n 0, 1) := by decide +kernel
theorem dX12_know_43 : decode cX12_know 43 = .ok (.iconst 5, 1) := by decide +kernel
theorem dX12_know_44 : decode cX12_know 44 = .ok (.iconst 5, 1) := by decide +kernel
theorem dX12_know_45 : decode cX12_know 45 = .ok (.invokevirtual 58, 3) := by decide +kernel
theorem dX12_know_48 : decode cX12_know 48 = .ok (.iconst 0, 1) := by decide +kernel
theorem dX12_know_49 : decode cX12_know 49 = .ok (.istore_n 1, 1) := by decide +kernel
theorem dX12_know_50 : decode cX12_know 50 = .ok (.iload_n 1, 1) := by decide +kernel
theorem dX12_know_51 : decode cX12_know 51 = .ok (.bipush 61, 2) := by decide +kernel
theorem dX12_know_53 : decode cX12_know 53 = .ok (.if_icmp .ge 34, 3) := by decide +kernel
theorem dX12_know_56 : decode cX12_know 56 = .ok (.aload_n 0, 1) := by decide +kernel
theorem dX12_know_57 : decode cX12_know 57 = .ok (.bipush 87, 2) := by decide +kernel
theorem dX12_know_59 : decode cX12_know 59 = .ok (.bipush 61, 2) := by decide +kernel
theorem dX12_know_61 : decode cX12_know 61 = .ok (.aload_n 0, 1) := by decide +kernel
theorem dX12_know_62 : decode cX12_know 62 = .ok (.iconst 5, 1) := by decide +kernel
theorem dX12_know_63 : decode cX12_know 63 = .ok (.invokevirtual 43, 3) := by decide +kernel
theorem dX12_know_66 : decode cX12_know 66 = .ok (.imul, 1) := by decide +kernel
theorem dX12_know_67 : decode cX12_know 67 = .ok (.iadd, 1) := by decide +kernel
theorem dX12_know_68 : decode cX12_know 68 = .ok (.iload_n 1, 1) := by decide +kernel
theorem dX12_know_69 : decode cX12_know 69 = .ok (.iadd, 1) := by decide +kernel
theorem dX12_know_70 : decode cX12_know 70 = .ok (.aload_n 0, 1) := by decide +kernel
theorem dX12_know_71 : decode cX12_know 71 = .ok (.bipush 26, 2) := by decide +kernel
theorem dX12_know_73 : decode cX12_know 73 = .ok (.iload_n 1, 1) := by decide +kernel
theorem dX12_know_74 : decode cX12_know 74 = .ok (.iadd, 1) := by decide +kernel
theorem dX12_know_75 : decode cX12_know 75 = .ok (.invokevirtual 43, 3) := by decide +kernel
theorem dX12_know_78 : decode cX12_know 78 = .ok (.invokevirtual 58, 3) := by decide +kernel
theorem dX12_know_81 : decode cX12_know 81 = .ok (.iinc 1 1, 3) := by decide +kernel
theorem dX12_know_84 : decode cX12_know 84 = .ok (.goto (-34), 3) := by decide +kernel
theorem dX12_know_87 : decode cX12_know 87 = .ok (.aload_n 0, 1) := by decide +kernel
theorem dX12_know_88 : decode cX12_know 88 = .ok (.iconst 5, 1) := by decide +kernel
theorem dX12_know_89 : decode cX12_know 89 = .ok (.aload_n 0, 1) := by decide +kernel
theorem dX12_know_90 : decode cX12_know 90 = .ok (.iconst 5, 1) := by decide +kernel
theorem dX12_know_91 : decode cX12_know 91 = .ok (.invokevirtual 43, 3) := by decide +kernel
theorem dX12_know_94 : decode cX12_know 94 = .ok (.iconst 1, 1) := by decide +kernel
theorem dX12_know_95 : decode cX12_know 95 = .ok (.iadd, 1) := by decide +kernel
theorem dX12_know_96 : decode cX12_know 96 = .ok (.invokevirtual 58, 3) := by decide +kernel
theorem dX12_know_99 : decode cX12_know 99 = .ok (.return_, 1) := by decide +kernel
theorem dX12_utter_0 : decode cX12_utter 0 = .ok (.aload_n 0, 1) := by decide +kernel
theorem dX12_utter_1 : decode cX12_utter 1 = .ok (.iload_n 1, 1) := by decide +kernel
theorem dX12_utter_2 : decode cX12_utter 2 = .ok (.invokevirtual 66, 3) := by decide +kernel
theorem dX12_utter_5 : decode cX12_utter 5 = .ok (.ifCond .ne 8, 3) := by decide +kernel
theorem dX12_utter_8 : decode cX12_utter 8 = .ok (.aload_n 0, 1) := by decide +kernel
theorem dX12_utter_9 : decode cX12_utter 9 = .ok (.invokevirtual 73, 3) := by decide +kernel
theorem dX12_utter_12 : decode cX12_utter 12 = .ok (.ireturn, 1) := by decide +kernel
theorem dX12_utter_13 : decode cX12_utter 13 = .ok (.aload_n 0, 1) := by decide +kernel
theorem dX12_utter_14 : decode cX12_utter 14 = .ok (.invokevirtual 167, 3) := by decide +kernel
theorem dX12_utter_17 : decode cX12_utter 17 = .ok (.aload_n 0, 1) := by decide +kernel
theorem dX12_utter_18 : decode cX12_utter 18 = .ok (.iconst 0, 1) := by decide +kernel
theorem dX12_utter_19 : decode cX12_utter 19 = .ok (.iload_n 1, 1) := by decide +kernel
theorem dX12_utter_20 : decode cX12_utter 20 = .ok (.invokevirtual 164, 3) := by decide +kernel
theorem dX12_utter_23 : decode cX12_utter 23 = .ok (.iconst 0, 1) := by decide +kernel
theorem dX12_utter_24 : decode cX12_utter 24 = .ok (.istore_n 2, 1) := by decide +kernel
theorem dX12_utter_25 : decode cX12_utter 25 = .ok (.iload_n 2, 1) := by decide +kernel
theorem dX12_utter_26 : decode cX12_utter 26 = .ok (.aload_n 0, 1) := by decide +kernel
theorem dX12_utter_27 : decode cX12_utter 27 = .ok (.getfield 145, 3) := by decide +kernel
theorem dX12_utter_30 : decode cX12_utter 30 = .ok (.if_icmp .ge 50, 3) := by decide +kernel
theorem dX12_utter_33 : decode cX12_utter 33 = .ok (.aload_n 0, 1) := by decide +kernel
theorem dX12_utter_34 : decode cX12_utter 34 = .ok (.bipush 26, 2) := by decide +kernel
theorem dX12_utter_36 : decode cX12_utter 36 = .ok (.aload_n 0, 1) := by decide +kernel
theorem dX12_utter_37 : decode cX12_utter 37 = .ok (.getfield 30, 3) := by decide +kernel
theorem dX12_utter_40 : decode cX12_utter 40 = .ok (.iload_n 2, 1) := by decide +kernel
theorem dX12_utter_41 : decode cX12_utter 41 = .ok (.iaload, 1) := by decide +kernel
theorem dX12_utter_42 : decode cX12_utter 42 = .ok (.iadd, 1) := by decide +kernel
theorem dX12_utter_43 : decode cX12_utter 43 = .ok (.invokevirtual 43, 3) := by decide +kernel
theorem dX12_utter_46 : decode cX12_utter 46 = .ok (.istore_n 3, 1) := by decide +kernel
theorem dX12_utter_47 : decode cX12_utter 47 = .ok (.aload_n 0, 1) := by decide +kernel
theorem dX12_utter_48 : decode cX12_utter 48 = .ok (.bipush 26, 2) := by decide +kernel
theorem dX12_utter_50 : decode cX12_utter 50 = .ok (.aload_n 0, 1) := by decide +kernel
theorem dX12_utter_51 : decode cX12_utter 51 = .ok (.getfield 30, 3) := by decide +kernel
theorem dX12_utter_54 : decode cX12_utter 54 = .ok (.iload_n 2, 1) := by decide +kernel
theorem dX12_utter_55 : decode cX12_utter 55 = .ok (.iaload, 1) := by decide +kernel
theorem dX12_utter_56 : decode cX12_utter 56 = .ok (.iadd, 1) := by decide +kernel
theorem dX12_utter_57 : decode cX12_utter 57 = .ok (.iload_n 3, 1) := by decide +kernel
theorem dX12_utter_58 : decode cX12_utter 58 = .ok (.sipush 999, 3) := by decide +kernel
theorem dX12_utter_61 : decode cX12_utter 61 = .ok (.if_icmp .ne 7, 3) := by decide +kernel
theorem dX12_utter_64 : decode cX12_utter 64 = .ok (.iload_n 3, 1) := by decide +kernel
theorem dX12_utter_65 : decode cX12_utter 65 = .ok (.goto 6, 3) := by decide +kernel
theorem dX12_utter_68 : decode cX12_utter 68 = .ok (.iload_n 3, 1) := by decide +kernel
theorem dX12_utter_69 : decode cX12_utter 69 = .ok (.iconst 1, 1) := by decide +kernel
theorem dX12_utter_70 : decode cX12_utter 70 = .ok (.iadd, 1) := by decide +kernel
theorem dX12_utter_71 : decode cX12_utter 71 = .ok (.invokevirtual 58, 3) := by decide +kernel
theorem dX12_utter_74 : decode cX12_utter 74 = .ok (.iinc 2 1, 3) := by decide +kernel
theorem dX12_utter_77 : decode cX12_utter 77 = .ok (.goto (-52), 3) := by decide +kernel
theorem dX12_utter_80 : decode cX12_utter 80 = .ok (.aload_n 0, 1) := by decide +kernel
theorem dX12_utter_81 : decode cX12_utter 81 = .ok (.getfield 145, 3) := by decide +kernel
theorem dX12_utter_84 : decode cX12_utter 84 = .ok (.ireturn, 1) := by decide +kernel
theorem dX12_uses_0 : decode cX12_uses 0 = .ok (.iload_n 1, 1) := by decide +kernel
theorem dX12_uses_1 : decode cX12_uses 1 = .ok (.iconst 0, 1) := by decide +kernel
theorem dX12_uses_2 : decode cX12_uses 2 = .ok (.bipush 9, 2) := by decide +kernel
theorem dX12_uses_4 : decode cX12_uses 4 = .ok (.invokestatic 47, 3) := by decide +kernel
theorem dX12_uses_7 : decode cX12_uses 7 = .ok (.ifCond .eq 14, 3) := by decide +kernel
theorem dX12_uses_10 : decode cX12_uses 10 = .ok (.aload_n 0, 1) := by decide +kernel
theorem dX12_uses_11 : decode cX12_uses 11 = .ok (.bipush 26, 2) := by decide +kernel
theorem dX12_uses_13 : decode cX12_uses 13 = .ok (.iload_n 1, 1) := by decide +kernel
theorem dX12_uses_14 : decode cX12_uses 14 = .ok (.iadd, 1) := by decide +kernel
theorem dX12_uses_15 : decode cX12_uses 15 = .ok (.invokevirtual 43, 3) := by decide +kernel
theorem dX12_uses_18 : decode cX12_uses 18 = .ok (.goto 7, 3) := by decide +kernel
theorem dX12_uses_21 : decode cX12_uses 21 = .ok (.aload_n 0, 1) := by decide +kernel
theorem dX12_uses_22 : decode cX12_uses 22 = .ok (.invokevirtual 73, 3) := by decide +kernel
theorem dX12_uses_25 : decode cX12_uses 25 = .ok (.ireturn, 1) := by decide +kernel
theorem dX12_year_0 : decode cX12_year 0 = .ok (.aload_n 0, 1) := by decide +kernel
theorem dX12_year_1 : decode cX12_year 1 = .ok (.invokevirtual 167, 3) := by decide +kernel
theorem dX12_year_4 : decode cX12_year 4 = .ok (.iconst 0, 1) := by decide +kernel
theorem dX12_year_5 : decode cX12_year 5 = .ok (.istore_n 1, 1) := by decide +kernel
theorem dX12_year_6 : decode cX12_year 6 = .ok (.iconst 0, 1) := by decide +kernel
theorem dX12_year_7 : decode cX12_year 7 = .ok (.istore_n 2, 1) := by decide +kernel
theorem dX12_year_8 : decode cX12_year 8 = .ok (.iload_n 2, 1) := by decide +kernel
theorem dX12_year_9 : decode cX12_year 9 = .ok (.aload_n 0, 1) := by decide +kernel
theorem dX12_year_10 : decode cX12_year 10 = .ok (.iconst 0, 1) := by decide +kernel
theorem dX12_year_11 : decode cX12_year 11 = .ok (.invokevirtual 43, 3) := by decide +kernel
theorem dX12_year_14 : decode cX12_year 14 = .ok (.if_icmp .ge 83, 3) := by decide +kernel
theorem dX12_year_17 : decode cX12_year 17 = .ok (.aload_n 0, 1) := by decide +kernel
theorem dX12_year_18 : decode cX12_year 18 = .ok (.iload_n 2, 1) := by decide +kernel
theorem dX12_year_19 : decode cX12_year 19 = .ok (.invokevirtual 51, 3) := by decide +kernel
theorem dX12_year_22 : decode cX12_year 22 = .ok (.istore_n 3, 1) := by decide +kernel
theorem dX12_year_23 : decode cX12_year 23 = .ok (.aload_n 0, 1) := by decide +kernel
theorem dX12_year_24 : decode cX12_year 24 = .ok (.bipush 36, 2) := by decide +kernel
theorem dX12_year_26 : decode cX12_year 26 = .ok (.bipush 17, 2) := by decide +kernel
theorem dX12_year_28 : decode cX12_year 28 = .ok (.iload_n 2, 1) := by decide +kernel
theorem dX12_year_29 : decode cX12_year 29 = .ok (.imul, 1) := by decide +kernel
theorem dX12_year_30 : decode cX12_year 30 = .ok (.iadd, 1) := by decide +kernel
theorem dX12_year_31 : decode cX12_year 31 = .ok (.iconst 0, 1) := by decide +kernel
theorem dX12_year_32 : decode cX12_year 32 = .ok (.invokevirtual 58, 3) := by decide +kernel
theorem dX12_year_35 : decode cX12_year 35 = .ok (.iconst 0, 1) := by decide +kernel
theorem dX12_year_36 : decode cX12_year 36 = .ok (.istore 4, 2) := by decide +kernel
theorem dX12_year_38 : decode cX12_year 38 = .ok (.iload 4, 2) := by decide +kernel
theorem dX12_year_40 : decode cX12_year 40 = .ok (.iload_n 3, 1) := by decide +kernel
theorem dX12_year_41 : decode cX12_year 41 = .ok (.if_icmp .ge 50, 3) := by decide +kernel
theorem dX12_year_44 : decode cX12_year 44 = .ok (.aload_n 0, 1) := by decide +kernel
theorem dX12_year_45 : decode cX12_year 45 = .ok (.iload_n 2, 1) := by decide +kernel
theorem dX12_year_46 : decode cX12_year 46 = .ok (.iload 4, 2) := by decide +kernel
theorem dX12_year_48 : decode cX12_year 48 = .ok (.invokevirtual 87, 3) := by decide +kernel
theorem dX12_year_51 : decode cX12_year 51 = .ok (.istore 5, 2) := by decide +kernel
theorem dX12_year_53 : decode cX12_year 53 = .ok (.aload_n 0, 1) := by decide +kernel
theorem dX12_year_54 : decode cX12_year 54 = .ok (.bipush 26, 2) := by decide +kernel
theorem dX12_year_56 : decode cX12_year 56 = .ok (.iload 5, 2) := by decide +kernel
theorem dX12_year_58 : decode cX12_year 58 = .ok (.iadd, 1) := by decide +kernel
theorem dX12_year_59 : decode cX12_year 59 = .ok (.invokevirtual 43, 3) := by decide +kernel
theorem dX12_year_62 : decode cX12_year 62 = .ok (.ifCond .le 20, 3) := by decide +kernel
theorem dX12_year_65 : decode cX12_year 65 = .ok (.aload_n 0, 1) := by decide +kernel
theorem dX12_year_66 : decode cX12_year 66 = .ok (.iload_n 2, 1) := by decide +kernel
theorem dX12_year_67 : decode cX12_year 67 = .ok (.iload 5, 2) := by decide +kernel
theorem dX12_year_69 : decode cX12_year 69 = .ok (.aload_n 0, 1) := by decide +kernel
theorem dX12_year_70 : decode cX12_year 70 = .ok (.iload_n 2, 1) := by decide +kernel
theorem dX12_year_71 : decode cX12_year 71 = .ok (.iload 4, 2) := by decide +kernel
theorem dX12_year_73 : decode cX12_year 73 = .ok (.invokevirtual 54, 3) := by decide +kernel
theorem dX12_year_76 : decode cX12_year 76 = .ok (.invokevirtual 83, 3) := by decide +kernel
theorem dX12_year_79 : decode cX12_year 79 = .ok (.goto 6, 3) := by decide +kernel
theorem dX12_year_82 : decode cX12_year 82 = .ok (.iinc 1 1, 3) := by decide +kernel
theorem dX12_year_85 : decode cX12_year 85 = .ok (.iinc 4 1, 3) := by decide +kernel
theorem dX12_year_88 : decode cX12_year 88 = .ok (.goto (-50), 3) := by decide +kernel
theorem dX12_year_91 : decode cX12_year 91 = .ok (.iinc 2 1, 3) := by decide +kernel
theorem dX12_year_94 : decode cX12_year 94 = .ok (.goto (-86), 3) := by decide +kernel
theorem dX12_year_97 : decode cX12_year 97 = .ok (.iconst 0, 1) := by decide +kernel
theorem dX12_year_98 : decode cX12_year 98 = .ok (.istore_n 2, 1) := by decide +kernel
theorem dX12_year_99 : decode cX12_year 99 = .ok (.iload_n 2, 1) := by decide +kernel
theorem dX12_year_100 : decode cX12_year 100 = .ok (.bipush 10, 2) := by decide +kernel
theorem dX12_year_102 : decode cX12_year 102 = .ok (.if_icmp .ge 18, 3) := by decide +kernel
theorem dX12_year_105 : decode cX12_year 105 = .ok (.aload_n 0, 1) := by decide +kernel
theorem dX12_year_106 : decode cX12_year 106 = .ok (.bipush 26, 2) := by decide +kernel
theorem dX12_year_108 : decode cX12_year 108 = .ok (.iload_n 2, 1) := by decide +kernel
theorem dX12_year_109 : decode cX12_year 109 = .ok (.iadd, 1) := by decide +kernel
theorem dX12_year_110 : decode cX12_year 110 = .ok (.iconst 0, 1) := by decide +kernel
theorem dX12_year_111 : decode cX12_year 111 = .ok (.invokevirtual 58, 3) := by decide +kernel
theorem dX12_year_114 : decode cX12_year 114 = .ok (.iinc 2 1, 3) := by decide +kernel
theorem dX12_year_117 : decode cX12_year 117 = .ok (.goto (-18), 3) := by decide +kernel
theorem dX12_year_120 : decode cX12_year 120 = .ok (.iload_n 1, 1) := by decide +kernel
theorem dX12_year_121 : decode cX12_year 121 = .ok (.ireturn, 1) := by decide +kernel
theorem dX12_undo_0 : decode cX12_undo 0 = .ok (.aload_n 0, 1) := by decide +kernel
theorem dX12_undo_1 : decode cX12_undo 1 = .ok (.iconst 5, 1) := by decide +kernel
theorem dX12_undo_2 : decode cX12_undo 2 = .ok (.invokevirtual 43, 3) := by decide +kernel
theorem dX12_undo_5 : decode cX12_undo 5 = .ok (.ifCond .ne 8, 3) := by decide +kernel
theorem dX12_undo_8 : decode cX12_undo 8 = .ok (.aload_n 0, 1) := by decide +kernel
theorem dX12_undo_9 : decode cX12_undo 9 = .ok (.invokevirtual 80, 3) := by decide +kernel
theorem dX12_undo_12 : decode cX12_undo 12 = .ok (.ireturn, 1) := by decide +kernel
theorem dX12_undo_13 : decode cX12_undo 13 = .ok (.aload_n 0, 1) := by decide +kernel
theorem dX12_undo_14 : decode cX12_undo 14 = .ok (.iconst 5, 1) := by decide +kernel
theorem dX12_undo_15 : decode cX12_undo 15 = .ok (.aload_n 0, 1) := by decide +kernel
theorem dX12_undo_16 : decode cX12_undo 16 = .ok (.iconst 5, 1) := by decide +kernel
theorem dX12_undo_17 : decode cX12_undo 17 = .ok (.invokevirtual 43, 3) := by decide +kernel
theorem dX12_undo_20 : decode cX12_undo 20 = .ok (.iconst 1, 1) := by decide +kernel
theorem dX12_undo_21 : decode cX12_undo 21 = .ok (.isub, 1) := by decide +kernel
theorem dX12_undo_22 : decode cX12_undo 22 = .ok (.invokevirtual 58, 3) := by decide +kernel
theorem dX12_undo_25 : decode cX12_undo 25 = .ok (.iconst 0, 1) := by decide +kernel
theorem dX12_undo_26 : decode cX12_undo 26 = .ok (.istore_n 1, 1) := by decide +kernel
theorem dX12_undo_27 : decode cX12_undo 27 = .ok (.iload_n 1, 1) := by decide +kernel
theorem dX12_undo_28 : decode cX12_undo 28 = .ok (.bipush 61, 2) := by decide +kernel
theorem dX12_undo_30 : decode cX12_undo 30 = .ok (.if_icmp .ge 34, 3) := by decide +kernel
theorem dX12_undo_33 : decode cX12_undo 33 = .ok (.aload_n 0, 1) := by decide +kernel
theorem dX12_undo_34 : decode cX12_undo 34 = .ok (.bipush 26, 2) := by decide +kernel
theorem dX12_undo_36 : decode cX12_undo 36 = .ok (.iload_n 1, 1) := by decide +kernel
theorem dX12_undo_37 : decode cX12_undo 37 = .ok (.iadd, 1) := by decide +kernel
theorem dX12_undo_38 : decode cX12_undo 38 = .ok (.aload_n 0, 1) := by decide +kernel
theorem dX12_undo_39 : decode cX12_undo 39 = .ok (.bipush 87, 2) := by decide +kernel
theorem dX12_undo_41 : decode cX12_undo 41 = .ok (.bipush 61, 2) := by decide +kernel
theorem dX12_undo_43 : decode cX12_undo 43 = .ok (.aload_n 0, 1) := by decide +kernel
theorem dX12_undo_44 : decode cX12_undo 44 = .ok (.iconst 5, 1) := by decide +kernel
theorem dX12_undo_45 : decode cX12_undo 45 = .ok (.invokevirtual 43, 3) := by decide +kernel
theorem dX12_undo_48 : decode cX12_undo 48 = .ok (.imul, 1) := by decide +kernel
theorem dX12_undo_49 : decode cX12_undo 49 = .ok (.iadd, 1) := by decide +kernel
theorem dX12_undo_50 : decode cX12_undo 50 = .ok (.iload_n 1, 1) := by decide +kernel
theorem dX12_undo_51 : decode cX12_undo 51 = .ok (.iadd, 1) := by decide +kernel
theorem dX12_undo_52 : decode cX12_undo 52 = .ok (.invokevirtual 43, 3) := by decide +kernel
theorem dX12_undo_55 : decode cX12_undo 55 = .ok (.invokevirtual 58, 3) := by decide +kernel
theorem dX12_undo_58 : decode cX12_undo 58 = .ok (.iinc 1 1, 3) := by decide +kernel
theorem dX12_undo_61 : decode cX12_undo 61 = .ok (.goto (-34), 3) := by decide +kernel
theorem dX12_undo_64 : decode cX12_undo 64 = .ok (.iconst 1, 1) := by decide +kernel
theorem dX12_undo_65 : decode cX12_undo 65 = .ok (.ireturn, 1) := by decide +kernel
theorem dX12_want_0 : decode cX12_want 0 = .ok (.iload_n 1, 1) := by decide +kernel
theorem dX12_want_1 : decode cX12_want 1 = .ok (.iconst 0, 1) := by decide +kernel
theorem dX12_want_2 : decode cX12_want 2 = .ok (.bipush 9, 2) := by decide +kernel
theorem dX12_want_4 : decode cX12_want 4 = .ok (.invokestatic 47, 3) := by decide +kernel
theorem dX12_want_7 : decode cX12_want 7 = .ok (.ifCond .ne 8, 3) := by decide +kernel
theorem dX12_want_10 : decode cX12_want 10 = .ok (.aload_n 0, 1) := by decide +kernel
theorem dX12_want_11 : decode cX12_want 11 = .ok (.invokevirtual 73, 3) := by decide +kernel
theorem dX12_want_14 : decode cX12_want 14 = .ok (.ireturn, 1) := by decide +kernel
theorem dX12_want_15 : decode cX12_want 15 = .ok (.aload_n 0, 1) := by decide +kernel
theorem dX12_want_16 : decode cX12_want 16 = .ok (.iconst 3, 1) := by decide +kernel
theorem dX12_want_17 : decode cX12_want 17 = .ok (.invokevirtual 43, 3) := by decide +kernel
theorem dX12_want_20 : decode cX12_want 20 = .ok (.iconst 4, 1) := by decide +kernel
theorem dX12_want_21 : decode cX12_want 21 = .ok (.if_icmp .ne 8, 3) := by decide +kernel
theorem dX12_want_24 : decode cX12_want 24 = .ok (.aload_n 0, 1) := by decide +kernel
theorem dX12_want_25 : decode cX12_want 25 = .ok (.invokevirtual 62, 3) := by decide +kernel
theorem dX12_want_28 : decode cX12_want 28 = .ok (.ireturn, 1) := by decide +kernel
theorem dX12_want_29 : decode cX12_want 29 = .ok (.aload_n 0, 1) := by decide +kernel
theorem dX12_want_30 : decode cX12_want 30 = .ok (.bipush 6, 2) := by decide +kernel
theorem dX12_want_32 : decode cX12_want 32 = .ok (.aload_n 0, 1) := by decide +kernel
theorem dX12_want_33 : decode cX12_want 33 = .ok (.iconst 3, 1) := by decide +kernel
theorem dX12_want_34 : decode cX12_want 34 = .ok (.invokevirtual 43, 3) := by decide +kernel
theorem dX12_want_37 : decode cX12_want 37 = .ok (.iadd, 1) := by decide +kernel
theorem dX12_want_38 : decode cX12_want 38 = .ok (.iload_n 1, 1) := by decide +kernel
theorem dX12_want_39 : decode cX12_want 39 = .ok (.invokevirtual 58, 3) := by decide +kernel
theorem dX12_want_42 : decode cX12_want 42 = .ok (.aload_n 0, 1) := by decide +kernel
theorem dX12_want_43 : decode cX12_want 43 = .ok (.iconst 3, 1) := by decide +kernel
theorem dX12_want_44 : decode cX12_want 44 = .ok (.aload_n 0, 1) := by decide +kernel
theorem dX12_want_45 : decode cX12_want 45 = .ok (.iconst 3, 1) := by decide +kernel
theorem dX12_want_46 : decode cX12_want 46 = .ok (.invokevirtual 43, 3) := by decide +kernel
theorem dX12_want_49 : decode cX12_want 49 = .ok (.iconst 1, 1) := by decide +kernel
theorem dX12_want_50 : decode cX12_want 50 = .ok (.iadd, 1) := by decide +kernel
theorem dX12_want_51 : decode cX12_want 51 = .ok (.invokevirtual 58, 3) := by decide +kernel
theorem dX12_want_54 : decode cX12_want 54 = .ok (.aload_n 0, 1) := by decide +kernel
theorem dX12_want_55 : decode cX12_want 55 = .ok (.iconst 3, 1) := by decide +kernel
theorem dX12_want_56 : decode cX12_want 56 = .ok (.invokevirtual 43, 3) := by decide +kernel
theorem dX12_want_59 : decode cX12_want 59 = .ok (.ireturn, 1) := by decide +kernel
theorem dX12_forget_0 : decode cX12_forget 0 = .ok (.aload_n 0, 1) := by decide +kernel
theorem dX12_forget_1 : decode cX12_forget 1 = .ok (.iconst 3, 1) := by decide +kernel
theorem dX12_forget_2 : decode cX12_forget 2 = .ok (.invokevirtual 43, 3) := by decide +kernel
theorem dX12_forget_5 : decode cX12_forget 5 = .ok (.istore_n 1, 1) := by decide +kernel
theorem dX12_forget_6 : decode cX12_forget 6 = .ok (.aload_n 0, 1) := by decide +kernel
theorem dX12_forget_7 : decode cX12_forget 7 = .ok (.iconst 3, 1) := by decide +kernel
theorem dX12_forget_8 : decode cX12_forget 8 = .ok (.iconst 0, 1) := by decide +kernel
theorem dX12_forget_9 : decode cX12_forget 9 = .ok (.invokevirtual 58, 3) := by decide +kernel
theorem dX12_forget_12 : decode cX12_forget 12 = .ok (.iload_n 1, 1) := by decide +kernel
theorem dX12_forget_13 : decode cX12_forget 13 = .ok (.ireturn, 1) := by decide +kernel
theorem dX12_readsWant_0 : decode cX12_readsWant 0 = .ok (.aload_n 0, 1) := by decide +kernel
theorem dX12_readsWant_1 : decode cX12_readsWant 1 = .ok (.getfield 145, 3) := by decide +kernel
theorem dX12_readsWant_4 : decode cX12_readsWant 4 = .ok (.aload_n 0, 1) := by decide +kernel
theorem dX12_readsWant_5 : decode cX12_readsWant 5 = .ok (.iconst 3, 1) := by decide +kernel
theorem dX12_readsWant_6 : decode cX12_readsWant 6 = .ok (.invokevirtual 43, 3) := by decide +kernel
theorem dX12_readsWant_9 : decode cX12_readsWant 9 = .ok (.if_icmp .ne 7, 3) := by decide +kernel
theorem dX12_readsWant_12 : decode cX12_readsWant 12 = .ok (.iconst 1, 1) := by decide +kernel
theorem dX12_readsWant_13 : decode cX12_readsWant 13 = .ok (.goto 4, 3) := by decide +kernel
theorem dX12_readsWant_16 : decode cX12_readsWant 16 = .ok (.iconst 0, 1) := by decide +kernel
theorem dX12_readsWant_17 : decode cX12_readsWant 17 = .ok (.istore_n 1, 1) := by decide +kernel
theorem dX12_readsWant_18 : decode cX12_readsWant 18 = .ok (.iconst 0, 1) := by decide +kernel
theorem dX12_readsWant_19 : decode cX12_readsWant 19 = .ok (.istore_n 2, 1) := by decide +kernel
theorem dX12_readsWant_20 : decode cX12_readsWant 20 = .ok (.iload_n 2, 1) := by decide +kernel
theorem dX12_readsWant_21 : decode cX12_readsWant 21 = .ok (.aload_n 0, 1) := by decide +kernel
theorem dX12_readsWant_22 : decode cX12_readsWant 22 = .ok (.getfield 145, 3) := by decide +kernel
theorem dX12_readsWant_25 : decode cX12_readsWant 25 = .ok (.if_icmp .ge 36, 3) := by decide +kernel
theorem dX12_readsWant_28 : decode cX12_readsWant 28 = .ok (.iload_n 1, 1) := by decide +kernel
theorem dX12_readsWant_29 : decode cX12_readsWant 29 = .ok (.ifCond .eq 32, 3) := by decide +kernel
theorem dX12_readsWant_32 : decode cX12_readsWant 32 = .ok (.aload_n 0, 1) := by decide +kernel
theorem dX12_readsWant_33 : decode cX12_readsWant 33 = .ok (.getfield 30, 3) := by decide +kernel
theorem dX12_readsWant_36 : decode cX12_readsWant 36 = .ok (.iload_n 2, 1) := by decide +kernel
theorem dX12_readsWant_37 : decode cX12_readsWant 37 = .ok (.iaload, 1) := by decide +kernel
theorem dX12_readsWant_38 : decode cX12_readsWant 38 = .ok (.aload_n 0, 1) := by decide +kernel
theorem dX12_readsWant_39 : decode cX12_readsWant 39 = .ok (.bipush 6, 2) := by decide +kernel
theorem dX12_readsWant_41 : decode cX12_readsWant 41 = .ok (.iload_n 2, 1) := by decide +kernel
theorem dX12_readsWant_42 : decode cX12_readsWant 42 = .ok (.iadd, 1) := by decide +kernel
theorem dX12_readsWant_43 : decode cX12_readsWant 43 = .ok (.invokevirtual 43, 3) := by decide +kernel
theorem dX12_readsWant_46 : decode cX12_readsWant 46 = .ok (.if_icmp .ne 7, 3) := by decide +kernel
theorem dX12_readsWant_49 : decode cX12_readsWant 49 = .ok (.iconst 1, 1) := by decide +kernel
theorem dX12_readsWant_50 : decode cX12_readsWant 50 = .ok (.goto 4, 3) := by decide +kernel
theorem dX12_readsWant_53 : decode cX12_readsWant 53 = .ok (.iconst 0, 1) := by decide +kernel
theorem dX12_readsWant_54 : decode cX12_readsWant 54 = .ok (.istore_n 1, 1) := by decide +kernel
theorem dX12_readsWant_55 : decode cX12_readsWant 55 = .ok (.iinc 2 1, 3) := by decide +kernel
theorem dX12_readsWant_58 : decode cX12_readsWant 58 = .ok (.goto (-38), 3) := by decide +kernel
theorem dX12_readsWant_61 : decode cX12_readsWant 61 = .ok (.iload_n 1, 1) := by decide +kernel
theorem dX12_readsWant_62 : decode cX12_readsWant 62 = .ok (.ireturn, 1) := by decide +kernel
theorem dX12_madeRow_0 : decode cX12_madeRow 0 = .ok (.iconst 1, 1) := by decide +kernel
theorem dX12_madeRow_1 : decode cX12_madeRow 1 = .ok (.istore_n 1, 1) := by decide +kernel
theorem dX12_madeRow_2 : decode cX12_madeRow 2 = .ok (.iconst 0, 1) := by decide +kernel
theorem dX12_madeRow_3 : decode cX12_madeRow 3 = .ok (.istore_n 2, 1) := by decide +kernel
theorem dX12_madeRow_4 : decode cX12_madeRow 4 = .ok (.iload_n 2, 1) := by decide +kernel
theorem dX12_madeRow_5 : decode cX12_madeRow 5 = .ok (.aload_n 0, 1) := by decide +kernel
theorem dX12_madeRow_6 : decode cX12_madeRow 6 = .ok (.getfield 132, 3) := by decide +kernel
theorem dX12_madeRow_9 : decode cX12_madeRow 9 = .ok (.if_icmp .ge 21, 3) := by decide +kernel
theorem dX12_madeRow_12 : decode cX12_madeRow 12 = .ok (.bipush 12, 2) := by decide +kernel
theorem dX12_madeRow_14 : decode cX12_madeRow 14 = .ok (.iload_n 1, 1) := by decide +kernel
theorem dX12_madeRow_15 : decode cX12_madeRow 15 = .ok (.imul, 1) := by decide +kernel
theorem dX12_madeRow_16 : decode cX12_madeRow 16 = .ok (.aload_n 0, 1) := by decide +kernel
theorem dX12_madeRow_17 : decode cX12_madeRow 17 = .ok (.getfield 24, 3) := by decide +kernel
theorem dX12_madeRow_20 : decode cX12_madeRow 20 = .ok (.iload_n 2, 1) := by decide +kernel
theorem dX12_madeRow_21 : decode cX12_madeRow 21 = .ok (.iaload, 1) := by decide +kernel
theorem dX12_madeRow_22 : decode cX12_madeRow 22 = .ok (.iadd, 1) := by decide +kernel
theorem dX12_madeRow_23 : decode cX12_madeRow 23 = .ok (.istore_n 1, 1) := by decide +kernel
theorem dX12_madeRow_24 : decode cX12_madeRow 24 = .ok (.iinc 2 1, 3) := by decide +kernel
theorem dX12_madeRow_27 : decode cX12_madeRow 27 = .ok (.goto (-23), 3) := by decide +kernel
theorem dX12_madeRow_30 : decode cX12_madeRow 30 = .ok (.iload_n 1, 1) := by decide +kernel
theorem dX12_madeRow_31 : decode cX12_madeRow 31 = .ok (.ireturn, 1) := by decide +kernel
theorem dX12_goOn_0 : decode cX12_goOn 0 = .ok (.iload_n 1, 1) := by decide +kernel
theorem dX12_goOn_1 : decode cX12_goOn 1 = .ok (.istore_n 2, 1) := by decide +kernel
theorem dX12_goOn_2 : decode cX12_goOn 2 = .ok (.iload_n 2, 1) := by decide +kernel
theorem dX12_goOn_3 : decode cX12_goOn 3 = .ok (.ifCond .lt 111, 3) := by decide +kernel
theorem dX12_goOn_6 : decode cX12_goOn 6 = .ok (.aload_n 0, 1) := by decide +kernel
theorem dX12_goOn_7 : decode cX12_goOn 7 = .ok (.getfield 24, 3) := by decide +kernel
theorem dX12_goOn_10 : decode cX12_goOn 10 = .ok (.iload_n 2, 1) := by decide +kernel
theorem dX12_goOn_11 : decode cX12_goOn 11 = .ok (.dup2, 1) := by decide +kernel
theorem dX12_goOn_12 : decode cX12_goOn 12 = .ok (.iaload, 1) := by decide +kernel
theorem dX12_goOn_13 : decode cX12_goOn 13 = .ok (.iconst 1, 1) := by decide +kernel
theorem dX12_goOn_14 : decode cX12_goOn 14 = .ok (.iadd, 1) := by decide +kernel
theorem dX12_goOn_15 : decode cX12_goOn 15 = .ok (.iastore, 1) := by decide +kernel
theorem dX12_goOn_16 : decode cX12_goOn 16 = .ok (.aload_n 0, 1) := by decide +kernel
theorem dX12_goOn_17 : decode cX12_goOn 17 = .ok (.getfield 24, 3) := by decide +kernel
theorem dX12_goOn_20 : decode cX12_goOn 20 = .ok (.iload_n 2, 1) := by decide +kernel
theorem dX12_goOn_21 : decode cX12_goOn 21 = .ok (.iaload, 1) := by decide +kernel
theorem dX12_goOn_22 : decode cX12_goOn 22 = .ok (.bipush 12, 2) := by decide +kernel
theorem dX12_goOn_24 : decode cX12_goOn 24 = .ok (.if_icmp .ne 9, 3) := by decide +kernel
theorem dX12_goOn_27 : decode cX12_goOn 27 = .ok (.iinc 2 (-1), 3) := by decide +kernel
theorem dX12_goOn_30 : decode cX12_goOn 30 = .ok (.goto (-28), 3) := by decide +kernel
theorem dX12_goOn_33 : decode cX12_goOn 33 = .ok (.iload_n 2, 1) := by decide +kernel
theorem dX12_goOn_34 : decode cX12_goOn 34 = .ok (.ifCond .eq 23, 3) := by decide +kernel
theorem dX12_goOn_37 : decode cX12_goOn 37 = .ok (.aload_n 0, 1) := by decide +kernel
theorem dX12_goOn_38 : decode cX12_goOn 38 = .ok (.getfield 24, 3) := by decide +kernel
theorem dX12_goOn_41 : decode cX12_goOn 41 = .ok (.iload_n 2, 1) := by decide +kernel
theorem dX12_goOn_42 : decode cX12_goOn 42 = .ok (.iconst 1, 1) := by decide +kernel
theorem dX12_goOn_43 : decode cX12_goOn 43 = .ok (.isub, 1) := by decide +kernel
theorem dX12_goOn_44 : decode cX12_goOn 44 = .ok (.iaload, 1) := by decide +kernel
theorem dX12_goOn_45 : decode cX12_goOn 45 = .ok (.aload_n 0, 1) := by decide +kernel
theorem dX12_goOn_46 : decode cX12_goOn 46 = .ok (.getfield 24, 3) := by decide +kernel
theorem dX12_goOn_49 : decode cX12_goOn 49 = .ok (.iload_n 2, 1) := by decide +kernel
theorem dX12_goOn_50 : decode cX12_goOn 50 = .ok (.iaload, 1) := by decide +kernel
theorem dX12_goOn_51 : decode cX12_goOn 51 = .ok (.invokestatic 151, 3) := by decide +kernel
theorem dX12_goOn_54 : decode cX12_goOn 54 = .ok (.ifCond .eq (-52), 3) := by decide +kernel
theorem dX12_goOn_57 : decode cX12_goOn 57 = .ok (.iload_n 2, 1) := by decide +kernel
theorem dX12_goOn_58 : decode cX12_goOn 58 = .ok (.iconst 1, 1) := by decide +kernel
theorem dX12_goOn_59 : decode cX12_goOn 59 = .ok (.iadd, 1) := by decide +kernel
theorem dX12_goOn_60 : decode cX12_goOn 60 = .ok (.istore_n 3, 1) := by decide +kernel
theorem dX12_goOn_61 : decode cX12_goOn 61 = .ok (.iload_n 3, 1) := by decide +kernel
theorem dX12_goOn_62 : decode cX12_goOn 62 = .ok (.aload_n 0, 1) := by decide +kernel
theorem dX12_goOn_63 : decode cX12_goOn 63 = .ok (.getfield 132, 3) := by decide +kernel
theorem dX12_goOn_66 : decode cX12_goOn 66 = .ok (.if_icmp .ge 46, 3) := by decide +kernel
theorem dX12_goOn_69 : decode cX12_goOn 69 = .ok (.aload_n 0, 1) := by decide +kernel
theorem dX12_goOn_70 : decode cX12_goOn 70 = .ok (.getfield 24, 3) := by decide +kernel
theorem dX12_goOn_73 : decode cX12_goOn 73 = .ok (.iload_n 3, 1) := by decide +kernel
theorem dX12_goOn_74 : decode cX12_goOn 74 = .ok (.aload_n 0, 1) := by decide +kernel
theorem dX12_goOn_75 : decode cX12_goOn 75 = .ok (.getfield 24, 3) := by decide +kernel
theorem dX12_goOn_78 : decode cX12_goOn 78 = .ok (.iload_n 3, 1) := by decide +kernel
theorem dX12_goOn_79 : decode cX12_goOn 79 = .ok (.iconst 1, 1) := by decide +kernel
theorem dX12_goOn_80 : decode cX12_goOn 80 = .ok (.isub, 1) := by decide +kernel
theorem dX12_goOn_81 : decode cX12_goOn 81 = .ok (.iaload, 1) := by decide +kernel
theorem dX12_goOn_82 : decode cX12_goOn 82 = .ok (.iconst 2, 1) := by decide +kernel
theorem dX12_goOn_83 : decode cX12_goOn 83 = .ok (.idiv, 1) := by decide +kernel
theorem dX12_goOn_84 : decode cX12_goOn 84 = .ok (.ifCond .ne 7, 3) := by decide +kernel
theorem dX12_goOn_87 : decode cX12_goOn 87 = .ok (.iconst 0, 1) := by decide +kernel
theorem dX12_goOn_88 : decode cX12_goOn 88 = .ok (.goto 17, 3) := by decide +kernel
theorem dX12_goOn_91 : decode cX12_goOn 91 = .ok (.iconst 2, 1) := by decide +kernel
theorem dX12_goOn_92 : decode cX12_goOn 92 = .ok (.aload_n 0, 1) := by decide +kernel
theorem dX12_goOn_93 : decode cX12_goOn 93 = .ok (.getfield 24, 3) := by decide +kernel
theorem dX12_goOn_96 : decode cX12_goOn 96 = .ok (.iload_n 3, 1) := by decide +kernel
theorem dX12_goOn_97 : decode cX12_goOn 97 = .ok (.iconst 1, 1) := by decide +kernel
theorem dX12_goOn_98 : decode cX12_goOn 98 = .ok (.isub, 1) := by decide +kernel
theorem dX12_goOn_99 : decode cX12_goOn 99 = .ok (.iaload, 1) := by decide +kernel
theorem dX12_goOn_100 : decode cX12_goOn 100 = .ok (.iconst 2, 1) := by decide +kernel
theorem dX12_goOn_101 : decode cX12_goOn 101 = .ok (.idiv, 1) := by decide +kernel
theorem dX12_goOn_102 : decode cX12_goOn 102 = .ok (.iconst 1, 1) := by decide +kernel
theorem dX12_goOn_103 : decode cX12_goOn 103 = .ok (.isub, 1) := by decide +kernel
theorem dX12_goOn_104 : decode cX12_goOn 104 = .ok (.imul, 1) := by decide +kernel
theorem dX12_goOn_105 : decode cX12_goOn 105 = .ok (.iastore, 1) := by decide +kernel
theorem dX12_goOn_106 : decode cX12_goOn 106 = .ok (.iinc 3 1, 3) := by decide +kernel
theorem dX12_goOn_109 : decode cX12_goOn 109 = .ok (.goto (-48), 3) := by decide +kernel
theorem dX12_goOn_112 : decode cX12_goOn 112 = .ok (.iconst 1, 1) := by decide +kernel
theorem dX12_goOn_113 : decode cX12_goOn 113 = .ok (.ireturn, 1) := by decide +kernel
theorem dX12_goOn_114 : decode cX12_goOn 114 = .ok (.iconst 0, 1) := by decide +kernel
theorem dX12_goOn_115 : decode cX12_goOn 115 = .ok (.ireturn, 1) := by decide +kernel
theorem dX12_makeLeast_0 : decode cX12_makeLeast 0 = .ok (.aload_n 0, 1) := by decide +kernel
theorem dX12_makeLeast_1 : decode cX12_makeLeast 1 = .ok (.iload_n 1, 1) := by decide +kernel
theorem dX12_makeLeast_2 : decode cX12_makeLeast 2 = .ok (.putfield 132, 3) := by decide +kernel
theorem dX12_makeLeast_5 : decode cX12_makeLeast 5 = .ok (.iconst 0, 1) := by decide +kernel
theorem dX12_makeLeast_6 : decode cX12_makeLeast 6 = .ok (.istore_n 2, 1) := by decide +kernel
theorem dX12_makeLeast_7 : decode cX12_makeLeast 7 = .ok (.iload_n 2, 1) := by decide +kernel
theorem dX12_makeLeast_8 : decode cX12_makeLeast 8 = .ok (.iload_n 1, 1) := by decide +kernel
theorem dX12_makeLeast_9 : decode cX12_makeLeast 9 = .ok (.if_icmp .ge 16, 3) := by decide +kernel
theorem dX12_makeLeast_12 : decode cX12_makeLeast 12 = .ok (.aload_n 0, 1) := by decide +kernel
theorem dX12_makeLeast_13 : decode cX12_makeLeast 13 = .ok (.getfield 24, 3) := by decide +kernel
theorem dX12_makeLeast_16 : decode cX12_makeLeast 16 = .ok (.iload_n 2, 1) := by decide +kernel
theorem dX12_makeLeast_17 : decode cX12_makeLeast 17 = .ok (.iconst 0, 1) := by decide +kernel
theorem dX12_makeLeast_18 : decode cX12_makeLeast 18 = .ok (.iastore, 1) := by decide +kernel
theorem dX12_makeLeast_19 : decode cX12_makeLeast 19 = .ok (.iinc 2 1, 3) := by decide +kernel
theorem dX12_makeLeast_22 : decode cX12_makeLeast 22 = .ok (.goto (-15), 3) := by decide +kernel
theorem dX12_makeLeast_25 : decode cX12_makeLeast 25 = .ok (.return_, 1) := by decide +kernel
theorem dX12_hide_0 : decode cX12_hide 0 = .ok (.aload_n 0, 1) := by decide +kernel
theorem dX12_hide_1 : decode cX12_hide 1 = .ok (.iload_n 1, 1) := by decide +kernel
theorem dX12_hide_2 : decode cX12_hide 2 = .ok (.invokevirtual 66, 3) := by decide +kernel
theorem dX12_hide_5 : decode cX12_hide 5 = .ok (.ifCond .eq 20, 3) := by decide +kernel
theorem dX12_hide_8 : decode cX12_hide 8 = .ok (.aload_n 0, 1) := by decide +kernel
theorem dX12_hide_9 : decode cX12_hide 9 = .ok (.iload_n 2, 1) := by decide +kernel
theorem dX12_hide_10 : decode cX12_hide 10 = .ok (.invokevirtual 66, 3) := by decide +kernel
theorem dX12_hide_13 : decode cX12_hide 13 = .ok (.ifCond .eq 12, 3) := by decide +kernel
theorem dX12_hide_16 : decode cX12_hide 16 = .ok (.iload_n 3, 1) := by decide +kernel
theorem dX12_hide_17 : decode cX12_hide 17 = .ok (.iconst 0, 1) := by decide +kernel
theorem dX12_hide_18 : decode cX12_hide 18 = .ok (.iconst 5, 1) := by decide +kernel
theorem dX12_hide_19 : decode cX12_hide 19 = .ok (.invokestatic 47, 3) := by decide +kernel
theorem dX12_hide_22 : decode cX12_hide 22 = .ok (.ifCond .ne 11, 3) := by decide +kernel
theorem dX12_hide_25 : decode cX12_hide 25 = .ok (.aload_n 0, 1) := by decide +kernel
theorem dX12_hide_26 : decode cX12_hide 26 = .ok (.invokevirtual 73, 3) := by decide +kernel
theorem dX12_hide_29 : decode cX12_hide 29 = .ok (.pop, 1) := by decide +kernel
theorem dX12_hide_30 : decode cX12_hide 30 = .ok (.bipush (-10), 2) := by decide +kernel
theorem dX12_hide_32 : decode cX12_hide 32 = .ok (.ireturn, 1) := by decide +kernel
theorem dX12_hide_33 : decode cX12_hide 33 = .ok (.iconst 1, 1) := by decide +kernel
theorem dX12_hide_34 : decode cX12_hide 34 = .ok (.istore 4, 2) := by decide +kernel
theorem dX12_hide_36 : decode cX12_hide 36 = .ok (.iload 4, 2) := by decide +kernel
theorem dX12_hide_38 : decode cX12_hide 38 = .ok (.bipush 6, 2) := by decide +kernel
theorem dX12_hide_40 : decode cX12_hide 40 = .ok (.if_icmp .ge 70, 3) := by decide +kernel
theorem dX12_hide_43 : decode cX12_hide 43 = .ok (.aload_n 0, 1) := by decide +kernel
theorem dX12_hide_44 : decode cX12_hide 44 = .ok (.iload 4, 2) := by decide +kernel
theorem dX12_hide_46 : decode cX12_hide 46 = .ok (.invokevirtual 170, 3) := by decide +kernel
theorem dX12_hide_49 : decode cX12_hide 49 = .ok (.iconst 1, 1) := by decide +kernel
theorem dX12_hide_50 : decode cX12_hide 50 = .ok (.istore 5, 2) := by decide +kernel
theorem dX12_hide_52 : decode cX12_hide 52 = .ok (.iload 5, 2) := by decide +kernel
theorem dX12_hide_54 : decode cX12_hide 54 = .ok (.ifCond .eq 50, 3) := by decide +kernel
theorem dX12_hide_57 : decode cX12_hide 57 = .ok (.aload_n 0, 1) := by decide +kernel
theorem dX12_hide_58 : decode cX12_hide 58 = .ok (.iconst 0, 1) := by decide +kernel
theorem dX12_hide_59 : decode cX12_hide 59 = .ok (.iload_n 1, 1) := by decide +kernel
theorem dX12_hide_60 : decode cX12_hide 60 = .ok (.iconst 0, 1) := by decide +kernel
theorem dX12_hide_61 : decode cX12_hide 61 = .ok (.invokevirtual 158, 3) := by decide +kernel
theorem dX12_hide_64 : decode cX12_hide 64 = .ok (.aload_n 0, 1) := by decide +kernel
theorem dX12_hide_65 : decode cX12_hide 65 = .ok (.invokevirtual 173, 3) := by decide +kernel
theorem dX12_hide_68 : decode cX12_hide 68 = .ok (.ifCond .eq 23, 3) := by decide +kernel
theorem dX12_hide_71 : decode cX12_hide 71 = .ok (.aload_n 0, 1) := by decide +kernel
theorem dX12_hide_72 : decode cX12_hide 72 = .ok (.iconst 2, 1) := by decide +kernel
theorem dX12_hide_73 : decode cX12_hide 73 = .ok (.iload_n 2, 1) := by decide +kernel
theorem dX12_hide_74 : decode cX12_hide 74 = .ok (.iconst 0, 1) := by decide +kernel
theorem dX12_hide_75 : decode cX12_hide 75 = .ok (.invokevirtual 158, 3) := by decide +kernel
theorem dX12_hide_78 : decode cX12_hide 78 = .ok (.aload_n 0, 1) := by decide +kernel
theorem dX12_hide_79 : decode cX12_hide 79 = .ok (.getfield 145, 3) := by decide +kernel
theorem dX12_hide_82 : decode cX12_hide 82 = .ok (.iload_n 3, 1) := by decide +kernel
theorem dX12_hide_83 : decode cX12_hide 83 = .ok (.if_icmp .gt 8, 3) := by decide +kernel
theorem dX12_hide_86 : decode cX12_hide 86 = .ok (.aload_n 0, 1) := by decide +kernel
theorem dX12_hide_87 : decode cX12_hide 87 = .ok (.invokevirtual 177, 3) := by decide +kernel
theorem dX12_hide_90 : decode cX12_hide 90 = .ok (.ireturn, 1) := by decide +kernel
theorem dX12_hide_91 : decode cX12_hide 91 = .ok (.aload_n 0, 1) := by decide +kernel
theorem dX12_hide_92 : decode cX12_hide 92 = .ok (.iload 4, 2) := by decide +kernel
theorem dX12_hide_94 : decode cX12_hide 94 = .ok (.iconst 1, 1) := by decide +kernel
theorem dX12_hide_95 : decode cX12_hide 95 = .ok (.isub, 1) := by decide +kernel
theorem dX12_hide_96 : decode cX12_hide 96 = .ok (.invokevirtual 180, 3) := by decide +kernel
theorem dX12_hide_99 : decode cX12_hide 99 = .ok (.istore 5, 2) := by decide +kernel
theorem dX12_hide_101 : decode cX12_hide 101 = .ok (.goto (-49), 3) := by decide +kernel
theorem dX12_hide_104 : decode cX12_hide 104 = .ok (.iinc 4 1, 3) := by decide +kernel
theorem dX12_hide_107 : decode cX12_hide 107 = .ok (.goto (-71), 3) := by decide +kernel
theorem dX12_hide_110 : decode cX12_hide 110 = .ok (.iconst (-1), 1) := by decide +kernel
theorem dX12_hide_111 : decode cX12_hide 111 = .ok (.ireturn, 1) := by decide +kernel
theorem dX12_apart_0 : decode cX12_apart 0 = .ok (.iconst 0, 1) := by decide +kernel
theorem dX12_apart_1 : decode cX12_apart 1 = .ok (.istore_n 2, 1) := by decide +kernel
theorem dX12_apart_2 : decode cX12_apart 2 = .ok (.iconst 0, 1) := by decide +kernel
theorem dX12_apart_3 : decode cX12_apart 3 = .ok (.istore_n 3, 1) := by decide +kernel
theorem dX12_apart_4 : decode cX12_apart 4 = .ok (.iload_n 3, 1) := by decide +kernel
theorem dX12_apart_5 : decode cX12_apart 5 = .ok (.aload_n 0, 1) := by decide +kernel
theorem dX12_apart_6 : decode cX12_apart 6 = .ok (.getfield 132, 3) := by decide +kernel
theorem dX12_apart_9 : decode cX12_apart 9 = .ok (.if_icmp .ge 35, 3) := by decide +kernel
theorem dX12_apart_12 : decode cX12_apart 12 = .ok (.iload_n 2, 1) := by decide +kernel
theorem dX12_apart_13 : decode cX12_apart 13 = .ok (.aload_n 0, 1) := by decide +kernel
theorem dX12_apart_14 : decode cX12_apart 14 = .ok (.getfield 24, 3) := by decide +kernel
theorem dX12_apart_17 : decode cX12_apart 17 = .ok (.iload_n 3, 1) := by decide +kernel
theorem dX12_apart_18 : decode cX12_apart 18 = .ok (.iaload, 1) := by decide +kernel
theorem dX12_apart_19 : decode cX12_apart 19 = .ok (.iload_n 1, 1) := by decide +kernel
theorem dX12_apart_20 : decode cX12_apart 20 = .ok (.aload_n 0, 1) := by decide +kernel
theorem dX12_apart_21 : decode cX12_apart 21 = .ok (.getfield 132, 3) := by decide +kernel
theorem dX12_apart_24 : decode cX12_apart 24 = .ok (.iload_n 3, 1) := by decide +kernel
theorem dX12_apart_25 : decode cX12_apart 25 = .ok (.invokestatic 135, 3) := by decide +kernel
theorem dX12_apart_28 : decode cX12_apart 28 = .ok (.if_icmp .ne 7, 3) := by decide +kernel
theorem dX12_apart_31 : decode cX12_apart 31 = .ok (.iconst 0, 1) := by decide +kernel
theorem dX12_apart_32 : decode cX12_apart 32 = .ok (.goto 4, 3) := by decide +kernel
theorem dX12_apart_35 : decode cX12_apart 35 = .ok (.iconst 1, 1) := by decide +kernel
theorem dX12_apart_36 : decode cX12_apart 36 = .ok (.iadd, 1) := by decide +kernel
theorem dX12_apart_37 : decode cX12_apart 37 = .ok (.istore_n 2, 1) := by decide +kernel
theorem dX12_apart_38 : decode cX12_apart 38 = .ok (.iinc 3 1, 3) := by decide +kernel
theorem dX12_apart_41 : decode cX12_apart 41 = .ok (.goto (-37), 3) := by decide +kernel
theorem dX12_apart_44 : decode cX12_apart 44 = .ok (.iload_n 2, 1) := by decide +kernel
theorem dX12_apart_45 : decode cX12_apart 45 = .ok (.ireturn, 1) := by decide +kernel
theorem dX12_save_0 : decode cX12_save 0 = .ok (.aload_n 0, 1) := by decide +kernel
theorem dX12_save_1 : decode cX12_save 1 = .ok (.iload_n 1, 1) := by decide +kernel
theorem dX12_save_2 : decode cX12_save 2 = .ok (.invokevirtual 66, 3) := by decide +kernel
theorem dX12_save_5 : decode cX12_save 5 = .ok (.ifCond .eq 22, 3) := by decide +kernel
theorem dX12_save_8 : decode cX12_save 8 = .ok (.iload_n 2, 1) := by decide +kernel
theorem dX12_save_9 : decode cX12_save 9 = .ok (.iconst 0, 1) := by decide +kernel
theorem dX12_save_10 : decode cX12_save 10 = .ok (.bipush 9, 2) := by decide +kernel
theorem dX12_save_12 : decode cX12_save 12 = .ok (.invokestatic 47, 3) := by decide +kernel
theorem dX12_save_15 : decode cX12_save 15 = .ok (.ifCond .eq 12, 3) := by decide +kernel
theorem dX12_save_18 : decode cX12_save 18 = .ok (.iload_n 3, 1) := by decide +kernel
theorem dX12_save_19 : decode cX12_save 19 = .ok (.iconst 0, 1) := by decide +kernel
theorem dX12_save_20 : decode cX12_save 20 = .ok (.iconst 1, 1) := by decide +kernel
theorem dX12_save_21 : decode cX12_save 21 = .ok (.invokestatic 47, 3) := by decide +kernel
theorem dX12_save_24 : decode cX12_save 24 = .ok (.ifCond .ne 11, 3) := by decide +kernel
theorem dX12_save_27 : decode cX12_save 27 = .ok (.aload_n 0, 1) := by decide +kernel
theorem dX12_save_28 : decode cX12_save 28 = .ok (.invokevirtual 73, 3) := by decide +kernel
theorem dX12_save_31 : decode cX12_save 31 = .ok (.pop, 1) := by decide +kernel
theorem dX12_save_32 : decode cX12_save 32 = .ok (.bipush (-10), 2) := by decide +kernel
theorem dX12_save_34 : decode cX12_save 34 = .ok (.ireturn, 1) := by decide +kernel
theorem dX12_save_35 : decode cX12_save 35 = .ok (.aload_n 0, 1) := by decide +kernel
theorem dX12_save_36 : decode cX12_save 36 = .ok (.iconst 2, 1) := by decide +kernel
theorem dX12_save_37 : decode cX12_save 37 = .ok (.invokevirtual 43, 3) := by decide +kernel
theorem dX12_save_40 : decode cX12_save 40 = .ok (.istore 4, 2) := by decide +kernel
theorem dX12_save_42 : decode cX12_save 42 = .ok (.iload 4, 2) := by decide +kernel
theorem dX12_save_44 : decode cX12_save 44 = .ok (.ifCond .ne 11, 3) := by decide +kernel
theorem dX12_save_47 : decode cX12_save 47 = .ok (.aload_n 0, 1) := by decide +kernel
theorem dX12_save_48 : decode cX12_save 48 = .ok (.invokevirtual 80, 3) := by decide +kernel
theorem dX12_save_51 : decode cX12_save 51 = .ok (.pop, 1) := by decide +kernel
theorem dX12_save_52 : decode cX12_save 52 = .ok (.bipush (-20), 2) := by decide +kernel
theorem dX12_save_54 : decode cX12_save 54 = .ok (.ireturn, 1) := by decide +kernel
theorem dX12_save_55 : decode cX12_save 55 = .ok (.iconst (-1), 1) := by decide +kernel
theorem dX12_save_56 : decode cX12_save 56 = .ok (.istore 5, 2) := by decide +kernel
theorem dX12_save_58 : decode cX12_save 58 = .ok (.iconst (-1), 1) := by decide +kernel
theorem dX12_save_59 : decode cX12_save 59 = .ok (.istore 6, 2) := by decide +kernel
theorem dX12_save_61 : decode cX12_save 61 = .ok (.aload_n 0, 1) := by decide +kernel
theorem dX12_save_62 : decode cX12_save 62 = .ok (.iload 4, 2) := by decide +kernel
theorem dX12_save_64 : decode cX12_save 64 = .ok (.invokestatic 70, 3) := by decide +kernel
theorem dX12_save_67 : decode cX12_save 67 = .ok (.invokevirtual 170, 3) := by decide +kernel
theorem dX12_save_70 : decode cX12_save 70 = .ok (.iconst 1, 1) := by decide +kernel
theorem dX12_save_71 : decode cX12_save 71 = .ok (.istore 7, 2) := by decide +kernel
theorem dX12_save_73 : decode cX12_save 73 = .ok (.iload 7, 2) := by decide +kernel
theorem dX12_save_75 : decode cX12_save 75 = .ok (.ifCond .eq 68, 3) := by decide +kernel
theorem dX12_save_78 : decode cX12_save 78 = .ok (.aload_n 0, 1) := by decide +kernel
theorem dX12_save_79 : decode cX12_save 79 = .ok (.iload 4, 2) := by decide +kernel
theorem dX12_save_81 : decode cX12_save 81 = .ok (.invokevirtual 183, 3) := by decide +kernel
theorem dX12_save_84 : decode cX12_save 84 = .ok (.istore 8, 2) := by decide +kernel
theorem dX12_save_86 : decode cX12_save 86 = .ok (.iload 5, 2) := by decide +kernel
theorem dX12_save_88 : decode cX12_save 88 = .ok (.iconst (-1), 1) := by decide +kernel
theorem dX12_save_89 : decode cX12_save 89 = .ok (.if_icmp .eq 10, 3) := by decide +kernel
theorem dX12_save_92 : decode cX12_save 92 = .ok (.iload 8, 2) := by decide +kernel
theorem dX12_save_94 : decode cX12_save 94 = .ok (.iload 5, 2) := by decide +kernel
theorem dX12_save_96 : decode cX12_save 96 = .ok (.if_icmp .ge 32, 3) := by decide +kernel
theorem dX12_save_99 : decode cX12_save 99 = .ok (.aload_n 0, 1) := by decide +kernel
theorem dX12_save_100 : decode cX12_save 100 = .ok (.iconst 0, 1) := by decide +kernel
theorem dX12_save_101 : decode cX12_save 101 = .ok (.iload_n 1, 1) := by decide +kernel
theorem dX12_save_102 : decode cX12_save 102 = .ok (.aload_n 0, 1) := by decide +kernel
theorem dX12_save_103 : decode cX12_save 103 = .ok (.iconst 1, 1) := by decide +kernel
theorem dX12_save_104 : decode cX12_save 104 = .ok (.invokevirtual 43, 3) := by decide +kernel
theorem dX12_save_107 : decode cX12_save 107 = .ok (.invokevirtual 158, 3) := by decide +kernel
theorem dX12_save_110 : decode cX12_save 110 = .ok (.aload_n 0, 1) := by decide +kernel
theorem dX12_save_111 : decode cX12_save 111 = .ok (.iload_n 2, 1) := by decide +kernel
theorem dX12_save_112 : decode cX12_save 112 = .ok (.invokevirtual 186, 3) := by decide +kernel
theorem dX12_save_115 : decode cX12_save 115 = .ok (.ifCond .ne 13, 3) := by decide +kernel
theorem dX12_save_118 : decode cX12_save 118 = .ok (.iload 8, 2) := by decide +kernel
theorem dX12_save_120 : decode cX12_save 120 = .ok (.istore 5, 2) := by decide +kernel
theorem dX12_save_122 : decode cX12_save 122 = .ok (.aload_n 0, 1) := by decide +kernel
theorem dX12_save_123 : decode cX12_save 123 = .ok (.invokevirtual 177, 3) := by decide +kernel
theorem dX12_save_126 : decode cX12_save 126 = .ok (.istore 6, 2) := by decide +kernel
theorem dX12_save_128 : decode cX12_save 128 = .ok (.aload_n 0, 1) := by decide +kernel
theorem dX12_save_129 : decode cX12_save 129 = .ok (.aload_n 0, 1) := by decide +kernel
theorem dX12_save_130 : decode cX12_save 130 = .ok (.getfield 132, 3) := by decide +kernel
theorem dX12_save_133 : decode cX12_save 133 = .ok (.iconst 1, 1) := by decide +kernel
theorem dX12_save_134 : decode cX12_save 134 = .ok (.isub, 1) := by decide +kernel
theorem dX12_save_135 : decode cX12_save 135 = .ok (.invokevirtual 180, 3) := by decide +kernel
theorem dX12_save_138 : decode cX12_save 138 = .ok (.istore 7, 2) := by decide +kernel
theorem dX12_save_140 : decode cX12_save 140 = .ok (.goto (-67), 3) := by decide +kernel
theorem dX12_save_143 : decode cX12_save 143 = .ok (.iload_n 3, 1) := by decide +kernel
theorem dX12_save_144 : decode cX12_save 144 = .ok (.ifCond .ne 8, 3) := by decide +kernel
theorem dX12_save_147 : decode cX12_save 147 = .ok (.iload 5, 2) := by decide +kernel
theorem dX12_save_149 : decode cX12_save 149 = .ok (.goto 5, 3) := by decide +kernel
theorem dX12_save_152 : decode cX12_save 152 = .ok (.iload 6, 2) := by decide +kernel
theorem dX12_save_154 : decode cX12_save 154 = .ok (.ireturn, 1) := by decide +kernel
theorem dX12_safe_0 : decode cX12_safe 0 = .ok (.aload_n 0, 1) := by decide +kernel
theorem dX12_safe_1 : decode cX12_safe 1 = .ok (.iload_n 1, 1) := by decide +kernel
theorem dX12_safe_2 : decode cX12_safe 2 = .ok (.invokevirtual 66, 3) := by decide +kernel
theorem dX12_safe_5 : decode cX12_safe 5 = .ok (.ifCond .ne 8, 3) := by decide +kernel
theorem dX12_safe_8 : decode cX12_safe 8 = .ok (.aload_n 0, 1) := by decide +kernel
theorem dX12_safe_9 : decode cX12_safe 9 = .ok (.invokevirtual 73, 3) := by decide +kernel
theorem dX12_safe_12 : decode cX12_safe 12 = .ok (.ireturn, 1) := by decide +kernel
theorem dX12_safe_13 : decode cX12_safe 13 = .ok (.iconst 0, 1) := by decide +kernel
theorem dX12_safe_14 : decode cX12_safe 14 = .ok (.istore_n 2, 1) := by decide +kernel
theorem dX12_safe_15 : decode cX12_safe 15 = .ok (.iconst 0, 1) := by decide +kernel
theorem dX12_safe_16 : decode cX12_safe 16 = .ok (.istore_n 3, 1) := by decide +kernel
theorem dX12_safe_17 : decode cX12_safe 17 = .ok (.iconst 0, 1) := by decide +kernel
theorem dX12_safe_18 : decode cX12_safe 18 = .ok (.istore 4, 2) := by decide +kernel
theorem dX12_safe_20 : decode cX12_safe 20 = .ok (.iload 4, 2) := by decide +kernel
theorem dX12_safe_22 : decode cX12_safe 22 = .ok (.aload_n 0, 1) := by decide +kernel
theorem dX12_safe_23 : decode cX12_safe 23 = .ok (.iload_n 1, 1) := by decide +kernel
theorem dX12_safe_24 : decode cX12_safe 24 = .ok (.invokevirtual 51, 3) := by decide +kernel
theorem dX12_safe_27 : decode cX12_safe 27 = .ok (.if_icmp .ge 105, 3) := by decide +kernel
theorem dX12_safe_30 : decode cX12_safe 30 = .ok (.aload_n 0, 1) := by decide +kernel
theorem dX12_safe_31 : decode cX12_safe 31 = .ok (.iload_n 1, 1) := by decide +kernel
theorem dX12_safe_32 : decode cX12_safe 32 = .ok (.iload 4, 2) := by decide +kernel
theorem dX12_safe_34 : decode cX12_safe 34 = .ok (.invokevirtual 87, 3) := by decide +kernel
theorem dX12_safe_37 : decode cX12_safe 37 = .ok (.istore 5, 2) := by decide +kernel
theorem dX12_safe_39 : decode cX12_safe 39 = .ok (.iload_n 2, 1) := by decide +kernel
theorem dX12_safe_40 : decode cX12_safe 40 = .ok (.iconst 1, 1) := by decide +kernel
theorem dX12_safe_41 : decode cX12_safe 41 = .ok (.iload 5, 2) := by decide +kernel
theorem dX12_safe_43 : decode cX12_safe 43 = .ok (.ishl, 1) := by decide +kernel
theorem dX12_safe_44 : decode cX12_safe 44 = .ok (.ior, 1) := by decide +kernel
theorem dX12_safe_45 : decode cX12_safe 45 = .ok (.istore_n 2, 1) := by decide +kernel
theorem dX12_safe_46 : decode cX12_safe 46 = .ok (.aload_n 0, 1) := by decide +kernel
theorem dX12_safe_47 : decode cX12_safe 47 = .ok (.aload_n 0, 1) := by decide +kernel
theorem dX12_safe_48 : decode cX12_safe 48 = .ok (.iload_n 1, 1) := by decide +kernel
theorem dX12_safe_49 : decode cX12_safe 49 = .ok (.iload 4, 2) := by decide +kernel
theorem dX12_safe_51 : decode cX12_safe 51 = .ok (.invokevirtual 54, 3) := by decide +kernel
theorem dX12_safe_54 : decode cX12_safe 54 = .ok (.invokevirtual 154, 3) := by decide +kernel
theorem dX12_safe_57 : decode cX12_safe 57 = .ok (.iconst 0, 1) := by decide +kernel
theorem dX12_safe_58 : decode cX12_safe 58 = .ok (.istore 6, 2) := by decide +kernel
theorem dX12_safe_60 : decode cX12_safe 60 = .ok (.iload 6, 2) := by decide +kernel
theorem dX12_safe_62 : decode cX12_safe 62 = .ok (.iconst 1, 1) := by decide +kernel
theorem dX12_safe_63 : decode cX12_safe 63 = .ok (.aload_n 0, 1) := by decide +kernel
theorem dX12_safe_64 : decode cX12_safe 64 = .ok (.getfield 132, 3) := by decide +kernel
theorem dX12_safe_67 : decode cX12_safe 67 = .ok (.ishl, 1) := by decide +kernel
theorem dX12_safe_68 : decode cX12_safe 68 = .ok (.if_icmp .ge 58, 3) := by decide +kernel
theorem dX12_safe_71 : decode cX12_safe 71 = .ok (.aload_n 0, 1) := by decide +kernel
theorem dX12_safe_72 : decode cX12_safe 72 = .ok (.iconst 0, 1) := by decide +kernel
theorem dX12_safe_73 : decode cX12_safe 73 = .ok (.iload_n 1, 1) := by decide +kernel
theorem dX12_safe_74 : decode cX12_safe 74 = .ok (.iload 6, 2) := by decide +kernel
theorem dX12_safe_76 : decode cX12_safe 76 = .ok (.invokevirtual 158, 3) := by decide +kernel
theorem dX12_safe_79 : decode cX12_safe 79 = .ok (.iconst 0, 1) := by decide +kernel
theorem dX12_safe_80 : decode cX12_safe 80 = .ok (.istore 7, 2) := by decide +kernel
theorem dX12_safe_82 : decode cX12_safe 82 = .ok (.iload 7, 2) := by decide +kernel
theorem dX12_safe_84 : decode cX12_safe 84 = .ok (.aload_n 0, 1) := by decide +kernel
theorem dX12_safe_85 : decode cX12_safe 85 = .ok (.getfield 145, 3) := by decide +kernel
theorem dX12_safe_88 : decode cX12_safe 88 = .ok (.if_icmp .ge 32, 3) := by decide +kernel
theorem dX12_safe_91 : decode cX12_safe 91 = .ok (.iload_n 3, 1) := by decide +kernel
theorem dX12_safe_92 : decode cX12_safe 92 = .ok (.aload_n 0, 1) := by decide +kernel
theorem dX12_safe_93 : decode cX12_safe 93 = .ok (.getfield 30, 3) := by decide +kernel
theorem dX12_safe_96 : decode cX12_safe 96 = .ok (.iload 7, 2) := by decide +kernel
theorem dX12_safe_98 : decode cX12_safe 98 = .ok (.iaload, 1) := by decide +kernel
theorem dX12_safe_99 : decode cX12_safe 99 = .ok (.iload 5, 2) := by decide +kernel
theorem dX12_safe_101 : decode cX12_safe 101 = .ok (.if_icmp .ne 7, 3) := by decide +kernel
theorem dX12_safe_104 : decode cX12_safe 104 = .ok (.iconst 0, 1) := by decide +kernel
theorem dX12_safe_105 : decode cX12_safe 105 = .ok (.goto 7, 3) := by decide +kernel
theorem dX12_safe_108 : decode cX12_safe 108 = .ok (.iconst 1, 1) := by decide +kernel
theorem dX12_safe_109 : decode cX12_safe 109 = .ok (.iload 5, 2) := by decide +kernel
theorem dX12_safe_111 : decode cX12_safe 111 = .ok (.ishl, 1) := by decide +kernel
theorem dX12_safe_112 : decode cX12_safe 112 = .ok (.ior, 1) := by decide +kernel
theorem dX12_safe_113 : decode cX12_safe 113 = .ok (.istore_n 3, 1) := by decide +kernel
theorem dX12_safe_114 : decode cX12_safe 114 = .ok (.iinc 7 1, 3) := by decide +kernel
theorem dX12_safe_117 : decode cX12_safe 117 = .ok (.goto (-35), 3) := by decide +kernel
theorem dX12_safe_120 : decode cX12_safe 120 = .ok (.iinc 6 1, 3) := by decide +kernel
theorem dX12_safe_123 : decode cX12_safe 123 = .ok (.goto (-63), 3) := by decide +kernel
theorem dX12_safe_126 : decode cX12_safe 126 = .ok (.iinc 4 1, 3) := by decide +kernel
theorem dX12_safe_129 : decode cX12_safe 129 = .ok (.goto (-109), 3) := by decide +kernel
theorem dX12_safe_132 : decode cX12_safe 132 = .ok (.iload_n 2, 1) := by decide +kernel
theorem dX12_safe_133 : decode cX12_safe 133 = .ok (.iload_n 3, 1) := by decide +kernel
theorem dX12_safe_134 : decode cX12_safe 134 = .ok (.iconst (-1), 1) := by decide +kernel
theorem dX12_safe_135 : decode cX12_safe 135 = .ok (.ixor, 1) := by decide +kernel
theorem dX12_safe_136 : decode cX12_safe 136 = .ok (.iand, 1) := by decide +kernel
theorem dX12_safe_137 : decode cX12_safe 137 = .ok (.ireturn, 1) := by decide +kernel
theorem dX12_fact_0 : decode cX12_fact 0 = .ok (.iload_n 1, 1) := by decide +kernel
theorem dX12_fact_1 : decode cX12_fact 1 = .ok (.invokestatic 70, 3) := by decide +kernel
theorem dX12_fact_4 : decode cX12_fact 4 = .ok (.iconst 1, 1) := by decide +kernel
theorem dX12_fact_5 : decode cX12_fact 5 = .ok (.iconst 5, 1) := by decide +kernel
theorem dX12_fact_6 : decode cX12_fact 6 = .ok (.invokestatic 47, 3) := by decide +kernel
theorem dX12_fact_9 : decode cX12_fact 9 = .ok (.ifCond .eq 13, 3) := by decide +kernel
theorem dX12_fact_12 : decode cX12_fact 12 = .ok (.iload_n 2, 1) := by decide +kernel
theorem dX12_fact_13 : decode cX12_fact 13 = .ok (.iconst 0, 1) := by decide +kernel
theorem dX12_fact_14 : decode cX12_fact 14 = .ok (.bipush 9, 2) := by decide +kernel
theorem dX12_fact_16 : decode cX12_fact 16 = .ok (.invokestatic 47, 3) := by decide +kernel
theorem dX12_fact_19 : decode cX12_fact 19 = .ok (.ifCond .ne 8, 3) := by decide +kernel
theorem dX12_fact_22 : decode cX12_fact 22 = .ok (.aload_n 0, 1) := by decide +kernel
theorem dX12_fact_23 : decode cX12_fact 23 = .ok (.invokevirtual 73, 3) := by decide +kernel
theorem dX12_fact_26 : decode cX12_fact 26 = .ok (.ireturn, 1) := by decide +kernel
theorem dX12_fact_27 : decode cX12_fact 27 = .ok (.aload_n 0, 1) := by decide +kernel
theorem dX12_fact_28 : decode cX12_fact 28 = .ok (.iconst 4, 1) := by decide +kernel
theorem dX12_fact_29 : decode cX12_fact 29 = .ok (.invokevirtual 43, 3) := by decide +kernel
theorem dX12_fact_32 : decode cX12_fact 32 = .ok (.bipush 8, 2) := by decide +kernel
theorem dX12_fact_34 : decode cX12_fact 34 = .ok (.if_icmp .ne 8, 3) := by decide +kernel
theorem dX12_fact_37 : decode cX12_fact 37 = .ok (.aload_n 0, 1) := by decide +kernel
theorem dX12_fact_38 : decode cX12_fact 38 = .ok (.invokevirtual 62, 3) := by decide +kernel
theorem dX12_fact_41 : decode cX12_fact 41 = .ok (.ireturn, 1) := by decide +kernel
theorem dX12_fact_42 : decode cX12_fact 42 = .ok (.aload_n 0, 1) := by decide +kernel
theorem dX12_fact_43 : decode cX12_fact 43 = .ok (.bipush 10, 2) := by decide +kernel
theorem dX12_fact_45 : decode cX12_fact 45 = .ok (.iconst 2, 1) := by decide +kernel
theorem dX12_fact_46 : decode cX12_fact 46 = .ok (.aload_n 0, 1) := by decide +kernel
theorem dX12_fact_47 : decode cX12_fact 47 = .ok (.iconst 4, 1) := by decide +kernel
theorem dX12_fact_48 : decode cX12_fact 48 = .ok (.invokevirtual 43, 3) := by decide +kernel
theorem dX12_fact_51 : decode cX12_fact 51 = .ok (.imul, 1) := by decide +kernel
theorem dX12_fact_52 : decode cX12_fact 52 = .ok (.iadd, 1) := by decide +kernel
theorem dX12_fact_53 : decode cX12_fact 53 = .ok (.iload_n 1, 1) := by decide +kernel
theorem dX12_fact_54 : decode cX12_fact 54 = .ok (.invokevirtual 58, 3) := by decide +kernel
theorem dX12_fact_57 : decode cX12_fact 57 = .ok (.aload_n 0, 1) := by decide +kernel
theorem dX12_fact_58 : decode cX12_fact 58 = .ok (.bipush 10, 2) := by decide +kernel
theorem dX12_fact_60 : decode cX12_fact 60 = .ok (.iconst 2, 1) := by decide +kernel
theorem dX12_fact_61 : decode cX12_fact 61 = .ok (.aload_n 0, 1) := by decide +kernel
theorem dX12_fact_62 : decode cX12_fact 62 = .ok (.iconst 4, 1) := by decide +kernel
theorem dX12_fact_63 : decode cX12_fact 63 = .ok (.invokevirtual 43, 3) := by decide +kernel
theorem dX12_fact_66 : decode cX12_fact 66 = .ok (.imul, 1) := by decide +kernel
theorem dX12_fact_67 : decode cX12_fact 67 = .ok (.iadd, 1) := by decide +kernel
theorem dX12_fact_68 : decode cX12_fact 68 = .ok (.iconst 1, 1) := by decide +kernel
theorem dX12_fact_69 : decode cX12_fact 69 = .ok (.iadd, 1) := by decide +kernel
theorem dX12_fact_70 : decode cX12_fact 70 = .ok (.iload_n 2, 1) := by decide +kernel
theorem dX12_fact_71 : decode cX12_fact 71 = .ok (.invokevirtual 58, 3) := by decide +kernel
theorem dX12_fact_74 : decode cX12_fact 74 = .ok (.aload_n 0, 1) := by decide +kernel
theorem dX12_fact_75 : decode cX12_fact 75 = .ok (.iconst 4, 1) := by decide +kernel
theorem dX12_fact_76 : decode cX12_fact 76 = .ok (.aload_n 0, 1) := by decide +kernel
theorem dX12_fact_77 : decode cX12_fact 77 = .ok (.iconst 4, 1) := by decide +kernel
theorem dX12_fact_78 : decode cX12_fact 78 = .ok (.invokevirtual 43, 3) := by decide +kernel
theorem dX12_fact_81 : decode cX12_fact 81 = .ok (.iconst 1, 1) := by decide +kernel
theorem dX12_fact_82 : decode cX12_fact 82 = .ok (.iadd, 1) := by decide +kernel
theorem dX12_fact_83 : decode cX12_fact 83 = .ok (.invokevirtual 58, 3) := by decide +kernel
theorem dX12_fact_86 : decode cX12_fact 86 = .ok (.aload_n 0, 1) := by decide +kernel
theorem dX12_fact_87 : decode cX12_fact 87 = .ok (.iconst 4, 1) := by decide +kernel
theorem dX12_fact_88 : decode cX12_fact 88 = .ok (.invokevirtual 43, 3) := by decide +kernel
theorem dX12_fact_91 : decode cX12_fact 91 = .ok (.iconst 1, 1) := by decide +kernel
theorem dX12_fact_92 : decode cX12_fact 92 = .ok (.isub, 1) := by decide +kernel
theorem dX12_fact_93 : decode cX12_fact 93 = .ok (.ireturn, 1) := by decide +kernel
theorem dX12_mayBe_0 : decode cX12_mayBe 0 = .ok (.iconst 0, 1) := by decide +kernel
theorem dX12_mayBe_1 : decode cX12_mayBe 1 = .ok (.istore_n 1, 1) := by decide +kernel
theorem dX12_mayBe_2 : decode cX12_mayBe 2 = .ok (.iconst 0, 1) := by decide +kernel
theorem dX12_mayBe_3 : decode cX12_mayBe 3 = .ok (.istore_n 2, 1) := by decide +kernel
theorem dX12_mayBe_4 : decode cX12_mayBe 4 = .ok (.iload_n 2, 1) := by decide +kernel
theorem dX12_mayBe_5 : decode cX12_mayBe 5 = .ok (.aload_n 0, 1) := by decide +kernel
theorem dX12_mayBe_6 : decode cX12_mayBe 6 = .ok (.iconst 0, 1) := by decide +kernel
theorem dX12_mayBe_7 : decode cX12_mayBe 7 = .ok (.invokevirtual 43, 3) := by decide +kernel
theorem dX12_mayBe_10 : decode cX12_mayBe 10 = .ok (.if_icmp .ge 88, 3) := by decide +kernel
theorem dX12_mayBe_13 : decode cX12_mayBe 13 = .ok (.iconst 1, 1) := by decide +kernel
theorem dX12_mayBe_14 : decode cX12_mayBe 14 = .ok (.istore_n 3, 1) := by decide +kernel
theorem dX12_mayBe_15 : decode cX12_mayBe 15 = .ok (.iconst 0, 1) := by decide +kernel
theorem dX12_mayBe_16 : decode cX12_mayBe 16 = .ok (.istore 4, 2) := by decide +kernel
theorem dX12_mayBe_18 : decode cX12_mayBe 18 = .ok (.iload 4, 2) := by decide +kernel
theorem dX12_mayBe_20 : decode cX12_mayBe 20 = .ok (.aload_n 0, 1) := by decide +kernel
theorem dX12_mayBe_21 : decode cX12_mayBe 21 = .ok (.iconst 4, 1) := by decide +kernel
theorem dX12_mayBe_22 : decode cX12_mayBe 22 = .ok (.invokevirtual 43, 3) := by decide +kernel
theorem dX12_mayBe_25 : decode cX12_mayBe 25 = .ok (.if_icmp .ge 53, 3) := by decide +kernel
theorem dX12_mayBe_28 : decode cX12_mayBe 28 = .ok (.iload_n 3, 1) := by decide +kernel
theorem dX12_mayBe_29 : decode cX12_mayBe 29 = .ok (.ifCond .eq 49, 3) := by decide +kernel
theorem dX12_mayBe_32 : decode cX12_mayBe 32 = .ok (.aload_n 0, 1) := by decide +kernel
theorem dX12_mayBe_33 : decode cX12_mayBe 33 = .ok (.aload_n 0, 1) := by decide +kernel
theorem dX12_mayBe_34 : decode cX12_mayBe 34 = .ok (.bipush 10, 2) := by decide +kernel
theorem dX12_mayBe_36 : decode cX12_mayBe 36 = .ok (.iconst 2, 1) := by decide +kernel
theorem dX12_mayBe_37 : decode cX12_mayBe 37 = .ok (.iload 4, 2) := by decide +kernel
theorem dX12_mayBe_39 : decode cX12_mayBe 39 = .ok (.imul, 1) := by decide +kernel
theorem dX12_mayBe_40 : decode cX12_mayBe 40 = .ok (.iadd, 1) := by decide +kernel
theorem dX12_mayBe_41 : decode cX12_mayBe 41 = .ok (.invokevirtual 43, 3) := by decide +kernel
theorem dX12_mayBe_44 : decode cX12_mayBe 44 = .ok (.invokevirtual 154, 3) := by decide +kernel
theorem dX12_mayBe_47 : decode cX12_mayBe 47 = .ok (.aload_n 0, 1) := by decide +kernel
theorem dX12_mayBe_48 : decode cX12_mayBe 48 = .ok (.iconst 0, 1) := by decide +kernel
theorem dX12_mayBe_49 : decode cX12_mayBe 49 = .ok (.iload_n 2, 1) := by decide +kernel
theorem dX12_mayBe_50 : decode cX12_mayBe 50 = .ok (.iconst 0, 1) := by decide +kernel
theorem dX12_mayBe_51 : decode cX12_mayBe 51 = .ok (.invokevirtual 158, 3) := by decide +kernel
theorem dX12_mayBe_54 : decode cX12_mayBe 54 = .ok (.aload_n 0, 1) := by decide +kernel
theorem dX12_mayBe_55 : decode cX12_mayBe 55 = .ok (.aload_n 0, 1) := by decide +kernel
theorem dX12_mayBe_56 : decode cX12_mayBe 56 = .ok (.bipush 10, 2) := by decide +kernel
theorem dX12_mayBe_58 : decode cX12_mayBe 58 = .ok (.iconst 2, 1) := by decide +kernel
theorem dX12_mayBe_59 : decode cX12_mayBe 59 = .ok (.iload 4, 2) := by decide +kernel
theorem dX12_mayBe_61 : decode cX12_mayBe 61 = .ok (.imul, 1) := by decide +kernel
theorem dX12_mayBe_62 : decode cX12_mayBe 62 = .ok (.iadd, 1) := by decide +kernel
theorem dX12_mayBe_63 : decode cX12_mayBe 63 = .ok (.iconst 1, 1) := by decide +kernel
theorem dX12_mayBe_64 : decode cX12_mayBe 64 = .ok (.iadd, 1) := by decide +kernel
theorem dX12_mayBe_65 : decode cX12_mayBe 65 = .ok (.invokevirtual 43, 3) := by decide +kernel
theorem dX12_mayBe_68 : decode cX12_mayBe 68 = .ok (.invokevirtual 186, 3) := by decide +kernel
theorem dX12_mayBe_71 : decode cX12_mayBe 71 = .ok (.istore_n 3, 1) := by decide +kernel
theorem dX12_mayBe_72 : decode cX12_mayBe 72 = .ok (.iinc 4 1, 3) := by decide +kernel
theorem dX12_mayBe_75 : decode cX12_mayBe 75 = .ok (.goto (-57), 3) := by decide +kernel
theorem dX12_mayBe_78 : decode cX12_mayBe 78 = .ok (.iload_n 1, 1) := by decide +kernel
theorem dX12_mayBe_79 : decode cX12_mayBe 79 = .ok (.iload_n 3, 1) := by decide +kernel
theorem dX12_mayBe_80 : decode cX12_mayBe 80 = .ok (.ifCond .eq 9, 3) := by decide +kernel
theorem dX12_mayBe_83 : decode cX12_mayBe 83 = .ok (.iconst 1, 1) := by decide +kernel
theorem dX12_mayBe_84 : decode cX12_mayBe 84 = .ok (.iload_n 2, 1) := by decide +kernel
theorem dX12_mayBe_85 : decode cX12_mayBe 85 = .ok (.ishl, 1) := by decide +kernel
theorem dX12_mayBe_86 : decode cX12_mayBe 86 = .ok (.goto 4, 3) := by decide +kernel
theorem dX12_mayBe_89 : decode cX12_mayBe 89 = .ok (.iconst 0, 1) := by decide +kernel
theorem dX12_mayBe_90 : decode cX12_mayBe 90 = .ok (.ior, 1) := by decide +kernel
theorem dX12_mayBe_91 : decode cX12_mayBe 91 = .ok (.istore_n 1, 1) := by decide +kernel
theorem dX12_mayBe_92 : decode cX12_mayBe 92 = .ok (.iinc 2 1, 3) := by decide +kernel
theorem dX12_mayBe_95 : decode cX12_mayBe 95 = .ok (.goto (-91), 3) := by decide +kernel
theorem dX12_mayBe_98 : decode cX12_mayBe 98 = .ok (.iload_n 1, 1) := by decide +kernel
theorem dX12_mayBe_99 : decode cX12_mayBe 99 = .ok (.ireturn, 1) := by decide +kernel
theorem dX12_heat_0 : decode cX12_heat 0 = .ok (.iload_n 1, 1) := by decide +kernel
theorem dX12_heat_1 : decode cX12_heat 1 = .ok (.invokestatic 161, 3) := by decide +kernel
theorem dX12_heat_4 : decode cX12_heat 4 = .ok (.ifCond .eq 43, 3) := by decide +kernel
theorem dX12_heat_7 : decode cX12_heat 7 = .ok (.aload_n 0, 1) := by decide +kernel
theorem dX12_heat_8 : decode cX12_heat 8 = .ok (.iload_n 2, 1) := by decide +kernel
theorem dX12_heat_9 : decode cX12_heat 9 = .ok (.invokevirtual 66, 3) := by decide +kernel
theorem dX12_heat_12 : decode cX12_heat 12 = .ok (.ifCond .eq 35, 3) := by decide +kernel
theorem dX12_heat_15 : decode cX12_heat 15 = .ok (.iload_n 3, 1) := by decide +kernel
theorem dX12_heat_16 : decode cX12_heat 16 = .ok (.iconst 0, 1) := by decide +kernel
theorem dX12_heat_17 : decode cX12_heat 17 = .ok (.bipush 9, 2) := by decide +kernel
theorem dX12_heat_19 : decode cX12_heat 19 = .ok (.invokestatic 47, 3) := by decide +kernel
theorem dX12_heat_22 : decode cX12_heat 22 = .ok (.ifCond .eq 25, 3) := by decide +kernel
theorem dX12_heat_25 : decode cX12_heat 25 = .ok (.iload 4, 2) := by decide +kernel
theorem dX12_heat_27 : decode cX12_heat 27 = .ok (.iconst 0, 1) := by decide +kernel
theorem dX12_heat_28 : decode cX12_heat 28 = .ok (.bipush 60, 2) := by decide +kernel
theorem dX12_heat_30 : decode cX12_heat 30 = .ok (.invokestatic 47, 3) := by decide +kernel
theorem dX12_heat_33 : decode cX12_heat 33 = .ok (.ifCond .eq 14, 3) := by decide +kernel
theorem dX12_heat_36 : decode cX12_heat 36 = .ok (.iload 5, 2) := by decide +kernel
theorem dX12_heat_38 : decode cX12_heat 38 = .ok (.iconst 0, 1) := by decide +kernel
theorem dX12_heat_39 : decode cX12_heat 39 = .ok (.ldc 189, 2) := by decide +kernel
theorem dX12_heat_41 : decode cX12_heat 41 = .ok (.invokestatic 47, 3) := by decide +kernel
theorem dX12_heat_44 : decode cX12_heat 44 = .ok (.ifCond .ne 8, 3) := by decide +kernel
theorem dX12_heat_47 : decode cX12_heat 47 = .ok (.aload_n 0, 1) := by decide +kernel
theorem dX12_heat_48 : decode cX12_heat 48 = .ok (.invokevirtual 73, 3) := by decide +kernel
theorem dX12_heat_51 : decode cX12_heat 51 = .ok (.ireturn, 1) := by decide +kernel
theorem dX12_heat_52 : decode cX12_heat 52 = .ok (.iload 5, 2) := by decide +kernel
theorem dX12_heat_54 : decode cX12_heat 54 = .ok (.i2l, 1) := by decide +kernel
theorem dX12_heat_55 : decode cX12_heat 55 = .ok (.lstore 6, 2) := by decide +kernel
theorem dX12_heat_57 : decode cX12_heat 57 = .ok (.aload_n 0, 1) := by decide +kernel
theorem dX12_heat_58 : decode cX12_heat 58 = .ok (.iload 4, 2) := by decide +kernel
theorem dX12_heat_60 : decode cX12_heat 60 = .ok (.putfield 132, 3) := by decide +kernel
theorem dX12_heat_63 : decode cX12_heat 63 = .ok (.iconst 0, 1) := by decide +kernel
theorem dX12_heat_64 : decode cX12_heat 64 = .ok (.istore 8, 2) := by decide +kernel
theorem dX12_heat_66 : decode cX12_heat 66 = .ok (.iload 8, 2) := by decide +kernel
theorem dX12_heat_68 : decode cX12_heat 68 = .ok (.iload 4, 2) := by decide +kernel
theorem dX12_heat_70 : decode cX12_heat 70 = .ok (.if_icmp .ge 43, 3) := by decide +kernel
theorem dX12_heat_73 : decode cX12_heat 73 = .ok (.lload 6, 2) := by decide +kernel
theorem dX12_heat_75 : decode cX12_heat 75 = .ok (.ldc2_w 190, 3) := by decide +kernel
theorem dX12_heat_78 : decode cX12_heat 78 = .ok (.lmul, 1) := by decide +kernel
theorem dX12_heat_79 : decode cX12_heat 79 = .ok (.ldc2_w 192, 3) := by decide +kernel
theorem dX12_heat_82 : decode cX12_heat 82 = .ok (.ladd, 1) := by decide +kernel
theorem dX12_heat_83 : decode cX12_heat 83 = .ok (.ldc2_w 194, 3) := by decide +kernel
theorem dX12_heat_86 : decode cX12_heat 86 = .ok (.lrem, 1) := by decide +kernel
theorem dX12_heat_87 : decode cX12_heat 87 = .ok (.lstore 6, 2) := by decide +kernel
theorem dX12_heat_89 : decode cX12_heat 89 = .ok (.aload_n 0, 1) := by decide +kernel
theorem dX12_heat_90 : decode cX12_heat 90 = .ok (.getfield 24, 3) := by decide +kernel
theorem dX12_heat_93 : decode cX12_heat 93 = .ok (.iload 8, 2) := by decide +kernel
theorem dX12_heat_95 : decode cX12_heat 95 = .ok (.lload 6, 2) := by decide +kernel
theorem dX12_heat_97 : decode cX12_heat 97 = .ok (.ldc2_w 196, 3) := by decide +kernel
theorem dX12_heat_100 : decode cX12_heat 100 = .ok (.ldiv, 1) := by decide +kernel
theorem dX12_heat_101 : decode cX12_heat 101 = .ok (.ldc2_w 198, 3) := by decide +kernel
theorem dX12_heat_104 : decode cX12_heat 104 = .ok (.lrem, 1) := by decide +kernel
theorem dX12_heat_105 : decode cX12_heat 105 = .ok (.l2i, 1) := by decide +kernel
theorem dX12_heat_106 : decode cX12_heat 106 = .ok (.iastore, 1) := by decide +kernel
theorem dX12_heat_107 : decode cX12_heat 107 = .ok (.iinc 8 1, 3) := by decide +kernel
theorem dX12_heat_110 : decode cX12_heat 110 = .ok (.goto (-44), 3) := by decide +kernel
theorem dX12_heat_113 : decode cX12_heat 113 = .ok (.aload_n 0, 1) := by decide +kernel
theorem dX12_heat_114 : decode cX12_heat 114 = .ok (.iload_n 1, 1) := by decide +kernel
theorem dX12_heat_115 : decode cX12_heat 115 = .ok (.iload_n 2, 1) := by decide +kernel
theorem dX12_heat_116 : decode cX12_heat 116 = .ok (.iconst 0, 1) := by decide +kernel
theorem dX12_heat_117 : decode cX12_heat 117 = .ok (.invokevirtual 158, 3) := by decide +kernel
theorem dX12_heat_120 : decode cX12_heat 120 = .ok (.iconst 0, 1) := by decide +kernel
theorem dX12_heat_121 : decode cX12_heat 121 = .ok (.istore 8, 2) := by decide +kernel
theorem dX12_heat_123 : decode cX12_heat 123 = .ok (.iconst 0, 1) := by decide +kernel
theorem dX12_heat_124 : decode cX12_heat 124 = .ok (.istore 9, 2) := by decide +kernel
theorem dX12_heat_126 : decode cX12_heat 126 = .ok (.iload 9, 2) := by decide +kernel
theorem dX12_heat_128 : decode cX12_heat 128 = .ok (.aload_n 0, 1) := by decide +kernel
theorem dX12_heat_129 : decode cX12_heat 129 = .ok (.getfield 145, 3) := by decide +kernel
theorem dX12_heat_132 : decode cX12_heat 132 = .ok (.if_icmp .ge 30, 3) := by decide +kernel
theorem dX12_heat_135 : decode cX12_heat 135 = .ok (.iload 8, 2) := by decide +kernel
theorem dX12_heat_137 : decode cX12_heat 137 = .ok (.aload_n 0, 1) := by decide +kernel
theorem dX12_heat_138 : decode cX12_heat 138 = .ok (.getfield 30, 3) := by decide +kernel
theorem dX12_heat_141 : decode cX12_heat 141 = .ok (.iload 9, 2) := by decide +kernel
theorem dX12_heat_143 : decode cX12_heat 143 = .ok (.iaload, 1) := by decide +kernel
theorem dX12_heat_144 : decode cX12_heat 144 = .ok (.iload_n 3, 1) := by decide +kernel
theorem dX12_heat_145 : decode cX12_heat 145 = .ok (.if_icmp .ne 7, 3) := by decide +kernel
theorem dX12_heat_148 : decode cX12_heat 148 = .ok (.iconst 1, 1) := by decide +kernel
theorem dX12_heat_149 : decode cX12_heat 149 = .ok (.goto 4, 3) := by decide +kernel
theorem dX12_heat_152 : decode cX12_heat 152 = .ok (.iconst 0, 1) := by decide +kernel
theorem dX12_heat_153 : decode cX12_heat 153 = .ok (.iadd, 1) := by decide +kernel
theorem dX12_heat_154 : decode cX12_heat 154 = .ok (.istore 8, 2) := by decide +kernel
theorem dX12_heat_156 : decode cX12_heat 156 = .ok (.iinc 9 1, 3) := by decide +kernel
theorem dX12_heat_159 : decode cX12_heat 159 = .ok (.goto (-33), 3) := by decide +kernel
theorem dX12_heat_162 : decode cX12_heat 162 = .ok (.iload 8, 2) := by decide +kernel
theorem dX12_heat_164 : decode cX12_heat 164 = .ok (.ireturn, 1) := by decide +kernel
theorem dX12_image_0 : decode cX12_image 0 = .ok (.iload_n 1, 1) := by decide +kernel
theorem dX12_image_1 : decode cX12_image 1 = .ok (.iconst 0, 1) := by decide +kernel
theorem dX12_image_2 : decode cX12_image 2 = .ok (.iconst 1, 1) := by decide +kernel
theorem dX12_image_3 : decode cX12_image 3 = .ok (.invokestatic 47, 3) := by decide +kernel
theorem dX12_image_6 : decode cX12_image 6 = .ok (.ifCond .ne 8, 3) := by decide +kernel
theorem dX12_image_9 : decode cX12_image 9 = .ok (.aload_n 0, 1) := by decide +kernel
theorem dX12_image_10 : decode cX12_image 10 = .ok (.invokevirtual 73, 3) := by decide +kernel
theorem dX12_image_13 : decode cX12_image 13 = .ok (.ireturn, 1) := by decide +kernel
theorem dX12_image_14 : decode cX12_image 14 = .ok (.aload_n 0, 1) := by decide +kernel
theorem dX12_image_15 : decode cX12_image 15 = .ok (.iconst 0, 1) := by decide +kernel
theorem dX12_image_16 : decode cX12_image 16 = .ok (.sipush 453, 3) := by decide +kernel
theorem dX12_image_19 : decode cX12_image 19 = .ok (.iconst 1, 1) := by decide +kernel
theorem dX12_image_20 : decode cX12_image 20 = .ok (.iload_n 1, 1) := by decide +kernel
theorem dX12_image_21 : decode cX12_image 21 = .ok (.iadd, 1) := by decide +kernel
theorem dX12_image_22 : decode cX12_image 22 = .ok (.imul, 1) := by decide +kernel
theorem dX12_image_23 : decode cX12_image 23 = .ok (.invokevirtual 126, 3) := by decide +kernel
theorem dX12_image_26 : decode cX12_image 26 = .ok (.aload_n 0, 1) := by decide +kernel
theorem dX12_image_27 : decode cX12_image 27 = .ok (.getfield 13, 3) := by decide +kernel
theorem dX12_image_30 : decode cX12_image 30 = .ok (.iload_n 1, 1) := by decide +kernel
theorem dX12_image_31 : decode cX12_image 31 = .ok (.iconst 1, 1) := by decide +kernel
theorem dX12_image_32 : decode cX12_image 32 = .ok (.bastore, 1) := by decide +kernel
theorem dX12_image_33 : decode cX12_image 33 = .ok (.iconst 1, 1) := by decide +kernel
theorem dX12_image_34 : decode cX12_image 34 = .ok (.ireturn, 1) := by decide +kernel
theorem dX12_from_0 : decode cX12_from 0 = .ok (.iload_n 1, 1) := by decide +kernel
theorem dX12_from_1 : decode cX12_from 1 = .ok (.iconst 0, 1) := by decide +kernel
theorem dX12_from_2 : decode cX12_from 2 = .ok (.iconst 1, 1) := by decide +kernel
theorem dX12_from_3 : decode cX12_from 3 = .ok (.invokestatic 47, 3) := by decide +kernel
theorem dX12_from_6 : decode cX12_from 6 = .ok (.ifCond .ne 8, 3) := by decide +kernel
theorem dX12_from_9 : decode cX12_from 9 = .ok (.aload_n 0, 1) := by decide +kernel
theorem dX12_from_10 : decode cX12_from 10 = .ok (.invokevirtual 73, 3) := by decide +kernel
theorem dX12_from_13 : decode cX12_from 13 = .ok (.ireturn, 1) := by decide +kernel
theorem dX12_from_14 : decode cX12_from 14 = .ok (.aload_n 0, 1) := by decide +kernel
theorem dX12_from_15 : decode cX12_from 15 = .ok (.getfield 13, 3) := by decide +kernel
theorem dX12_from_18 : decode cX12_from 18 = .ok (.iload_n 1, 1) := by decide +kernel
theorem dX12_from_19 : decode cX12_from 19 = .ok (.baload, 1) := by decide +kernel
theorem dX12_from_20 : decode cX12_from 20 = .ok (.ifCond .ne 8, 3) := by decide +kernel
theorem dX12_from_23 : decode cX12_from 23 = .ok (.aload_n 0, 1) := by decide +kernel
theorem dX12_from_24 : decode cX12_from 24 = .ok (.invokevirtual 80, 3) := by decide +kernel
theorem dX12_from_27 : decode cX12_from 27 = .ok (.ireturn, 1) := by decide +kernel
theorem dX12_from_28 : decode cX12_from 28 = .ok (.aload_n 0, 1) := by decide +kernel
theorem dX12_from_29 : decode cX12_from 29 = .ok (.sipush 453, 3) := by decide +kernel
theorem dX12_from_32 : decode cX12_from 32 = .ok (.iconst 1, 1) := by decide +kernel
theorem dX12_from_33 : decode cX12_from 33 = .ok (.iload_n 1, 1) := by decide +kernel
theorem dX12_from_34 : decode cX12_from 34 = .ok (.iadd, 1) := by decide +kernel
theorem dX12_from_35 : decode cX12_from 35 = .ok (.imul, 1) := by decide +kernel
theorem dX12_from_36 : decode cX12_from 36 = .ok (.iconst 0, 1) := by decide +kernel
theorem dX12_from_37 : decode cX12_from 37 = .ok (.invokevirtual 126, 3) := by decide +kernel
theorem dX12_from_40 : decode cX12_from 40 = .ok (.iconst 1, 1) := by decide +kernel
theorem dX12_from_41 : decode cX12_from 41 = .ok (.ireturn, 1) := by decide +kernel
theorem dX12_status_0 : decode cX12_status 0 = .ok (.iload_n 1, 1) := by decide +kernel
theorem dX12_status_1 : decode cX12_status 1 = .ok (.iconst 0, 1) := by decide +kernel
theorem dX12_status_2 : decode cX12_status 2 = .ok (.iconst 2, 1) := by decide +kernel
theorem dX12_status_3 : decode cX12_status 3 = .ok (.invokestatic 47, 3) := by decide +kernel
theorem dX12_status_6 : decode cX12_status 6 = .ok (.ifCond .ne 10, 3) := by decide +kernel
theorem dX12_status_9 : decode cX12_status 9 = .ok (.aload_n 0, 1) := by decide +kernel
theorem dX12_status_10 : decode cX12_status 10 = .ok (.invokevirtual 73, 3) := by decide +kernel
theorem dX12_status_13 : decode cX12_status 13 = .ok (.pop, 1) := by decide +kernel
theorem dX12_status_14 : decode cX12_status 14 = .ok (.iconst (-1), 1) := by decide +kernel
theorem dX12_status_15 : decode cX12_status 15 = .ok (.ireturn, 1) := by decide +kernel
theorem dX12_status_16 : decode cX12_status 16 = .ok (.aload_n 0, 1) := by decide +kernel
theorem dX12_status_17 : decode cX12_status 17 = .ok (.getfield 17, 3) := by decide +kernel
theorem dX12_status_20 : decode cX12_status 20 = .ok (.iload_n 1, 1) := by decide +kernel
theorem dX12_status_21 : decode cX12_status 21 = .ok (.iaload, 1) := by decide +kernel
theorem dX12_status_22 : decode cX12_status 22 = .ok (.ireturn, 1) := by decide +kernel
theorem dX12_allEntries_0 : decode cX12_allEntries 0 = .ok (.iconst 0, 1) := by decide +kernel
theorem dX12_allEntries_1 : decode cX12_allEntries 1 = .ok (.istore_n 1, 1) := by decide +kernel
theorem dX12_allEntries_2 : decode cX12_allEntries 2 = .ok (.iconst 0, 1) := by decide +kernel
theorem dX12_allEntries_3 : decode cX12_allEntries 3 = .ok (.istore_n 2, 1) := by decide +kernel
theorem dX12_allEntries_4 : decode cX12_allEntries 4 = .ok (.iload_n 2, 1) := by decide +kernel
theorem dX12_allEntries_5 : decode cX12_allEntries 5 = .ok (.aload_n 0, 1) := by decide +kernel
theorem dX12_allEntries_6 : decode cX12_allEntries 6 = .ok (.iconst 0, 1) := by decide +kernel
theorem dX12_allEntries_7 : decode cX12_allEntries 7 = .ok (.invokevirtual 43, 3) := by decide +kernel
theorem dX12_allEntries_10 : decode cX12_allEntries 10 = .ok (.if_icmp .ge 17, 3) := by decide +kernel
theorem dX12_allEntries_13 : decode cX12_allEntries 13 = .ok (.iload_n 1, 1) := by decide +kernel
theorem dX12_allEntries_14 : decode cX12_allEntries 14 = .ok (.aload_n 0, 1) := by decide +kernel
theorem dX12_allEntries_15 : decode cX12_allEntries 15 = .ok (.iload_n 2, 1) := by decide +kernel
theorem dX12_allEntries_16 : decode cX12_allEntries 16 = .ok (.invokevirtual 51, 3) := by decide +kernel
theorem dX12_allEntries_19 : decode cX12_allEntries 19 = .ok (.iadd, 1) := by decide +kernel
theorem dX12_allEntries_20 : decode cX12_allEntries 20 = .ok (.istore_n 1, 1) := by decide +kernel
theorem dX12_allEntries_21 : decode cX12_allEntries 21 = .ok (.iinc 2 1, 3) := by decide +kernel
theorem dX12_allEntries_24 : decode cX12_allEntries 24 = .ok (.goto (-20), 3) := by decide +kernel
theorem dX12_allEntries_27 : decode cX12_allEntries 27 = .ok (.iload_n 1, 1) := by decide +kernel
theorem dX12_allEntries_28 : decode cX12_allEntries 28 = .ok (.ireturn, 1) := by decide +kernel
theorem dX12_counted_0 : decode cX12_counted 0 = .ok (.iload_n 1, 1) := by decide +kernel
theorem dX12_counted_1 : decode cX12_counted 1 = .ok (.tableswitch 98 0 6 #[43, 49, 54, 75, 81, 87, 93], 43) := by decide +kernel
theorem dX12_counted_44 : decode cX12_counted 44 = .ok (.aload_n 0, 1) := by decide +kernel
theorem dX12_counted_45 : decode cX12_counted 45 = .ok (.iconst 0, 1) := by decide +kernel
theorem dX12_counted_46 : decode cX12_counted 46 = .ok (.invokevirtual 43, 3) := by decide +kernel
theorem dX12_counted_49 : decode cX12_counted 49 = .ok (.ireturn, 1) := by decide +kernel
theorem dX12_counted_50 : decode cX12_counted 50 = .ok (.aload_n 0, 1) := by decide +kernel
theorem dX12_counted_51 : decode cX12_counted 51 = .ok (.invokevirtual 200, 3) := by decide +kernel
theorem dX12_counted_54 : decode cX12_counted 54 = .ok (.ireturn, 1) := by decide +kernel
theorem dX12_counted_55 : decode cX12_counted 55 = .ok (.aload_n 0, 1) := by decide +kernel
theorem dX12_counted_56 : decode cX12_counted 56 = .ok (.iconst 2, 1) := by decide +kernel
theorem dX12_counted_57 : decode cX12_counted 57 = .ok (.invokevirtual 43, 3) := by decide +kernel
theorem dX12_counted_60 : decode cX12_counted 60 = .ok (.ifCond .ne 7, 3) := by decide +kernel
theorem dX12_counted_63 : decode cX12_counted 63 = .ok (.iconst 0, 1) := by decide +kernel
theorem dX12_counted_64 : decode cX12_counted 64 = .ok (.goto 11, 3) := by decide +kernel
theorem dX12_counted_67 : decode cX12_counted 67 = .ok (.aload_n 0, 1) := by decide +kernel
theorem dX12_counted_68 : decode cX12_counted 68 = .ok (.iconst 2, 1) := by decide +kernel
theorem dX12_counted_69 : decode cX12_counted 69 = .ok (.invokevirtual 43, 3) := by decide +kernel
theorem dX12_counted_72 : decode cX12_counted 72 = .ok (.invokestatic 70, 3) := by decide +kernel
theorem dX12_counted_75 : decode cX12_counted 75 = .ok (.ireturn, 1) := by decide +kernel
theorem dX12_counted_76 : decode cX12_counted 76 = .ok (.aload_n 0, 1) := by decide +kernel
theorem dX12_counted_77 : decode cX12_counted 77 = .ok (.iconst 3, 1) := by decide +kernel
theorem dX12_counted_78 : decode cX12_counted 78 = .ok (.invokevirtual 43, 3) := by decide +kernel
theorem dX12_counted_81 : decode cX12_counted 81 = .ok (.ireturn, 1) := by decide +kernel
theorem dX12_counted_82 : decode cX12_counted 82 = .ok (.aload_n 0, 1) := by decide +kernel
theorem dX12_counted_83 : decode cX12_counted 83 = .ok (.iconst 4, 1) := by decide +kernel
theorem dX12_counted_84 : decode cX12_counted 84 = .ok (.invokevirtual 43, 3) := by decide +kernel
theorem dX12_counted_87 : decode cX12_counted 87 = .ok (.ireturn, 1) := by decide +kernel
theorem dX12_counted_88 : decode cX12_counted 88 = .ok (.aload_n 0, 1) := by decide +kernel
theorem dX12_counted_89 : decode cX12_counted 89 = .ok (.iconst 5, 1) := by decide +kernel
theorem dX12_counted_90 : decode cX12_counted 90 = .ok (.invokevirtual 43, 3) := by decide +kernel
theorem dX12_counted_93 : decode cX12_counted 93 = .ok (.ireturn, 1) := by decide +kernel
theorem dX12_counted_94 : decode cX12_counted 94 = .ok (.aload_n 0, 1) := by decide +kernel
theorem dX12_counted_95 : decode cX12_counted 95 = .ok (.getfield 36, 3) := by decide +kernel
theorem dX12_counted_98 : decode cX12_counted 98 = .ok (.ireturn, 1) := by decide +kernel
theorem dX12_counted_99 : decode cX12_counted 99 = .ok (.aload_n 0, 1) := by decide +kernel
theorem dX12_counted_100 : decode cX12_counted 100 = .ok (.iconst 1, 1) := by decide +kernel
theorem dX12_counted_101 : decode cX12_counted 101 = .ok (.invokevirtual 43, 3) := by decide +kernel
theorem dX12_counted_104 : decode cX12_counted 104 = .ok (.ireturn, 1) := by decide +kernel
theorem dX12_count_0 : decode cX12_count 0 = .ok (.iload_n 1, 1) := by decide +kernel
theorem dX12_count_1 : decode cX12_count 1 = .ok (.iconst 0, 1) := by decide +kernel
theorem dX12_count_2 : decode cX12_count 2 = .ok (.bipush 7, 2) := by decide +kernel
theorem dX12_count_4 : decode cX12_count 4 = .ok (.invokestatic 47, 3) := by decide +kernel
theorem dX12_count_7 : decode cX12_count 7 = .ok (.ifCond .eq 11, 3) := by decide +kernel
theorem dX12_count_10 : decode cX12_count 10 = .ok (.aload_n 0, 1) := by decide +kernel
theorem dX12_count_11 : decode cX12_count 11 = .ok (.iload_n 1, 1) := by decide +kernel
theorem dX12_count_12 : decode cX12_count 12 = .ok (.invokevirtual 203, 3) := by decide +kernel
theorem dX12_count_15 : decode cX12_count 15 = .ok (.goto 7, 3) := by decide +kernel
theorem dX12_count_18 : decode cX12_count 18 = .ok (.aload_n 0, 1) := by decide +kernel
theorem dX12_count_19 : decode cX12_count 19 = .ok (.invokevirtual 73, 3) := by decide +kernel
theorem dX12_count_22 : decode cX12_count 22 = .ok (.ireturn, 1) := by decide +kernel
theorem dX12_digest_0 : decode cX12_digest 0 = .ok (.ldc2_w 206, 3) := by decide +kernel
theorem dX12_digest_3 : decode cX12_digest 3 = .ok (.lstore_n 1, 1) := by decide +kernel
theorem dX12_digest_4 : decode cX12_digest 4 = .ok (.iconst 0, 1) := by decide +kernel
theorem dX12_digest_5 : decode cX12_digest 5 = .ok (.istore_n 3, 1) := by decide +kernel
theorem dX12_digest_6 : decode cX12_digest 6 = .ok (.iload_n 3, 1) := by decide +kernel
theorem dX12_digest_7 : decode cX12_digest 7 = .ok (.bipush 8, 2) := by decide +kernel
theorem dX12_digest_9 : decode cX12_digest 9 = .ok (.if_icmp .ge 22, 3) := by decide +kernel
theorem dX12_digest_12 : decode cX12_digest 12 = .ok (.ldc2_w 208, 3) := by decide +kernel
theorem dX12_digest_15 : decode cX12_digest 15 = .ok (.lload_n 1, 1) := by decide +kernel
theorem dX12_digest_16 : decode cX12_digest 16 = .ok (.lmul, 1) := by decide +kernel
theorem dX12_digest_17 : decode cX12_digest 17 = .ok (.aload_n 0, 1) := by decide +kernel
theorem dX12_digest_18 : decode cX12_digest 18 = .ok (.iload_n 3, 1) := by decide +kernel
theorem dX12_digest_19 : decode cX12_digest 19 = .ok (.invokevirtual 203, 3) := by decide +kernel
theorem dX12_digest_22 : decode cX12_digest 22 = .ok (.i2l, 1) := by decide +kernel
theorem dX12_digest_23 : decode cX12_digest 23 = .ok (.ladd, 1) := by decide +kernel
theorem dX12_digest_24 : decode cX12_digest 24 = .ok (.lstore_n 1, 1) := by decide +kernel
theorem dX12_digest_25 : decode cX12_digest 25 = .ok (.iinc 3 1, 3) := by decide +kernel
theorem dX12_digest_28 : decode cX12_digest 28 = .ok (.goto (-22), 3) := by decide +kernel
theorem dX12_digest_31 : decode cX12_digest 31 = .ok (.iconst 0, 1) := by decide +kernel
theorem dX12_digest_32 : decode cX12_digest 32 = .ok (.istore_n 3, 1) := by decide +kernel
theorem dX12_digest_33 : decode cX12_digest 33 = .ok (.iload_n 3, 1) := by decide +kernel
theorem dX12_digest_34 : decode cX12_digest 34 = .ok (.aload_n 0, 1) := by decide +kernel
theorem dX12_digest_35 : decode cX12_digest 35 = .ok (.iconst 0, 1) := by decide +kernel
theorem dX12_digest_36 : decode cX12_digest 36 = .ok (.invokevirtual 43, 3) := by decide +kernel
theorem dX12_digest_39 : decode cX12_digest 39 = .ok (.if_icmp .ge 54, 3) := by decide +kernel
theorem dX12_digest_42 : decode cX12_digest 42 = .ok (.iconst 0, 1) := by decide +kernel
theorem dX12_digest_43 : decode cX12_digest 43 = .ok (.istore 4, 2) := by decide +kernel
theorem dX12_digest_45 : decode cX12_digest 45 = .ok (.iload 4, 2) := by decide +kernel
theorem dX12_digest_47 : decode cX12_digest 47 = .ok (.iconst 1, 1) := by decide +kernel
theorem dX12_digest_48 : decode cX12_digest 48 = .ok (.iconst 2, 1) := by decide +kernel
theorem dX12_digest_49 : decode cX12_digest 49 = .ok (.aload_n 0, 1) := by decide +kernel
theorem dX12_digest_50 : decode cX12_digest 50 = .ok (.iload_n 3, 1) := by decide +kernel
theorem dX12_digest_51 : decode cX12_digest 51 = .ok (.invokevirtual 51, 3) := by decide +kernel
theorem dX12_digest_54 : decode cX12_digest 54 = .ok (.imul, 1) := by decide +kernel
theorem dX12_digest_55 : decode cX12_digest 55 = .ok (.iadd, 1) := by decide +kernel
theorem dX12_digest_56 : decode cX12_digest 56 = .ok (.if_icmp .ge 31, 3) := by decide +kernel
theorem dX12_digest_59 : decode cX12_digest 59 = .ok (.ldc2_w 208, 3) := by decide +kernel
theorem dX12_digest_62 : decode cX12_digest 62 = .ok (.lload_n 1, 1) := by decide +kernel
theorem dX12_digest_63 : decode cX12_digest 63 = .ok (.lmul, 1) := by decide +kernel
theorem dX12_digest_64 : decode cX12_digest 64 = .ok (.aload_n 0, 1) := by decide +kernel
theorem dX12_digest_65 : decode cX12_digest 65 = .ok (.bipush 36, 2) := by decide +kernel
theorem dX12_digest_67 : decode cX12_digest 67 = .ok (.bipush 17, 2) := by decide +kernel
theorem dX12_digest_69 : decode cX12_digest 69 = .ok (.iload_n 3, 1) := by decide +kernel
theorem dX12_digest_70 : decode cX12_digest 70 = .ok (.imul, 1) := by decide +kernel
theorem dX12_digest_71 : decode cX12_digest 71 = .ok (.iadd, 1) := by decide +kernel
theorem dX12_digest_72 : decode cX12_digest 72 = .ok (.iload 4, 2) := by decide +kernel
theorem dX12_digest_74 : decode cX12_digest 74 = .ok (.iadd, 1) := by decide +kernel
theorem dX12_digest_75 : decode cX12_digest 75 = .ok (.invokevirtual 43, 3) := by decide +kernel
theorem dX12_digest_78 : decode cX12_digest 78 = .ok (.i2l, 1) := by decide +kernel
theorem dX12_digest_79 : decode cX12_digest 79 = .ok (.ladd, 1) := by decide +kernel
theorem dX12_digest_80 : decode cX12_digest 80 = .ok (.lstore_n 1, 1) := by decide +kernel
theorem dX12_digest_81 : decode cX12_digest 81 = .ok (.iinc 4 1, 3) := by decide +kernel
theorem dX12_digest_84 : decode cX12_digest 84 = .ok (.goto (-39), 3) := by decide +kernel
theorem dX12_digest_87 : decode cX12_digest 87 = .ok (.iinc 3 1, 3) := by decide +kernel
theorem dX12_digest_90 : decode cX12_digest 90 = .ok (.goto (-57), 3) := by decide +kernel
theorem dX12_digest_93 : decode cX12_digest 93 = .ok (.iconst 0, 1) := by decide +kernel
theorem dX12_digest_94 : decode cX12_digest 94 = .ok (.istore_n 3, 1) := by decide +kernel
theorem dX12_digest_95 : decode cX12_digest 95 = .ok (.iload_n 3, 1) := by decide +kernel
theorem dX12_digest_96 : decode cX12_digest 96 = .ok (.bipush 10, 2) := by decide +kernel
theorem dX12_digest_98 : decode cX12_digest 98 = .ok (.if_icmp .ge 25, 3) := by decide +kernel
theorem dX12_digest_101 : decode cX12_digest 101 = .ok (.ldc2_w 208, 3) := by decide +kernel
theorem dX12_digest_104 : decode cX12_digest 104 = .ok (.lload_n 1, 1) := by decide +kernel
theorem dX12_digest_105 : decode cX12_digest 105 = .ok (.lmul, 1) := by decide +kernel
theorem dX12_digest_106 : decode cX12_digest 106 = .ok (.aload_n 0, 1) := by decide +kernel
theorem dX12_digest_107 : decode cX12_digest 107 = .ok (.bipush 26, 2) := by decide +kernel
theorem dX12_digest_109 : decode cX12_digest 109 = .ok (.iload_n 3, 1) := by decide +kernel
theorem dX12_digest_110 : decode cX12_digest 110 = .ok (.iadd, 1) := by decide +kernel
theorem dX12_digest_111 : decode cX12_digest 111 = .ok (.invokevirtual 43, 3) := by decide +kernel
theorem dX12_digest_114 : decode cX12_digest 114 = .ok (.i2l, 1) := by decide +kernel
theorem dX12_digest_115 : decode cX12_digest 115 = .ok (.ladd, 1) := by decide +kernel
theorem dX12_digest_116 : decode cX12_digest 116 = .ok (.lstore_n 1, 1) := by decide +kernel
theorem dX12_digest_117 : decode cX12_digest 117 = .ok (.iinc 3 1, 3) := by decide +kernel
theorem dX12_digest_120 : decode cX12_digest 120 = .ok (.goto (-25), 3) := by decide +kernel
theorem dX12_digest_123 : decode cX12_digest 123 = .ok (.aload_n 0, 1) := by decide +kernel
theorem dX12_digest_124 : decode cX12_digest 124 = .ok (.aload_n 0, 1) := by decide +kernel
theorem dX12_digest_125 : decode cX12_digest 125 = .ok (.iconst 2, 1) := by decide +kernel
theorem dX12_digest_126 : decode cX12_digest 126 = .ok (.invokevirtual 43, 3) := by decide +kernel
theorem dX12_digest_129 : decode cX12_digest 129 = .ok (.invokevirtual 154, 3) := by decide +kernel
theorem dX12_digest_132 : decode cX12_digest 132 = .ok (.iconst 0, 1) := by decide +kernel
theorem dX12_digest_133 : decode cX12_digest 133 = .ok (.istore_n 3, 1) := by decide +kernel
theorem dX12_digest_134 : decode cX12_digest 134 = .ok (.iload_n 3, 1) := by decide +kernel
theorem dX12_digest_135 : decode cX12_digest 135 = .ok (.aload_n 0, 1) := by decide +kernel
theorem dX12_digest_136 : decode cX12_digest 136 = .ok (.getfield 132, 3) := by decide +kernel
theorem dX12_digest_139 : decode cX12_digest 139 = .ok (.if_icmp .ge 23, 3) := by decide +kernel
theorem dX12_digest_142 : decode cX12_digest 142 = .ok (.ldc2_w 208, 3) := by decide +kernel
theorem dX12_digest_145 : decode cX12_digest 145 = .ok (.lload_n 1, 1) := by decide +kernel
theorem dX12_digest_146 : decode cX12_digest 146 = .ok (.lmul, 1) := by decide +kernel
theorem dX12_digest_147 : decode cX12_digest 147 = .ok (.aload_n 0, 1) := by decide +kernel
theorem dX12_digest_148 : decode cX12_digest 148 = .ok (.getfield 24, 3) := by decide +kernel
theorem dX12_digest_151 : decode cX12_digest 151 = .ok (.iload_n 3, 1) := by decide +kernel
theorem dX12_digest_152 : decode cX12_digest 152 = .ok (.iaload, 1) := by decide +kernel
theorem dX12_digest_153 : decode cX12_digest 153 = .ok (.i2l, 1) := by decide +kernel
theorem dX12_digest_154 : decode cX12_digest 154 = .ok (.ladd, 1) := by decide +kernel
theorem dX12_digest_155 : decode cX12_digest 155 = .ok (.lstore_n 1, 1) := by decide +kernel
theorem dX12_digest_156 : decode cX12_digest 156 = .ok (.iinc 3 1, 3) := by decide +kernel
theorem dX12_digest_159 : decode cX12_digest 159 = .ok (.goto (-25), 3) := by decide +kernel
theorem dX12_digest_162 : decode cX12_digest 162 = .ok (.iconst 0, 1) := by decide +kernel
theorem dX12_digest_163 : decode cX12_digest 163 = .ok (.istore_n 3, 1) := by decide +kernel
theorem dX12_digest_164 : decode cX12_digest 164 = .ok (.iload_n 3, 1) := by decide +kernel
theorem dX12_digest_165 : decode cX12_digest 165 = .ok (.aload_n 0, 1) := by decide +kernel
theorem dX12_digest_166 : decode cX12_digest 166 = .ok (.iconst 3, 1) := by decide +kernel
theorem dX12_digest_167 : decode cX12_digest 167 = .ok (.invokevirtual 43, 3) := by decide +kernel
theorem dX12_digest_170 : decode cX12_digest 170 = .ok (.if_icmp .ge 25, 3) := by decide +kernel
theorem dX12_digest_173 : decode cX12_digest 173 = .ok (.ldc2_w 208, 3) := by decide +kernel
theorem dX12_digest_176 : decode cX12_digest 176 = .ok (.lload_n 1, 1) := by decide +kernel
theorem dX12_digest_177 : decode cX12_digest 177 = .ok (.lmul, 1) := by decide +kernel
theorem dX12_digest_178 : decode cX12_digest 178 = .ok (.aload_n 0, 1) := by decide +kernel
theorem dX12_digest_179 : decode cX12_digest 179 = .ok (.bipush 6, 2) := by decide +kernel
theorem dX12_digest_181 : decode cX12_digest 181 = .ok (.iload_n 3, 1) := by decide +kernel
theorem dX12_digest_182 : decode cX12_digest 182 = .ok (.iadd, 1) := by decide +kernel
theorem dX12_digest_183 : decode cX12_digest 183 = .ok (.invokevirtual 43, 3) := by decide +kernel
theorem dX12_digest_186 : decode cX12_digest 186 = .ok (.i2l, 1) := by decide +kernel
theorem dX12_digest_187 : decode cX12_digest 187 = .ok (.ladd, 1) := by decide +kernel
theorem dX12_digest_188 : decode cX12_digest 188 = .ok (.lstore_n 1, 1) := by decide +kernel
theorem dX12_digest_189 : decode cX12_digest 189 = .ok (.iinc 3 1, 3) := by decide +kernel
theorem dX12_digest_192 : decode cX12_digest 192 = .ok (.goto (-28), 3) := by decide +kernel
theorem dX12_digest_195 : decode cX12_digest 195 = .ok (.iconst 0, 1) := by decide +kernel
theorem dX12_digest_196 : decode cX12_digest 196 = .ok (.istore_n 3, 1) := by decide +kernel
theorem dX12_digest_197 : decode cX12_digest 197 = .ok (.iload_n 3, 1) := by decide +kernel
theorem dX12_digest_198 : decode cX12_digest 198 = .ok (.iconst 2, 1) := by decide +kernel
theorem dX12_digest_199 : decode cX12_digest 199 = .ok (.aload_n 0, 1) := by decide +kernel
theorem dX12_digest_200 : decode cX12_digest 200 = .ok (.iconst 4, 1) := by decide +kernel
theorem dX12_digest_201 : decode cX12_digest 201 = .ok (.invokevirtual 43, 3) := by decide +kernel
theorem dX12_digest_204 : decode cX12_digest 204 = .ok (.imul, 1) := by decide +kernel
theorem dX12_digest_205 : decode cX12_digest 205 = .ok (.if_icmp .ge 25, 3) := by decide +kernel
theorem dX12_digest_208 : decode cX12_digest 208 = .ok (.ldc2_w 208, 3) := by decide +kernel
theorem dX12_digest_211 : decode cX12_digest 211 = .ok (.lload_n 1, 1) := by decide +kernel
theorem dX12_digest_212 : decode cX12_digest 212 = .ok (.lmul, 1) := by decide +kernel
theorem dX12_digest_213 : decode cX12_digest 213 = .ok (.aload_n 0, 1) := by decide +kernel
theorem dX12_digest_214 : decode cX12_digest 214 = .ok (.bipush 10, 2) := by decide +kernel
theorem dX12_digest_216 : decode cX12_digest 216 = .ok (.iload_n 3, 1) := by decide +kernel
theorem dX12_digest_217 : decode cX12_digest 217 = .ok (.iadd, 1) := by decide +kernel
theorem dX12_digest_218 : decode cX12_digest 218 = .ok (.invokevirtual 43, 3) := by decide +kernel
theorem dX12_digest_221 : decode cX12_digest 221 = .ok (.i2l, 1) := by decide +kernel
theorem dX12_digest_222 : decode cX12_digest 222 = .ok (.ladd, 1) := by decide +kernel
theorem dX12_digest_223 : decode cX12_digest 223 = .ok (.lstore_n 1, 1) := by decide +kernel
theorem dX12_digest_224 : decode cX12_digest 224 = .ok (.iinc 3 1, 3) := by decide +kernel
theorem dX12_digest_227 : decode cX12_digest 227 = .ok (.goto (-30), 3) := by decide +kernel
theorem dX12_digest_230 : decode cX12_digest 230 = .ok (.lload_n 1, 1) := by decide +kernel
theorem dX12_digest_231 : decode cX12_digest 231 = .ok (.lreturn, 1) := by decide +kernel
