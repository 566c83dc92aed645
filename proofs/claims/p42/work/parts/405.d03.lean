theorem dL_does_184 : decode cL_does 184 = .ok (.bipush 11, 2) := by decide +kernel
theorem dL_does_186 : decode cL_does 186 = .ok (.irem, 1) := by decide +kernel
theorem dL_does_187 : decode cL_does 187 = .ok (.iload 6, 2) := by decide +kernel
theorem dL_does_189 : decode cL_does 189 = .ok (.iconst 3, 1) := by decide +kernel
theorem dL_does_190 : decode cL_does 190 = .ok (.irem, 1) := by decide +kernel
theorem dL_does_191 : decode cL_does 191 = .ok (.ifCond .ne 7, 3) := by decide +kernel
theorem dL_does_194 : decode cL_does 194 = .ok (.iconst 1, 1) := by decide +kernel
theorem dL_does_195 : decode cL_does 195 = .ok (.goto 4, 3) := by decide +kernel
theorem dL_does_198 : decode cL_does 198 = .ok (.iconst 0, 1) := by decide +kernel
theorem dL_does_199 : decode cL_does 199 = .ok (.invokestatic 201, 3) := by decide +kernel
theorem dL_does_202 : decode cL_does 202 = .ok (.ireturn, 1) := by decide +kernel
theorem dL_does_203 : decode cL_does 203 = .ok (.aload_n 3, 1) := by decide +kernel
theorem dL_does_204 : decode cL_does 204 = .ok (.iload 6, 2) := by decide +kernel
theorem dL_does_206 : decode cL_does 206 = .ok (.iconst 5, 1) := by decide +kernel
theorem dL_does_207 : decode cL_does 207 = .ok (.irem, 1) := by decide +kernel
theorem dL_does_208 : decode cL_does 208 = .ok (.invokestatic 204, 3) := by decide +kernel
theorem dL_does_211 : decode cL_does 211 = .ok (.ireturn, 1) := by decide +kernel
theorem dL_does_212 : decode cL_does 212 = .ok (.aload_n 3, 1) := by decide +kernel
theorem dL_does_213 : decode cL_does 213 = .ok (.iload 6, 2) := by decide +kernel
theorem dL_does_215 : decode cL_does 215 = .ok (.iconst 5, 1) := by decide +kernel
theorem dL_does_216 : decode cL_does 216 = .ok (.irem, 1) := by decide +kernel
theorem dL_does_217 : decode cL_does 217 = .ok (.invokestatic 206, 3) := by decide +kernel
theorem dL_does_220 : decode cL_does 220 = .ok (.ireturn, 1) := by decide +kernel
theorem dL_does_221 : decode cL_does 221 = .ok (.aload_n 3, 1) := by decide +kernel
theorem dL_does_222 : decode cL_does 222 = .ok (.iload 4, 2) := by decide +kernel
theorem dL_does_224 : decode cL_does 224 = .ok (.invokestatic 208, 3) := by decide +kernel
theorem dL_does_227 : decode cL_does 227 = .ok (.ireturn, 1) := by decide +kernel
theorem dL_does_228 : decode cL_does 228 = .ok (.aload_n 3, 1) := by decide +kernel
theorem dL_does_229 : decode cL_does 229 = .ok (.iload 4, 2) := by decide +kernel
theorem dL_does_231 : decode cL_does 231 = .ok (.iconst 1, 1) := by decide +kernel
theorem dL_does_232 : decode cL_does 232 = .ok (.iload 6, 2) := by decide +kernel
theorem dL_does_234 : decode cL_does 234 = .ok (.bipush 8, 2) := by decide +kernel
theorem dL_does_236 : decode cL_does 236 = .ok (.irem, 1) := by decide +kernel
theorem dL_does_237 : decode cL_does 237 = .ok (.iadd, 1) := by decide +kernel
theorem dL_does_238 : decode cL_does 238 = .ok (.invokestatic 210, 3) := by decide +kernel
theorem dL_does_241 : decode cL_does 241 = .ok (.ireturn, 1) := by decide +kernel
theorem dL_does_242 : decode cL_does 242 = .ok (.aload_n 3, 1) := by decide +kernel
theorem dL_does_243 : decode cL_does 243 = .ok (.iload 4, 2) := by decide +kernel
theorem dL_does_245 : decode cL_does 245 = .ok (.invokestatic 212, 3) := by decide +kernel
theorem dL_does_248 : decode cL_does 248 = .ok (.ireturn, 1) := by decide +kernel
theorem dL_does_249 : decode cL_does 249 = .ok (.aload_n 3, 1) := by decide +kernel
theorem dL_does_250 : decode cL_does 250 = .ok (.iload 4, 2) := by decide +kernel
theorem dL_does_252 : decode cL_does 252 = .ok (.iload 7, 2) := by decide +kernel
theorem dL_does_254 : decode cL_does 254 = .ok (.iconst 1, 1) := by decide +kernel
theorem dL_does_255 : decode cL_does 255 = .ok (.iload 6, 2) := by decide +kernel
theorem dL_does_257 : decode cL_does 257 = .ok (.bipush 11, 2) := by decide +kernel
theorem dL_does_259 : decode cL_does 259 = .ok (.irem, 1) := by decide +kernel
theorem dL_does_260 : decode cL_does 260 = .ok (.iadd, 1) := by decide +kernel
theorem dL_does_261 : decode cL_does 261 = .ok (.invokestatic 214, 3) := by decide +kernel
theorem dL_does_264 : decode cL_does 264 = .ok (.ireturn, 1) := by decide +kernel
theorem dL_does_265 : decode cL_does 265 = .ok (.aload_n 3, 1) := by decide +kernel
theorem dL_does_266 : decode cL_does 266 = .ok (.new 217, 3) := by decide +kernel
theorem dL_does_269 : decode cL_does 269 = .ok (.dup, 1) := by decide +kernel
theorem dL_does_270 : decode cL_does 270 = .ok (.invokespecial 219, 3) := by decide +kernel
theorem dL_does_273 : decode cL_does 273 = .ok (.ldc 220, 2) := by decide +kernel
theorem dL_does_275 : decode cL_does 275 = .ok (.invokevirtual 222, 3) := by decide +kernel
theorem dL_does_278 : decode cL_does 278 = .ok (.iload 6, 2) := by decide +kernel
theorem dL_does_280 : decode cL_does 280 = .ok (.iconst 4, 1) := by decide +kernel
theorem dL_does_281 : decode cL_does 281 = .ok (.irem, 1) := by decide +kernel
theorem dL_does_282 : decode cL_does 282 = .ok (.ifCond .ne 31, 3) := by decide +kernel
theorem dL_does_285 : decode cL_does 285 = .ok (.new 217, 3) := by decide +kernel
theorem dL_does_288 : decode cL_does 288 = .ok (.dup, 1) := by decide +kernel
theorem dL_does_289 : decode cL_does 289 = .ok (.invokespecial 219, 3) := by decide +kernel
theorem dL_does_292 : decode cL_does 292 = .ok (.ldc 225, 2) := by decide +kernel
theorem dL_does_294 : decode cL_does 294 = .ok (.invokevirtual 222, 3) := by decide +kernel
theorem dL_does_297 : decode cL_does 297 = .ok (.iload 5, 2) := by decide +kernel
theorem dL_does_299 : decode cL_does 299 = .ok (.invokevirtual 227, 3) := by decide +kernel
theorem dL_does_302 : decode cL_does 302 = .ok (.ldc 230, 2) := by decide +kernel
theorem dL_does_304 : decode cL_does 304 = .ok (.invokevirtual 222, 3) := by decide +kernel
theorem dL_does_307 : decode cL_does 307 = .ok (.invokevirtual 232, 3) := by decide +kernel
theorem dL_does_310 : decode cL_does 310 = .ok (.goto 92, 3) := by decide +kernel
theorem dL_does_313 : decode cL_does 313 = .ok (.iload 6, 2) := by decide +kernel
theorem dL_does_315 : decode cL_does 315 = .ok (.iconst 4, 1) := by decide +kernel
theorem dL_does_316 : decode cL_does 316 = .ok (.irem, 1) := by decide +kernel
theorem dL_does_317 : decode cL_does 317 = .ok (.iconst 1, 1) := by decide +kernel
theorem dL_does_318 : decode cL_does 318 = .ok (.if_icmp .ne 26, 3) := by decide +kernel
theorem dL_does_321 : decode cL_does 321 = .ok (.new 217, 3) := by decide +kernel
theorem dL_does_324 : decode cL_does 324 = .ok (.dup, 1) := by decide +kernel
theorem dL_does_325 : decode cL_does 325 = .ok (.invokespecial 219, 3) := by decide +kernel
theorem dL_does_328 : decode cL_does 328 = .ok (.ldc 236, 2) := by decide +kernel
theorem dL_does_330 : decode cL_does 330 = .ok (.invokevirtual 222, 3) := by decide +kernel
theorem dL_does_333 : decode cL_does 333 = .ok (.iload 4, 2) := by decide +kernel
theorem dL_does_335 : decode cL_does 335 = .ok (.invokevirtual 227, 3) := by decide +kernel
theorem dL_does_338 : decode cL_does 338 = .ok (.invokevirtual 232, 3) := by decide +kernel
theorem dL_does_341 : decode cL_does 341 = .ok (.goto 61, 3) := by decide +kernel
theorem dL_does_344 : decode cL_does 344 = .ok (.iload 6, 2) := by decide +kernel
theorem dL_does_346 : decode cL_does 346 = .ok (.iconst 4, 1) := by decide +kernel
theorem dL_does_347 : decode cL_does 347 = .ok (.irem, 1) := by decide +kernel
theorem dL_does_348 : decode cL_does 348 = .ok (.iconst 2, 1) := by decide +kernel
theorem dL_does_349 : decode cL_does 349 = .ok (.if_icmp .ne 51, 3) := by decide +kernel
theorem dL_does_352 : decode cL_does 352 = .ok (.new 217, 3) := by decide +kernel
theorem dL_does_355 : decode cL_does 355 = .ok (.dup, 1) := by decide +kernel
theorem dL_does_356 : decode cL_does 356 = .ok (.invokespecial 219, 3) := by decide +kernel
theorem dL_does_359 : decode cL_does 359 = .ok (.ldc 238, 2) := by decide +kernel
theorem dL_does_361 : decode cL_does 361 = .ok (.invokevirtual 222, 3) := by decide +kernel
theorem dL_does_364 : decode cL_does 364 = .ok (.iload 4, 2) := by decide +kernel
theorem dL_does_366 : decode cL_does 366 = .ok (.invokevirtual 227, 3) := by decide +kernel
theorem dL_does_369 : decode cL_does 369 = .ok (.ldc 240, 2) := by decide +kernel
theorem dL_does_371 : decode cL_does 371 = .ok (.invokevirtual 222, 3) := by decide +kernel
theorem dL_does_374 : decode cL_does 374 = .ok (.iload 7, 2) := by decide +kernel
