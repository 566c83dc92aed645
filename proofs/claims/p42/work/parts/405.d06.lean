theorem dL_isBarrel_162 : decode cL_isBarrel 162 = .ok (.iload 6, 2) := by decide +kernel
theorem dL_isBarrel_164 : decode cL_isBarrel 164 = .ok (.iload_n 2, 1) := by decide +kernel
theorem dL_isBarrel_165 : decode cL_isBarrel 165 = .ok (.iadd, 1) := by decide +kernel
theorem dL_isBarrel_166 : decode cL_isBarrel 166 = .ok (.iconst 2, 1) := by decide +kernel
theorem dL_isBarrel_167 : decode cL_isBarrel 167 = .ok (.idiv, 1) := by decide +kernel
theorem dL_isBarrel_168 : decode cL_isBarrel 168 = .ok (.iadd, 1) := by decide +kernel
theorem dL_isBarrel_169 : decode cL_isBarrel 169 = .ok (.invokestatic 265, 3) := by decide +kernel
theorem dL_isBarrel_172 : decode cL_isBarrel 172 = .ok (.bipush 100, 2) := by decide +kernel
theorem dL_isBarrel_174 : decode cL_isBarrel 174 = .ok (.iload 5, 2) := by decide +kernel
theorem dL_isBarrel_176 : decode cL_isBarrel 176 = .ok (.isub, 1) := by decide +kernel
theorem dL_isBarrel_177 : decode cL_isBarrel 177 = .ok (.imul, 1) := by decide +kernel
theorem dL_isBarrel_178 : decode cL_isBarrel 178 = .ok (.bipush 100, 2) := by decide +kernel
theorem dL_isBarrel_180 : decode cL_isBarrel 180 = .ok (.idiv, 1) := by decide +kernel
theorem dL_isBarrel_181 : decode cL_isBarrel 181 = .ok (.istore 9, 2) := by decide +kernel
theorem dL_isBarrel_183 : decode cL_isBarrel 183 = .ok (.aload_n 0, 1) := by decide +kernel
theorem dL_isBarrel_184 : decode cL_isBarrel 184 = .ok (.iload_n 1, 1) := by decide +kernel
theorem dL_isBarrel_185 : decode cL_isBarrel 185 = .ok (.invokestatic 177, 3) := by decide +kernel
theorem dL_isBarrel_188 : decode cL_isBarrel 188 = .ok (.iload 8, 2) := by decide +kernel
theorem dL_isBarrel_190 : decode cL_isBarrel 190 = .ok (.if_icmp .ne 28, 3) := by decide +kernel
theorem dL_isBarrel_193 : decode cL_isBarrel 193 = .ok (.aload_n 0, 1) := by decide +kernel
theorem dL_isBarrel_194 : decode cL_isBarrel 194 = .ok (.iload_n 1, 1) := by decide +kernel
theorem dL_isBarrel_195 : decode cL_isBarrel 195 = .ok (.invokestatic 259, 3) := by decide +kernel
theorem dL_isBarrel_198 : decode cL_isBarrel 198 = .ok (.iload 8, 2) := by decide +kernel
theorem dL_isBarrel_200 : decode cL_isBarrel 200 = .ok (.if_icmp .ne 18, 3) := by decide +kernel
theorem dL_isBarrel_203 : decode cL_isBarrel 203 = .ok (.aload_n 0, 1) := by decide +kernel
theorem dL_isBarrel_204 : decode cL_isBarrel 204 = .ok (.iload_n 1, 1) := by decide +kernel
theorem dL_isBarrel_205 : decode cL_isBarrel 205 = .ok (.iload_n 2, 1) := by decide +kernel
theorem dL_isBarrel_206 : decode cL_isBarrel 206 = .ok (.invokestatic 270, 3) := by decide +kernel
theorem dL_isBarrel_209 : decode cL_isBarrel 209 = .ok (.iload 9, 2) := by decide +kernel
theorem dL_isBarrel_211 : decode cL_isBarrel 211 = .ok (.if_icmp .ne 7, 3) := by decide +kernel
theorem dL_isBarrel_214 : decode cL_isBarrel 214 = .ok (.iconst 1, 1) := by decide +kernel
theorem dL_isBarrel_215 : decode cL_isBarrel 215 = .ok (.goto 4, 3) := by decide +kernel
theorem dL_isBarrel_218 : decode cL_isBarrel 218 = .ok (.iconst 0, 1) := by decide +kernel
theorem dL_isBarrel_219 : decode cL_isBarrel 219 = .ok (.istore 10, 2) := by decide +kernel
theorem dL_isBarrel_221 : decode cL_isBarrel 221 = .ok (.iload 5, 2) := by decide +kernel
theorem dL_isBarrel_223 : decode cL_isBarrel 223 = .ok (.ifCond .gt 8, 3) := by decide +kernel
theorem dL_isBarrel_226 : decode cL_isBarrel 226 = .ok (.iload 7, 2) := by decide +kernel
theorem dL_isBarrel_228 : decode cL_isBarrel 228 = .ok (.ifCond .ne 7, 3) := by decide +kernel
theorem dL_isBarrel_231 : decode cL_isBarrel 231 = .ok (.iconst 1, 1) := by decide +kernel
theorem dL_isBarrel_232 : decode cL_isBarrel 232 = .ok (.goto 4, 3) := by decide +kernel
theorem dL_isBarrel_235 : decode cL_isBarrel 235 = .ok (.iconst 0, 1) := by decide +kernel
theorem dL_isBarrel_236 : decode cL_isBarrel 236 = .ok (.istore 11, 2) := by decide +kernel
theorem dL_isBarrel_238 : decode cL_isBarrel 238 = .ok (.iconst 0, 1) := by decide +kernel
theorem dL_isBarrel_239 : decode cL_isBarrel 239 = .ok (.istore 12, 2) := by decide +kernel
theorem dL_isBarrel_241 : decode cL_isBarrel 241 = .ok (.iload 12, 2) := by decide +kernel
theorem dL_isBarrel_243 : decode cL_isBarrel 243 = .ok (.aload_n 0, 1) := by decide +kernel
theorem dL_isBarrel_244 : decode cL_isBarrel 244 = .ok (.iconst 3, 1) := by decide +kernel
theorem dL_isBarrel_245 : decode cL_isBarrel 245 = .ok (.invokestatic 167, 3) := by decide +kernel
theorem dL_isBarrel_248 : decode cL_isBarrel 248 = .ok (.if_icmp .ge 36, 3) := by decide +kernel
theorem dL_isBarrel_251 : decode cL_isBarrel 251 = .ok (.iload 11, 2) := by decide +kernel
theorem dL_isBarrel_253 : decode cL_isBarrel 253 = .ok (.aload_n 0, 1) := by decide +kernel
theorem dL_isBarrel_254 : decode cL_isBarrel 254 = .ok (.iload 12, 2) := by decide +kernel
theorem dL_isBarrel_256 : decode cL_isBarrel 256 = .ok (.iload_n 1, 1) := by decide +kernel
theorem dL_isBarrel_257 : decode cL_isBarrel 257 = .ok (.invokestatic 272, 3) := by decide +kernel
theorem dL_isBarrel_260 : decode cL_isBarrel 260 = .ok (.iload 7, 2) := by decide +kernel
theorem dL_isBarrel_262 : decode cL_isBarrel 262 = .ok (.iload 12, 2) := by decide +kernel
theorem dL_isBarrel_264 : decode cL_isBarrel 264 = .ok (.ishr, 1) := by decide +kernel
theorem dL_isBarrel_265 : decode cL_isBarrel 265 = .ok (.iconst 1, 1) := by decide +kernel
theorem dL_isBarrel_266 : decode cL_isBarrel 266 = .ok (.iand, 1) := by decide +kernel
theorem dL_isBarrel_267 : decode cL_isBarrel 267 = .ok (.if_icmp .ne 7, 3) := by decide +kernel
theorem dL_isBarrel_270 : decode cL_isBarrel 270 = .ok (.iconst 1, 1) := by decide +kernel
theorem dL_isBarrel_271 : decode cL_isBarrel 271 = .ok (.goto 4, 3) := by decide +kernel
theorem dL_isBarrel_274 : decode cL_isBarrel 274 = .ok (.iconst 0, 1) := by decide +kernel
theorem dL_isBarrel_275 : decode cL_isBarrel 275 = .ok (.iand, 1) := by decide +kernel
theorem dL_isBarrel_276 : decode cL_isBarrel 276 = .ok (.istore 11, 2) := by decide +kernel
theorem dL_isBarrel_278 : decode cL_isBarrel 278 = .ok (.iinc 12 1, 3) := by decide +kernel
theorem dL_isBarrel_281 : decode cL_isBarrel 281 = .ok (.goto (-40), 3) := by decide +kernel
theorem dL_isBarrel_284 : decode cL_isBarrel 284 = .ok (.aload_n 0, 1) := by decide +kernel
theorem dL_isBarrel_285 : decode cL_isBarrel 285 = .ok (.iload_n 1, 1) := by decide +kernel
theorem dL_isBarrel_286 : decode cL_isBarrel 286 = .ok (.invokestatic 261, 3) := by decide +kernel
theorem dL_isBarrel_289 : decode cL_isBarrel 289 = .ok (.istore 12, 2) := by decide +kernel
theorem dL_isBarrel_291 : decode cL_isBarrel 291 = .ok (.bipush 20, 2) := by decide +kernel
theorem dL_isBarrel_293 : decode cL_isBarrel 293 = .ok (.iload_n 3, 1) := by decide +kernel
theorem dL_isBarrel_294 : decode cL_isBarrel 294 = .ok (.isub, 1) := by decide +kernel
theorem dL_isBarrel_295 : decode cL_isBarrel 295 = .ok (.aload_n 0, 1) := by decide +kernel
theorem dL_isBarrel_296 : decode cL_isBarrel 296 = .ok (.iconst 2, 1) := by decide +kernel
theorem dL_isBarrel_297 : decode cL_isBarrel 297 = .ok (.invokestatic 167, 3) := by decide +kernel
theorem dL_isBarrel_300 : decode cL_isBarrel 300 = .ok (.invokestatic 265, 3) := by decide +kernel
theorem dL_isBarrel_303 : decode cL_isBarrel 303 = .ok (.istore 13, 2) := by decide +kernel
theorem dL_isBarrel_305 : decode cL_isBarrel 305 = .ok (.aload_n 0, 1) := by decide +kernel
theorem dL_isBarrel_306 : decode cL_isBarrel 306 = .ok (.iload_n 1, 1) := by decide +kernel
theorem dL_isBarrel_307 : decode cL_isBarrel 307 = .ok (.invokestatic 274, 3) := by decide +kernel
theorem dL_isBarrel_310 : decode cL_isBarrel 310 = .ok (.iload 12, 2) := by decide +kernel
theorem dL_isBarrel_312 : decode cL_isBarrel 312 = .ok (.if_icmp .ne 49, 3) := by decide +kernel
theorem dL_isBarrel_315 : decode cL_isBarrel 315 = .ok (.iload 7, 2) := by decide +kernel
theorem dL_isBarrel_317 : decode cL_isBarrel 317 = .ok (.ifCond .eq 13, 3) := by decide +kernel
theorem dL_isBarrel_320 : decode cL_isBarrel 320 = .ok (.iload 12, 2) := by decide +kernel
theorem dL_isBarrel_322 : decode cL_isBarrel 322 = .ok (.bipush (-75), 2) := by decide +kernel
theorem dL_isBarrel_324 : decode cL_isBarrel 324 = .ok (.if_icmp .ne 37, 3) := by decide +kernel
theorem dL_isBarrel_327 : decode cL_isBarrel 327 = .ok (.goto 30, 3) := by decide +kernel
theorem dL_isBarrel_330 : decode cL_isBarrel 330 = .ok (.iload 12, 2) := by decide +kernel
theorem dL_isBarrel_332 : decode cL_isBarrel 332 = .ok (.ifCond .lt 29, 3) := by decide +kernel
theorem dL_isBarrel_335 : decode cL_isBarrel 335 = .ok (.iload 12, 2) := by decide +kernel
theorem dL_isBarrel_337 : decode cL_isBarrel 337 = .ok (.iload 13, 2) := by decide +kernel
theorem dL_isBarrel_339 : decode cL_isBarrel 339 = .ok (.if_icmp .gt 22, 3) := by decide +kernel
theorem dL_isBarrel_342 : decode cL_isBarrel 342 = .ok (.aload_n 0, 1) := by decide +kernel
theorem dL_isBarrel_343 : decode cL_isBarrel 343 = .ok (.iconst 3, 1) := by decide +kernel
theorem dL_isBarrel_344 : decode cL_isBarrel 344 = .ok (.invokestatic 167, 3) := by decide +kernel
theorem dL_isBarrel_347 : decode cL_isBarrel 347 = .ok (.ifCond .gt 10, 3) := by decide +kernel
theorem dL_isBarrel_350 : decode cL_isBarrel 350 = .ok (.iload 12, 2) := by decide +kernel
