theorem d_Law_256 : decode code 256 = .ok (.iconst 1, 1) := by decide +kernel
theorem d_Law_257 : decode code 257 = .ok (.iadd, 1) := by decide +kernel
theorem d_Law_258 : decode code 258 = .ok (.iaload, 1) := by decide +kernel
theorem d_Law_259 : decode code 259 = .ok (.invokevirtual 36, 3) := by decide +kernel
theorem d_Law_262 : decode code 262 = .ok (.aload_n 2, 1) := by decide +kernel
theorem d_Law_263 : decode code 263 = .ok (.aload_n 0, 1) := by decide +kernel
theorem d_Law_264 : decode code 264 = .ok (.iload_n 3, 1) := by decide +kernel
theorem d_Law_265 : decode code 265 = .ok (.iconst 1, 1) := by decide +kernel
theorem d_Law_266 : decode code 266 = .ok (.iadd, 1) := by decide +kernel
theorem d_Law_267 : decode code 267 = .ok (.iaload, 1) := by decide +kernel
theorem d_Law_268 : decode code 268 = .ok (.invokevirtual 39, 3) := by decide +kernel
theorem d_Law_271 : decode code 271 = .ok (.if_icmp .eq 267, 3) := by decide +kernel
theorem d_Law_274 : decode code 274 = .ok (.iconst 0, 1) := by decide +kernel
theorem d_Law_275 : decode code 275 = .ok (.ireturn, 1) := by decide +kernel
theorem d_Law_276 : decode code 276 = .ok (.aload_n 1, 1) := by decide +kernel
theorem d_Law_277 : decode code 277 = .ok (.invokevirtual 40, 3) := by decide +kernel
theorem d_Law_280 : decode code 280 = .ok (.aload_n 2, 1) := by decide +kernel
theorem d_Law_281 : decode code 281 = .ok (.invokevirtual 43, 3) := by decide +kernel
theorem d_Law_284 : decode code 284 = .ok (.if_icmp .eq 254, 3) := by decide +kernel
theorem d_Law_287 : decode code 287 = .ok (.iconst 0, 1) := by decide +kernel
theorem d_Law_288 : decode code 288 = .ok (.ireturn, 1) := by decide +kernel
theorem d_Law_289 : decode code 289 = .ok (.aload_n 1, 1) := by decide +kernel
theorem d_Law_290 : decode code 290 = .ok (.invokevirtual 44, 3) := by decide +kernel
theorem d_Law_293 : decode code 293 = .ok (.aload_n 2, 1) := by decide +kernel
theorem d_Law_294 : decode code 294 = .ok (.invokevirtual 47, 3) := by decide +kernel
theorem d_Law_297 : decode code 297 = .ok (.if_icmp .eq 241, 3) := by decide +kernel
theorem d_Law_300 : decode code 300 = .ok (.iconst 0, 1) := by decide +kernel
theorem d_Law_301 : decode code 301 = .ok (.ireturn, 1) := by decide +kernel
theorem d_Law_302 : decode code 302 = .ok (.aload_n 1, 1) := by decide +kernel
theorem d_Law_303 : decode code 303 = .ok (.invokevirtual 48, 3) := by decide +kernel
theorem d_Law_306 : decode code 306 = .ok (.aload_n 2, 1) := by decide +kernel
theorem d_Law_307 : decode code 307 = .ok (.invokevirtual 51, 3) := by decide +kernel
theorem d_Law_310 : decode code 310 = .ok (.if_icmp .eq 228, 3) := by decide +kernel
theorem d_Law_313 : decode code 313 = .ok (.iconst 0, 1) := by decide +kernel
theorem d_Law_314 : decode code 314 = .ok (.ireturn, 1) := by decide +kernel
theorem d_Law_315 : decode code 315 = .ok (.aload_n 1, 1) := by decide +kernel
theorem d_Law_316 : decode code 316 = .ok (.invokevirtual 52, 3) := by decide +kernel
theorem d_Law_319 : decode code 319 = .ok (.aload_n 2, 1) := by decide +kernel
theorem d_Law_320 : decode code 320 = .ok (.invokevirtual 55, 3) := by decide +kernel
theorem d_Law_323 : decode code 323 = .ok (.if_icmp .eq 215, 3) := by decide +kernel
theorem d_Law_326 : decode code 326 = .ok (.iconst 0, 1) := by decide +kernel
theorem d_Law_327 : decode code 327 = .ok (.ireturn, 1) := by decide +kernel
theorem d_Law_328 : decode code 328 = .ok (.aload_n 1, 1) := by decide +kernel
theorem d_Law_329 : decode code 329 = .ok (.aload_n 0, 1) := by decide +kernel
theorem d_Law_330 : decode code 330 = .ok (.iload_n 3, 1) := by decide +kernel
theorem d_Law_331 : decode code 331 = .ok (.iconst 1, 1) := by decide +kernel
theorem d_Law_332 : decode code 332 = .ok (.iadd, 1) := by decide +kernel
theorem d_Law_333 : decode code 333 = .ok (.iaload, 1) := by decide +kernel
theorem d_Law_334 : decode code 334 = .ok (.invokevirtual 56, 3) := by decide +kernel
theorem d_Law_337 : decode code 337 = .ok (.aload_n 2, 1) := by decide +kernel
theorem d_Law_338 : decode code 338 = .ok (.aload_n 0, 1) := by decide +kernel
theorem d_Law_339 : decode code 339 = .ok (.iload_n 3, 1) := by decide +kernel
theorem d_Law_340 : decode code 340 = .ok (.iconst 1, 1) := by decide +kernel
theorem d_Law_341 : decode code 341 = .ok (.iadd, 1) := by decide +kernel
theorem d_Law_342 : decode code 342 = .ok (.iaload, 1) := by decide +kernel
theorem d_Law_343 : decode code 343 = .ok (.invokevirtual 60, 3) := by decide +kernel
theorem d_Law_346 : decode code 346 = .ok (.if_icmp .eq 192, 3) := by decide +kernel
theorem d_Law_349 : decode code 349 = .ok (.iconst 0, 1) := by decide +kernel
theorem d_Law_350 : decode code 350 = .ok (.ireturn, 1) := by decide +kernel
theorem d_Law_351 : decode code 351 = .ok (.aload_n 1, 1) := by decide +kernel
