abbrev mL_law (nm : String) : MD := (⟨RL, nm, "([I)Z"⟩, cL_law, 8, ret)
theorem eL_0 : decode cL_law 0 = .ok (.new 8, 3) := by decide +kernel
theorem dL_0 {nm : String} : gd (mL_law nm) 0 (.new 8) 3 3 := ⟨eL_0, rfl⟩
theorem eL_3 : decode cL_law 3 = .ok (.dup, 1) := by decide +kernel
theorem dL_3 {nm : String} : gd (mL_law nm) 3 (.dup) 1 4 := ⟨eL_3, rfl⟩
theorem eL_4 : decode cL_law 4 = .ok (.invokespecial 17, 3) := by decide +kernel
theorem dL_4 {nm : String} : gd (mL_law nm) 4 (.invokespecial 17) 3 7 := ⟨eL_4, rfl⟩
theorem eL_7 : decode cL_law 7 = .ok (.astore_n 1, 1) := by decide +kernel
theorem dL_7 {nm : String} : gd (mL_law nm) 7 (.astore_n 1) 1 8 := ⟨eL_7, rfl⟩
theorem eL_8 : decode cL_law 8 = .ok (.new 18, 3) := by decide +kernel
theorem dL_8 {nm : String} : gd (mL_law nm) 8 (.new 18) 3 11 := ⟨eL_8, rfl⟩
theorem eL_11 : decode cL_law 11 = .ok (.dup, 1) := by decide +kernel
theorem dL_11 {nm : String} : gd (mL_law nm) 11 (.dup) 1 12 := ⟨eL_11, rfl⟩
theorem eL_12 : decode cL_law 12 = .ok (.invokespecial 20, 3) := by decide +kernel
theorem dL_12 {nm : String} : gd (mL_law nm) 12 (.invokespecial 20) 3 15 := ⟨eL_12, rfl⟩
theorem eL_15 : decode cL_law 15 = .ok (.astore_n 2, 1) := by decide +kernel
theorem dL_15 {nm : String} : gd (mL_law nm) 15 (.astore_n 2) 1 16 := ⟨eL_15, rfl⟩
theorem eL_16 : decode cL_law 16 = .ok (.iconst 1, 1) := by decide +kernel
theorem dL_16 {nm : String} : gd (mL_law nm) 16 (.iconst 1) 1 17 := ⟨eL_16, rfl⟩
theorem eL_17 : decode cL_law 17 = .ok (.newarray .long, 2) := by decide +kernel
theorem dL_17 {nm : String} : gd (mL_law nm) 17 (.newarray .long) 2 19 := ⟨eL_17, rfl⟩
theorem eL_19 : decode cL_law 19 = .ok (.astore_n 3, 1) := by decide +kernel
theorem dL_19 {nm : String} : gd (mL_law nm) 19 (.astore_n 3) 1 20 := ⟨eL_19, rfl⟩
theorem eL_20 : decode cL_law 20 = .ok (.iconst 0, 1) := by decide +kernel
theorem dL_20 {nm : String} : gd (mL_law nm) 20 (.iconst 0) 1 21 := ⟨eL_20, rfl⟩
theorem eL_21 : decode cL_law 21 = .ok (.istore 4, 2) := by decide +kernel
theorem dL_21 {nm : String} : gd (mL_law nm) 21 (.istore 4) 2 23 := ⟨eL_21, rfl⟩
theorem eL_23 : decode cL_law 23 = .ok (.iload 4, 2) := by decide +kernel
theorem dL_23 {nm : String} : gd (mL_law nm) 23 (.iload 4) 2 25 := ⟨eL_23, rfl⟩
theorem eL_25 : decode cL_law 25 = .ok (.aload_n 0, 1) := by decide +kernel
theorem dL_25 {nm : String} : gd (mL_law nm) 25 (.aload_n 0) 1 26 := ⟨eL_25, rfl⟩
theorem eL_26 : decode cL_law 26 = .ok (.arraylength, 1) := by decide +kernel
theorem dL_26 {nm : String} : gd (mL_law nm) 26 (.arraylength) 1 27 := ⟨eL_26, rfl⟩
theorem eL_27 : decode cL_law 27 = .ok (.bipush 6, 2) := by decide +kernel
theorem dL_27 {nm : String} : gd (mL_law nm) 27 (.bipush 6) 2 29 := ⟨eL_27, rfl⟩
theorem eL_29 : decode cL_law 29 = .ok (.isub, 1) := by decide +kernel
theorem dL_29 {nm : String} : gd (mL_law nm) 29 (.isub) 1 30 := ⟨eL_29, rfl⟩
theorem eL_30 : decode cL_law 30 = .ok (.if_icmp .gt 1632, 3) := by decide +kernel
theorem dL_30 {nm : String} : gj (mL_law nm) 30 (.if_icmp .gt 1632) (1632) 33 1662 := ⟨eL_30, rfl, by decide⟩
theorem eL_33 : decode cL_law 33 = .ok (.aload_n 0, 1) := by decide +kernel
theorem dL_33 {nm : String} : gd (mL_law nm) 33 (.aload_n 0) 1 34 := ⟨eL_33, rfl⟩
theorem eL_34 : decode cL_law 34 = .ok (.iload 4, 2) := by decide +kernel
theorem dL_34 {nm : String} : gd (mL_law nm) 34 (.iload 4) 2 36 := ⟨eL_34, rfl⟩
theorem eL_36 : decode cL_law 36 = .ok (.iaload, 1) := by decide +kernel
theorem dL_36 {nm : String} : gd (mL_law nm) 36 (.iaload) 1 37 := ⟨eL_36, rfl⟩
theorem eL_37 : decode cL_law 37 = .ok (.bipush 63, 2) := by decide +kernel
theorem dL_37 {nm : String} : gd (mL_law nm) 37 (.bipush 63) 2 39 := ⟨eL_37, rfl⟩
theorem eL_39 : decode cL_law 39 = .ok (.iand, 1) := by decide +kernel
theorem dL_39 {nm : String} : gd (mL_law nm) 39 (.iand) 1 40 := ⟨eL_39, rfl⟩
theorem eL_40 : decode cL_law 40 = .ok (.tableswitch 1616 0 44 #[196, 221, 258, 295, 332, 369, 406, 443, 468, 493, 530, 567, 592, 617, 642, 667, 692, 705, 730, 743, 756, 781, 806, 831, 856, 881, 906, 968, 1017, 1042, 1067, 1104, 1129, 1154, 1203, 1216, 1229, 1254, 1267, 1328, 1377, 1426, 1493, 1566, 1591], 196) := by decide +kernel
theorem eL_236 : decode cL_law 236 = .ok (.aload_n 1, 1) := by decide +kernel
theorem dL_236 {nm : String} : gd (mL_law nm) 236 (.aload_n 1) 1 237 := ⟨eL_236, rfl⟩
theorem eL_237 : decode cL_law 237 = .ok (.aload_n 0, 1) := by decide +kernel
theorem dL_237 {nm : String} : gd (mL_law nm) 237 (.aload_n 0) 1 238 := ⟨eL_237, rfl⟩
theorem eL_238 : decode cL_law 238 = .ok (.iload 4, 2) := by decide +kernel
theorem dL_238 {nm : String} : gd (mL_law nm) 238 (.iload 4) 2 240 := ⟨eL_238, rfl⟩
theorem eL_240 : decode cL_law 240 = .ok (.iconst 1, 1) := by decide +kernel
theorem dL_240 {nm : String} : gd (mL_law nm) 240 (.iconst 1) 1 241 := ⟨eL_240, rfl⟩
theorem eL_241 : decode cL_law 241 = .ok (.iadd, 1) := by decide +kernel
theorem dL_241 {nm : String} : gd (mL_law nm) 241 (.iadd) 1 242 := ⟨eL_241, rfl⟩
theorem eL_242 : decode cL_law 242 = .ok (.iaload, 1) := by decide +kernel
theorem dL_242 {nm : String} : gd (mL_law nm) 242 (.iaload) 1 243 := ⟨eL_242, rfl⟩
theorem eL_243 : decode cL_law 243 = .ok (.invokevirtual 21, 3) := by decide +kernel
theorem dL_243 {nm : String} : gd (mL_law nm) 243 (.invokevirtual 21) 3 246 := ⟨eL_243, rfl⟩
theorem eL_246 : decode cL_law 246 = .ok (.aload_n 2, 1) := by decide +kernel
theorem dL_246 {nm : String} : gd (mL_law nm) 246 (.aload_n 2) 1 247 := ⟨eL_246, rfl⟩
theorem eL_247 : decode cL_law 247 = .ok (.aload_n 0, 1) := by decide +kernel
theorem dL_247 {nm : String} : gd (mL_law nm) 247 (.aload_n 0) 1 248 := ⟨eL_247, rfl⟩
theorem eL_248 : decode cL_law 248 = .ok (.iload 4, 2) := by decide +kernel
theorem dL_248 {nm : String} : gd (mL_law nm) 248 (.iload 4) 2 250 := ⟨eL_248, rfl⟩
theorem eL_250 : decode cL_law 250 = .ok (.iconst 1, 1) := by decide +kernel
theorem dL_250 {nm : String} : gd (mL_law nm) 250 (.iconst 1) 1 251 := ⟨eL_250, rfl⟩
theorem eL_251 : decode cL_law 251 = .ok (.iadd, 1) := by decide +kernel
theorem dL_251 {nm : String} : gd (mL_law nm) 251 (.iadd) 1 252 := ⟨eL_251, rfl⟩
theorem eL_252 : decode cL_law 252 = .ok (.iaload, 1) := by decide +kernel
theorem dL_252 {nm : String} : gd (mL_law nm) 252 (.iaload) 1 253 := ⟨eL_252, rfl⟩
theorem eL_253 : decode cL_law 253 = .ok (.invokevirtual 25, 3) := by decide +kernel
theorem dL_253 {nm : String} : gd (mL_law nm) 253 (.invokevirtual 25) 3 256 := ⟨eL_253, rfl⟩
theorem eL_256 : decode cL_law 256 = .ok (.if_icmp .eq 1400, 3) := by decide +kernel
theorem dL_256 {nm : String} : gj (mL_law nm) 256 (.if_icmp .eq 1400) (1400) 259 1656 := ⟨eL_256, rfl, by decide⟩
theorem eL_259 : decode cL_law 259 = .ok (.iconst 0, 1) := by decide +kernel
theorem dL_259 {nm : String} : gd (mL_law nm) 259 (.iconst 0) 1 260 := ⟨eL_259, rfl⟩
theorem eL_260 : decode cL_law 260 = .ok (.ireturn, 1) := by decide +kernel
theorem eL_261 : decode cL_law 261 = .ok (.aload_n 1, 1) := by decide +kernel
theorem dL_261 {nm : String} : gd (mL_law nm) 261 (.aload_n 1) 1 262 := ⟨eL_261, rfl⟩
theorem eL_262 : decode cL_law 262 = .ok (.aload_n 0, 1) := by decide +kernel
theorem dL_262 {nm : String} : gd (mL_law nm) 262 (.aload_n 0) 1 263 := ⟨eL_262, rfl⟩
theorem eL_263 : decode cL_law 263 = .ok (.iload 4, 2) := by decide +kernel
theorem dL_263 {nm : String} : gd (mL_law nm) 263 (.iload 4) 2 265 := ⟨eL_263, rfl⟩
theorem eL_265 : decode cL_law 265 = .ok (.iconst 1, 1) := by decide +kernel
theorem dL_265 {nm : String} : gd (mL_law nm) 265 (.iconst 1) 1 266 := ⟨eL_265, rfl⟩
theorem eL_266 : decode cL_law 266 = .ok (.iadd, 1) := by decide +kernel
theorem dL_266 {nm : String} : gd (mL_law nm) 266 (.iadd) 1 267 := ⟨eL_266, rfl⟩
theorem eL_267 : decode cL_law 267 = .ok (.iaload, 1) := by decide +kernel
theorem dL_267 {nm : String} : gd (mL_law nm) 267 (.iaload) 1 268 := ⟨eL_267, rfl⟩
theorem eL_268 : decode cL_law 268 = .ok (.aload_n 0, 1) := by decide +kernel
theorem dL_268 {nm : String} : gd (mL_law nm) 268 (.aload_n 0) 1 269 := ⟨eL_268, rfl⟩
theorem eL_269 : decode cL_law 269 = .ok (.iload 4, 2) := by decide +kernel
theorem dL_269 {nm : String} : gd (mL_law nm) 269 (.iload 4) 2 271 := ⟨eL_269, rfl⟩
theorem eL_271 : decode cL_law 271 = .ok (.iconst 2, 1) := by decide +kernel
theorem dL_271 {nm : String} : gd (mL_law nm) 271 (.iconst 2) 1 272 := ⟨eL_271, rfl⟩
theorem eL_272 : decode cL_law 272 = .ok (.iadd, 1) := by decide +kernel
theorem dL_272 {nm : String} : gd (mL_law nm) 272 (.iadd) 1 273 := ⟨eL_272, rfl⟩
theorem eL_273 : decode cL_law 273 = .ok (.iaload, 1) := by decide +kernel
theorem dL_273 {nm : String} : gd (mL_law nm) 273 (.iaload) 1 274 := ⟨eL_273, rfl⟩
theorem eL_274 : decode cL_law 274 = .ok (.invokevirtual 26, 3) := by decide +kernel
theorem dL_274 {nm : String} : gd (mL_law nm) 274 (.invokevirtual 26) 3 277 := ⟨eL_274, rfl⟩
theorem eL_277 : decode cL_law 277 = .ok (.aload_n 2, 1) := by decide +kernel
theorem dL_277 {nm : String} : gd (mL_law nm) 277 (.aload_n 2) 1 278 := ⟨eL_277, rfl⟩
theorem eL_278 : decode cL_law 278 = .ok (.aload_n 0, 1) := by decide +kernel
theorem dL_278 {nm : String} : gd (mL_law nm) 278 (.aload_n 0) 1 279 := ⟨eL_278, rfl⟩
theorem eL_279 : decode cL_law 279 = .ok (.iload 4, 2) := by decide +kernel
theorem dL_279 {nm : String} : gd (mL_law nm) 279 (.iload 4) 2 281 := ⟨eL_279, rfl⟩
theorem eL_281 : decode cL_law 281 = .ok (.iconst 1, 1) := by decide +kernel
theorem dL_281 {nm : String} : gd (mL_law nm) 281 (.iconst 1) 1 282 := ⟨eL_281, rfl⟩
theorem eL_282 : decode cL_law 282 = .ok (.iadd, 1) := by decide +kernel
theorem dL_282 {nm : String} : gd (mL_law nm) 282 (.iadd) 1 283 := ⟨eL_282, rfl⟩
theorem eL_283 : decode cL_law 283 = .ok (.iaload, 1) := by decide +kernel
theorem dL_283 {nm : String} : gd (mL_law nm) 283 (.iaload) 1 284 := ⟨eL_283, rfl⟩
theorem eL_284 : decode cL_law 284 = .ok (.aload_n 0, 1) := by decide +kernel
theorem dL_284 {nm : String} : gd (mL_law nm) 284 (.aload_n 0) 1 285 := ⟨eL_284, rfl⟩
theorem eL_285 : decode cL_law 285 = .ok (.iload 4, 2) := by decide +kernel
theorem dL_285 {nm : String} : gd (mL_law nm) 285 (.iload 4) 2 287 := ⟨eL_285, rfl⟩
theorem eL_287 : decode cL_law 287 = .ok (.iconst 2, 1) := by decide +kernel
theorem dL_287 {nm : String} : gd (mL_law nm) 287 (.iconst 2) 1 288 := ⟨eL_287, rfl⟩
theorem eL_288 : decode cL_law 288 = .ok (.iadd, 1) := by decide +kernel
theorem dL_288 {nm : String} : gd (mL_law nm) 288 (.iadd) 1 289 := ⟨eL_288, rfl⟩
theorem eL_289 : decode cL_law 289 = .ok (.iaload, 1) := by decide +kernel
theorem dL_289 {nm : String} : gd (mL_law nm) 289 (.iaload) 1 290 := ⟨eL_289, rfl⟩
theorem eL_290 : decode cL_law 290 = .ok (.invokevirtual 30, 3) := by decide +kernel
theorem dL_290 {nm : String} : gd (mL_law nm) 290 (.invokevirtual 30) 3 293 := ⟨eL_290, rfl⟩
theorem eL_293 : decode cL_law 293 = .ok (.if_icmp .eq 1363, 3) := by decide +kernel
theorem dL_293 {nm : String} : gj (mL_law nm) 293 (.if_icmp .eq 1363) (1363) 296 1656 := ⟨eL_293, rfl, by decide⟩
theorem eL_296 : decode cL_law 296 = .ok (.iconst 0, 1) := by decide +kernel
theorem dL_296 {nm : String} : gd (mL_law nm) 296 (.iconst 0) 1 297 := ⟨eL_296, rfl⟩
theorem eL_297 : decode cL_law 297 = .ok (.ireturn, 1) := by decide +kernel
theorem eL_298 : decode cL_law 298 = .ok (.aload_n 1, 1) := by decide +kernel
theorem dL_298 {nm : String} : gd (mL_law nm) 298 (.aload_n 1) 1 299 := ⟨eL_298, rfl⟩
theorem eL_299 : decode cL_law 299 = .ok (.aload_n 0, 1) := by decide +kernel
theorem dL_299 {nm : String} : gd (mL_law nm) 299 (.aload_n 0) 1 300 := ⟨eL_299, rfl⟩
theorem eL_300 : decode cL_law 300 = .ok (.iload 4, 2) := by decide +kernel
theorem dL_300 {nm : String} : gd (mL_law nm) 300 (.iload 4) 2 302 := ⟨eL_300, rfl⟩
theorem eL_302 : decode cL_law 302 = .ok (.iconst 1, 1) := by decide +kernel
theorem dL_302 {nm : String} : gd (mL_law nm) 302 (.iconst 1) 1 303 := ⟨eL_302, rfl⟩
theorem eL_303 : decode cL_law 303 = .ok (.iadd, 1) := by decide +kernel
theorem dL_303 {nm : String} : gd (mL_law nm) 303 (.iadd) 1 304 := ⟨eL_303, rfl⟩
theorem eL_304 : decode cL_law 304 = .ok (.iaload, 1) := by decide +kernel
theorem dL_304 {nm : String} : gd (mL_law nm) 304 (.iaload) 1 305 := ⟨eL_304, rfl⟩
theorem eL_305 : decode cL_law 305 = .ok (.aload_n 0, 1) := by decide +kernel
theorem dL_305 {nm : String} : gd (mL_law nm) 305 (.aload_n 0) 1 306 := ⟨eL_305, rfl⟩
theorem eL_306 : decode cL_law 306 = .ok (.iload 4, 2) := by decide +kernel
theorem dL_306 {nm : String} : gd (mL_law nm) 306 (.iload 4) 2 308 := ⟨eL_306, rfl⟩
theorem eL_308 : decode cL_law 308 = .ok (.iconst 2, 1) := by decide +kernel
theorem dL_308 {nm : String} : gd (mL_law nm) 308 (.iconst 2) 1 309 := ⟨eL_308, rfl⟩
theorem eL_309 : decode cL_law 309 = .ok (.iadd, 1) := by decide +kernel
theorem dL_309 {nm : String} : gd (mL_law nm) 309 (.iadd) 1 310 := ⟨eL_309, rfl⟩
theorem eL_310 : decode cL_law 310 = .ok (.iaload, 1) := by decide +kernel
theorem dL_310 {nm : String} : gd (mL_law nm) 310 (.iaload) 1 311 := ⟨eL_310, rfl⟩
theorem eL_311 : decode cL_law 311 = .ok (.invokevirtual 31, 3) := by decide +kernel
theorem dL_311 {nm : String} : gd (mL_law nm) 311 (.invokevirtual 31) 3 314 := ⟨eL_311, rfl⟩
theorem eL_314 : decode cL_law 314 = .ok (.aload_n 2, 1) := by decide +kernel
theorem dL_314 {nm : String} : gd (mL_law nm) 314 (.aload_n 2) 1 315 := ⟨eL_314, rfl⟩
theorem eL_315 : decode cL_law 315 = .ok (.aload_n 0, 1) := by decide +kernel
theorem dL_315 {nm : String} : gd (mL_law nm) 315 (.aload_n 0) 1 316 := ⟨eL_315, rfl⟩
theorem eL_316 : decode cL_law 316 = .ok (.iload 4, 2) := by decide +kernel
theorem dL_316 {nm : String} : gd (mL_law nm) 316 (.iload 4) 2 318 := ⟨eL_316, rfl⟩
theorem eL_318 : decode cL_law 318 = .ok (.iconst 1, 1) := by decide +kernel
theorem dL_318 {nm : String} : gd (mL_law nm) 318 (.iconst 1) 1 319 := ⟨eL_318, rfl⟩
theorem eL_319 : decode cL_law 319 = .ok (.iadd, 1) := by decide +kernel
theorem dL_319 {nm : String} : gd (mL_law nm) 319 (.iadd) 1 320 := ⟨eL_319, rfl⟩
theorem eL_320 : decode cL_law 320 = .ok (.iaload, 1) := by decide +kernel
theorem dL_320 {nm : String} : gd (mL_law nm) 320 (.iaload) 1 321 := ⟨eL_320, rfl⟩
theorem eL_321 : decode cL_law 321 = .ok (.aload_n 0, 1) := by decide +kernel
theorem dL_321 {nm : String} : gd (mL_law nm) 321 (.aload_n 0) 1 322 := ⟨eL_321, rfl⟩
theorem eL_322 : decode cL_law 322 = .ok (.iload 4, 2) := by decide +kernel
theorem dL_322 {nm : String} : gd (mL_law nm) 322 (.iload 4) 2 324 := ⟨eL_322, rfl⟩
theorem eL_324 : decode cL_law 324 = .ok (.iconst 2, 1) := by decide +kernel
theorem dL_324 {nm : String} : gd (mL_law nm) 324 (.iconst 2) 1 325 := ⟨eL_324, rfl⟩
theorem eL_325 : decode cL_law 325 = .ok (.iadd, 1) := by decide +kernel
theorem dL_325 {nm : String} : gd (mL_law nm) 325 (.iadd) 1 326 := ⟨eL_325, rfl⟩
theorem eL_326 : decode cL_law 326 = .ok (.iaload, 1) := by decide +kernel
theorem dL_326 {nm : String} : gd (mL_law nm) 326 (.iaload) 1 327 := ⟨eL_326, rfl⟩
theorem eL_327 : decode cL_law 327 = .ok (.invokevirtual 34, 3) := by decide +kernel
theorem dL_327 {nm : String} : gd (mL_law nm) 327 (.invokevirtual 34) 3 330 := ⟨eL_327, rfl⟩
theorem eL_330 : decode cL_law 330 = .ok (.if_icmp .eq 1326, 3) := by decide +kernel
theorem dL_330 {nm : String} : gj (mL_law nm) 330 (.if_icmp .eq 1326) (1326) 333 1656 := ⟨eL_330, rfl, by decide⟩
theorem eL_333 : decode cL_law 333 = .ok (.iconst 0, 1) := by decide +kernel
theorem dL_333 {nm : String} : gd (mL_law nm) 333 (.iconst 0) 1 334 := ⟨eL_333, rfl⟩
theorem eL_334 : decode cL_law 334 = .ok (.ireturn, 1) := by decide +kernel
theorem eL_335 : decode cL_law 335 = .ok (.aload_n 1, 1) := by decide +kernel
theorem dL_335 {nm : String} : gd (mL_law nm) 335 (.aload_n 1) 1 336 := ⟨eL_335, rfl⟩
theorem eL_336 : decode cL_law 336 = .ok (.aload_n 0, 1) := by decide +kernel
theorem dL_336 {nm : String} : gd (mL_law nm) 336 (.aload_n 0) 1 337 := ⟨eL_336, rfl⟩
theorem eL_337 : decode cL_law 337 = .ok (.iload 4, 2) := by decide +kernel
theorem dL_337 {nm : String} : gd (mL_law nm) 337 (.iload 4) 2 339 := ⟨eL_337, rfl⟩
theorem eL_339 : decode cL_law 339 = .ok (.iconst 1, 1) := by decide +kernel
theorem dL_339 {nm : String} : gd (mL_law nm) 339 (.iconst 1) 1 340 := ⟨eL_339, rfl⟩
theorem eL_340 : decode cL_law 340 = .ok (.iadd, 1) := by decide +kernel
theorem dL_340 {nm : String} : gd (mL_law nm) 340 (.iadd) 1 341 := ⟨eL_340, rfl⟩
theorem eL_341 : decode cL_law 341 = .ok (.iaload, 1) := by decide +kernel
theorem dL_341 {nm : String} : gd (mL_law nm) 341 (.iaload) 1 342 := ⟨eL_341, rfl⟩
theorem eL_342 : decode cL_law 342 = .ok (.aload_n 0, 1) := by decide +kernel
theorem dL_342 {nm : String} : gd (mL_law nm) 342 (.aload_n 0) 1 343 := ⟨eL_342, rfl⟩
theorem eL_343 : decode cL_law 343 = .ok (.iload 4, 2) := by decide +kernel
theorem dL_343 {nm : String} : gd (mL_law nm) 343 (.iload 4) 2 345 := ⟨eL_343, rfl⟩
theorem eL_345 : decode cL_law 345 = .ok (.iconst 2, 1) := by decide +kernel
theorem dL_345 {nm : String} : gd (mL_law nm) 345 (.iconst 2) 1 346 := ⟨eL_345, rfl⟩
theorem eL_346 : decode cL_law 346 = .ok (.iadd, 1) := by decide +kernel
theorem dL_346 {nm : String} : gd (mL_law nm) 346 (.iadd) 1 347 := ⟨eL_346, rfl⟩
theorem eL_347 : decode cL_law 347 = .ok (.iaload, 1) := by decide +kernel
theorem dL_347 {nm : String} : gd (mL_law nm) 347 (.iaload) 1 348 := ⟨eL_347, rfl⟩
theorem eL_348 : decode cL_law 348 = .ok (.invokevirtual 35, 3) := by decide +kernel
theorem dL_348 {nm : String} : gd (mL_law nm) 348 (.invokevirtual 35) 3 351 := ⟨eL_348, rfl⟩
theorem eL_351 : decode cL_law 351 = .ok (.aload_n 2, 1) := by decide +kernel
theorem dL_351 {nm : String} : gd (mL_law nm) 351 (.aload_n 2) 1 352 := ⟨eL_351, rfl⟩
theorem eL_352 : decode cL_law 352 = .ok (.aload_n 0, 1) := by decide +kernel
theorem dL_352 {nm : String} : gd (mL_law nm) 352 (.aload_n 0) 1 353 := ⟨eL_352, rfl⟩
theorem eL_353 : decode cL_law 353 = .ok (.iload 4, 2) := by decide +kernel
theorem dL_353 {nm : String} : gd (mL_law nm) 353 (.iload 4) 2 355 := ⟨eL_353, rfl⟩
theorem eL_355 : decode cL_law 355 = .ok (.iconst 1, 1) := by decide +kernel
theorem dL_355 {nm : String} : gd (mL_law nm) 355 (.iconst 1) 1 356 := ⟨eL_355, rfl⟩
theorem eL_356 : decode cL_law 356 = .ok (.iadd, 1) := by decide +kernel
theorem dL_356 {nm : String} : gd (mL_law nm) 356 (.iadd) 1 357 := ⟨eL_356, rfl⟩
theorem eL_357 : decode cL_law 357 = .ok (.iaload, 1) := by decide +kernel
theorem dL_357 {nm : String} : gd (mL_law nm) 357 (.iaload) 1 358 := ⟨eL_357, rfl⟩
theorem eL_358 : decode cL_law 358 = .ok (.aload_n 0, 1) := by decide +kernel
theorem dL_358 {nm : String} : gd (mL_law nm) 358 (.aload_n 0) 1 359 := ⟨eL_358, rfl⟩
theorem eL_359 : decode cL_law 359 = .ok (.iload 4, 2) := by decide +kernel
theorem dL_359 {nm : String} : gd (mL_law nm) 359 (.iload 4) 2 361 := ⟨eL_359, rfl⟩
theorem eL_361 : decode cL_law 361 = .ok (.iconst 2, 1) := by decide +kernel
theorem dL_361 {nm : String} : gd (mL_law nm) 361 (.iconst 2) 1 362 := ⟨eL_361, rfl⟩
theorem eL_362 : decode cL_law 362 = .ok (.iadd, 1) := by decide +kernel
theorem dL_362 {nm : String} : gd (mL_law nm) 362 (.iadd) 1 363 := ⟨eL_362, rfl⟩
theorem eL_363 : decode cL_law 363 = .ok (.iaload, 1) := by decide +kernel
theorem dL_363 {nm : String} : gd (mL_law nm) 363 (.iaload) 1 364 := ⟨eL_363, rfl⟩
theorem eL_364 : decode cL_law 364 = .ok (.invokevirtual 38, 3) := by decide +kernel
theorem dL_364 {nm : String} : gd (mL_law nm) 364 (.invokevirtual 38) 3 367 := ⟨eL_364, rfl⟩
theorem eL_367 : decode cL_law 367 = .ok (.if_icmp .eq 1289, 3) := by decide +kernel
theorem dL_367 {nm : String} : gj (mL_law nm) 367 (.if_icmp .eq 1289) (1289) 370 1656 := ⟨eL_367, rfl, by decide⟩
theorem eL_370 : decode cL_law 370 = .ok (.iconst 0, 1) := by decide +kernel
theorem dL_370 {nm : String} : gd (mL_law nm) 370 (.iconst 0) 1 371 := ⟨eL_370, rfl⟩
theorem eL_371 : decode cL_law 371 = .ok (.ireturn, 1) := by decide +kernel
theorem eL_372 : decode cL_law 372 = .ok (.aload_n 1, 1) := by decide +kernel
theorem dL_372 {nm : String} : gd (mL_law nm) 372 (.aload_n 1) 1 373 := ⟨eL_372, rfl⟩
theorem eL_373 : decode cL_law 373 = .ok (.aload_n 0, 1) := by decide +kernel
theorem dL_373 {nm : String} : gd (mL_law nm) 373 (.aload_n 0) 1 374 := ⟨eL_373, rfl⟩
theorem eL_374 : decode cL_law 374 = .ok (.iload 4, 2) := by decide +kernel
theorem dL_374 {nm : String} : gd (mL_law nm) 374 (.iload 4) 2 376 := ⟨eL_374, rfl⟩
theorem eL_376 : decode cL_law 376 = .ok (.iconst 1, 1) := by decide +kernel
theorem dL_376 {nm : String} : gd (mL_law nm) 376 (.iconst 1) 1 377 := ⟨eL_376, rfl⟩
theorem eL_377 : decode cL_law 377 = .ok (.iadd, 1) := by decide +kernel
theorem dL_377 {nm : String} : gd (mL_law nm) 377 (.iadd) 1 378 := ⟨eL_377, rfl⟩
theorem eL_378 : decode cL_law 378 = .ok (.iaload, 1) := by decide +kernel
theorem dL_378 {nm : String} : gd (mL_law nm) 378 (.iaload) 1 379 := ⟨eL_378, rfl⟩
theorem eL_379 : decode cL_law 379 = .ok (.aload_n 0, 1) := by decide +kernel
theorem dL_379 {nm : String} : gd (mL_law nm) 379 (.aload_n 0) 1 380 := ⟨eL_379, rfl⟩
theorem eL_380 : decode cL_law 380 = .ok (.iload 4, 2) := by decide +kernel
theorem dL_380 {nm : String} : gd (mL_law nm) 380 (.iload 4) 2 382 := ⟨eL_380, rfl⟩
theorem eL_382 : decode cL_law 382 = .ok (.iconst 2, 1) := by decide +kernel
theorem dL_382 {nm : String} : gd (mL_law nm) 382 (.iconst 2) 1 383 := ⟨eL_382, rfl⟩
theorem eL_383 : decode cL_law 383 = .ok (.iadd, 1) := by decide +kernel
theorem dL_383 {nm : String} : gd (mL_law nm) 383 (.iadd) 1 384 := ⟨eL_383, rfl⟩
theorem eL_384 : decode cL_law 384 = .ok (.iaload, 1) := by decide +kernel
theorem dL_384 {nm : String} : gd (mL_law nm) 384 (.iaload) 1 385 := ⟨eL_384, rfl⟩
theorem eL_385 : decode cL_law 385 = .ok (.invokevirtual 39, 3) := by decide +kernel
theorem dL_385 {nm : String} : gd (mL_law nm) 385 (.invokevirtual 39) 3 388 := ⟨eL_385, rfl⟩
theorem eL_388 : decode cL_law 388 = .ok (.aload_n 2, 1) := by decide +kernel
theorem dL_388 {nm : String} : gd (mL_law nm) 388 (.aload_n 2) 1 389 := ⟨eL_388, rfl⟩
theorem eL_389 : decode cL_law 389 = .ok (.aload_n 0, 1) := by decide +kernel
theorem dL_389 {nm : String} : gd (mL_law nm) 389 (.aload_n 0) 1 390 := ⟨eL_389, rfl⟩
theorem eL_390 : decode cL_law 390 = .ok (.iload 4, 2) := by decide +kernel
theorem dL_390 {nm : String} : gd (mL_law nm) 390 (.iload 4) 2 392 := ⟨eL_390, rfl⟩
theorem eL_392 : decode cL_law 392 = .ok (.iconst 1, 1) := by decide +kernel
theorem dL_392 {nm : String} : gd (mL_law nm) 392 (.iconst 1) 1 393 := ⟨eL_392, rfl⟩
theorem eL_393 : decode cL_law 393 = .ok (.iadd, 1) := by decide +kernel
theorem dL_393 {nm : String} : gd (mL_law nm) 393 (.iadd) 1 394 := ⟨eL_393, rfl⟩
theorem eL_394 : decode cL_law 394 = .ok (.iaload, 1) := by decide +kernel
theorem dL_394 {nm : String} : gd (mL_law nm) 394 (.iaload) 1 395 := ⟨eL_394, rfl⟩
theorem eL_395 : decode cL_law 395 = .ok (.aload_n 0, 1) := by decide +kernel
theorem dL_395 {nm : String} : gd (mL_law nm) 395 (.aload_n 0) 1 396 := ⟨eL_395, rfl⟩
theorem eL_396 : decode cL_law 396 = .ok (.iload 4, 2) := by decide +kernel
theorem dL_396 {nm : String} : gd (mL_law nm) 396 (.iload 4) 2 398 := ⟨eL_396, rfl⟩
theorem eL_398 : decode cL_law 398 = .ok (.iconst 2, 1) := by decide +kernel
theorem dL_398 {nm : String} : gd (mL_law nm) 398 (.iconst 2) 1 399 := ⟨eL_398, rfl⟩
theorem eL_399 : decode cL_law 399 = .ok (.iadd, 1) := by decide +kernel
theorem dL_399 {nm : String} : gd (mL_law nm) 399 (.iadd) 1 400 := ⟨eL_399, rfl⟩
theorem eL_400 : decode cL_law 400 = .ok (.iaload, 1) := by decide +kernel
theorem dL_400 {nm : String} : gd (mL_law nm) 400 (.iaload) 1 401 := ⟨eL_400, rfl⟩
theorem eL_401 : decode cL_law 401 = .ok (.invokevirtual 42, 3) := by decide +kernel
theorem dL_401 {nm : String} : gd (mL_law nm) 401 (.invokevirtual 42) 3 404 := ⟨eL_401, rfl⟩
theorem eL_404 : decode cL_law 404 = .ok (.if_icmp .eq 1252, 3) := by decide +kernel
theorem dL_404 {nm : String} : gj (mL_law nm) 404 (.if_icmp .eq 1252) (1252) 407 1656 := ⟨eL_404, rfl, by decide⟩
theorem eL_407 : decode cL_law 407 = .ok (.iconst 0, 1) := by decide +kernel
theorem dL_407 {nm : String} : gd (mL_law nm) 407 (.iconst 0) 1 408 := ⟨eL_407, rfl⟩
theorem eL_408 : decode cL_law 408 = .ok (.ireturn, 1) := by decide +kernel
theorem eL_409 : decode cL_law 409 = .ok (.aload_n 1, 1) := by decide +kernel
theorem dL_409 {nm : String} : gd (mL_law nm) 409 (.aload_n 1) 1 410 := ⟨eL_409, rfl⟩
theorem eL_410 : decode cL_law 410 = .ok (.aload_n 0, 1) := by decide +kernel
theorem dL_410 {nm : String} : gd (mL_law nm) 410 (.aload_n 0) 1 411 := ⟨eL_410, rfl⟩
theorem eL_411 : decode cL_law 411 = .ok (.iload 4, 2) := by decide +kernel
theorem dL_411 {nm : String} : gd (mL_law nm) 411 (.iload 4) 2 413 := ⟨eL_411, rfl⟩
theorem eL_413 : decode cL_law 413 = .ok (.iconst 1, 1) := by decide +kernel
theorem dL_413 {nm : String} : gd (mL_law nm) 413 (.iconst 1) 1 414 := ⟨eL_413, rfl⟩
theorem eL_414 : decode cL_law 414 = .ok (.iadd, 1) := by decide +kernel
theorem dL_414 {nm : String} : gd (mL_law nm) 414 (.iadd) 1 415 := ⟨eL_414, rfl⟩
theorem eL_415 : decode cL_law 415 = .ok (.iaload, 1) := by decide +kernel
theorem dL_415 {nm : String} : gd (mL_law nm) 415 (.iaload) 1 416 := ⟨eL_415, rfl⟩
theorem eL_416 : decode cL_law 416 = .ok (.aload_n 0, 1) := by decide +kernel
theorem dL_416 {nm : String} : gd (mL_law nm) 416 (.aload_n 0) 1 417 := ⟨eL_416, rfl⟩
theorem eL_417 : decode cL_law 417 = .ok (.iload 4, 2) := by decide +kernel
theorem dL_417 {nm : String} : gd (mL_law nm) 417 (.iload 4) 2 419 := ⟨eL_417, rfl⟩
theorem eL_419 : decode cL_law 419 = .ok (.iconst 2, 1) := by decide +kernel
theorem dL_419 {nm : String} : gd (mL_law nm) 419 (.iconst 2) 1 420 := ⟨eL_419, rfl⟩
theorem eL_420 : decode cL_law 420 = .ok (.iadd, 1) := by decide +kernel
theorem dL_420 {nm : String} : gd (mL_law nm) 420 (.iadd) 1 421 := ⟨eL_420, rfl⟩
theorem eL_421 : decode cL_law 421 = .ok (.iaload, 1) := by decide +kernel
theorem dL_421 {nm : String} : gd (mL_law nm) 421 (.iaload) 1 422 := ⟨eL_421, rfl⟩
theorem eL_422 : decode cL_law 422 = .ok (.invokevirtual 43, 3) := by decide +kernel
theorem dL_422 {nm : String} : gd (mL_law nm) 422 (.invokevirtual 43) 3 425 := ⟨eL_422, rfl⟩
theorem eL_425 : decode cL_law 425 = .ok (.aload_n 2, 1) := by decide +kernel
theorem dL_425 {nm : String} : gd (mL_law nm) 425 (.aload_n 2) 1 426 := ⟨eL_425, rfl⟩
theorem eL_426 : decode cL_law 426 = .ok (.aload_n 0, 1) := by decide +kernel
theorem dL_426 {nm : String} : gd (mL_law nm) 426 (.aload_n 0) 1 427 := ⟨eL_426, rfl⟩
theorem eL_427 : decode cL_law 427 = .ok (.iload 4, 2) := by decide +kernel
theorem dL_427 {nm : String} : gd (mL_law nm) 427 (.iload 4) 2 429 := ⟨eL_427, rfl⟩
theorem eL_429 : decode cL_law 429 = .ok (.iconst 1, 1) := by decide +kernel
theorem dL_429 {nm : String} : gd (mL_law nm) 429 (.iconst 1) 1 430 := ⟨eL_429, rfl⟩
theorem eL_430 : decode cL_law 430 = .ok (.iadd, 1) := by decide +kernel
theorem dL_430 {nm : String} : gd (mL_law nm) 430 (.iadd) 1 431 := ⟨eL_430, rfl⟩
theorem eL_431 : decode cL_law 431 = .ok (.iaload, 1) := by decide +kernel
theorem dL_431 {nm : String} : gd (mL_law nm) 431 (.iaload) 1 432 := ⟨eL_431, rfl⟩
theorem eL_432 : decode cL_law 432 = .ok (.aload_n 0, 1) := by decide +kernel
theorem dL_432 {nm : String} : gd (mL_law nm) 432 (.aload_n 0) 1 433 := ⟨eL_432, rfl⟩
theorem eL_433 : decode cL_law 433 = .ok (.iload 4, 2) := by decide +kernel
theorem dL_433 {nm : String} : gd (mL_law nm) 433 (.iload 4) 2 435 := ⟨eL_433, rfl⟩
theorem eL_435 : decode cL_law 435 = .ok (.iconst 2, 1) := by decide +kernel
theorem dL_435 {nm : String} : gd (mL_law nm) 435 (.iconst 2) 1 436 := ⟨eL_435, rfl⟩
theorem eL_436 : decode cL_law 436 = .ok (.iadd, 1) := by decide +kernel
theorem dL_436 {nm : String} : gd (mL_law nm) 436 (.iadd) 1 437 := ⟨eL_436, rfl⟩
theorem eL_437 : decode cL_law 437 = .ok (.iaload, 1) := by decide +kernel
theorem dL_437 {nm : String} : gd (mL_law nm) 437 (.iaload) 1 438 := ⟨eL_437, rfl⟩
theorem eL_438 : decode cL_law 438 = .ok (.invokevirtual 46, 3) := by decide +kernel
theorem dL_438 {nm : String} : gd (mL_law nm) 438 (.invokevirtual 46) 3 441 := ⟨eL_438, rfl⟩
theorem eL_441 : decode cL_law 441 = .ok (.if_icmp .eq 1215, 3) := by decide +kernel
theorem dL_441 {nm : String} : gj (mL_law nm) 441 (.if_icmp .eq 1215) (1215) 444 1656 := ⟨eL_441, rfl, by decide⟩
theorem eL_444 : decode cL_law 444 = .ok (.iconst 0, 1) := by decide +kernel
theorem dL_444 {nm : String} : gd (mL_law nm) 444 (.iconst 0) 1 445 := ⟨eL_444, rfl⟩
theorem eL_445 : decode cL_law 445 = .ok (.ireturn, 1) := by decide +kernel
theorem eL_446 : decode cL_law 446 = .ok (.aload_n 1, 1) := by decide +kernel
theorem dL_446 {nm : String} : gd (mL_law nm) 446 (.aload_n 1) 1 447 := ⟨eL_446, rfl⟩
theorem eL_447 : decode cL_law 447 = .ok (.aload_n 0, 1) := by decide +kernel
theorem dL_447 {nm : String} : gd (mL_law nm) 447 (.aload_n 0) 1 448 := ⟨eL_447, rfl⟩
theorem eL_448 : decode cL_law 448 = .ok (.iload 4, 2) := by decide +kernel
theorem dL_448 {nm : String} : gd (mL_law nm) 448 (.iload 4) 2 450 := ⟨eL_448, rfl⟩
theorem eL_450 : decode cL_law 450 = .ok (.iconst 1, 1) := by decide +kernel
theorem dL_450 {nm : String} : gd (mL_law nm) 450 (.iconst 1) 1 451 := ⟨eL_450, rfl⟩
theorem eL_451 : decode cL_law 451 = .ok (.iadd, 1) := by decide +kernel
theorem dL_451 {nm : String} : gd (mL_law nm) 451 (.iadd) 1 452 := ⟨eL_451, rfl⟩
theorem eL_452 : decode cL_law 452 = .ok (.iaload, 1) := by decide +kernel
theorem dL_452 {nm : String} : gd (mL_law nm) 452 (.iaload) 1 453 := ⟨eL_452, rfl⟩
theorem eL_453 : decode cL_law 453 = .ok (.aload_n 0, 1) := by decide +kernel
theorem dL_453 {nm : String} : gd (mL_law nm) 453 (.aload_n 0) 1 454 := ⟨eL_453, rfl⟩
theorem eL_454 : decode cL_law 454 = .ok (.iload 4, 2) := by decide +kernel
theorem dL_454 {nm : String} : gd (mL_law nm) 454 (.iload 4) 2 456 := ⟨eL_454, rfl⟩
theorem eL_456 : decode cL_law 456 = .ok (.iconst 2, 1) := by decide +kernel
theorem dL_456 {nm : String} : gd (mL_law nm) 456 (.iconst 2) 1 457 := ⟨eL_456, rfl⟩
theorem eL_457 : decode cL_law 457 = .ok (.iadd, 1) := by decide +kernel
theorem dL_457 {nm : String} : gd (mL_law nm) 457 (.iadd) 1 458 := ⟨eL_457, rfl⟩
theorem eL_458 : decode cL_law 458 = .ok (.iaload, 1) := by decide +kernel
theorem dL_458 {nm : String} : gd (mL_law nm) 458 (.iaload) 1 459 := ⟨eL_458, rfl⟩
theorem eL_459 : decode cL_law 459 = .ok (.invokevirtual 47, 3) := by decide +kernel
theorem dL_459 {nm : String} : gd (mL_law nm) 459 (.invokevirtual 47) 3 462 := ⟨eL_459, rfl⟩
theorem eL_462 : decode cL_law 462 = .ok (.aload_n 2, 1) := by decide +kernel
theorem dL_462 {nm : String} : gd (mL_law nm) 462 (.aload_n 2) 1 463 := ⟨eL_462, rfl⟩
theorem eL_463 : decode cL_law 463 = .ok (.aload_n 0, 1) := by decide +kernel
theorem dL_463 {nm : String} : gd (mL_law nm) 463 (.aload_n 0) 1 464 := ⟨eL_463, rfl⟩
theorem eL_464 : decode cL_law 464 = .ok (.iload 4, 2) := by decide +kernel
theorem dL_464 {nm : String} : gd (mL_law nm) 464 (.iload 4) 2 466 := ⟨eL_464, rfl⟩
theorem eL_466 : decode cL_law 466 = .ok (.iconst 1, 1) := by decide +kernel
theorem dL_466 {nm : String} : gd (mL_law nm) 466 (.iconst 1) 1 467 := ⟨eL_466, rfl⟩
theorem eL_467 : decode cL_law 467 = .ok (.iadd, 1) := by decide +kernel
theorem dL_467 {nm : String} : gd (mL_law nm) 467 (.iadd) 1 468 := ⟨eL_467, rfl⟩
theorem eL_468 : decode cL_law 468 = .ok (.iaload, 1) := by decide +kernel
theorem dL_468 {nm : String} : gd (mL_law nm) 468 (.iaload) 1 469 := ⟨eL_468, rfl⟩
theorem eL_469 : decode cL_law 469 = .ok (.aload_n 0, 1) := by decide +kernel
theorem dL_469 {nm : String} : gd (mL_law nm) 469 (.aload_n 0) 1 470 := ⟨eL_469, rfl⟩
theorem eL_470 : decode cL_law 470 = .ok (.iload 4, 2) := by decide +kernel
theorem dL_470 {nm : String} : gd (mL_law nm) 470 (.iload 4) 2 472 := ⟨eL_470, rfl⟩
theorem eL_472 : decode cL_law 472 = .ok (.iconst 2, 1) := by decide +kernel
theorem dL_472 {nm : String} : gd (mL_law nm) 472 (.iconst 2) 1 473 := ⟨eL_472, rfl⟩
theorem eL_473 : decode cL_law 473 = .ok (.iadd, 1) := by decide +kernel
theorem dL_473 {nm : String} : gd (mL_law nm) 473 (.iadd) 1 474 := ⟨eL_473, rfl⟩
theorem eL_474 : decode cL_law 474 = .ok (.iaload, 1) := by decide +kernel
theorem dL_474 {nm : String} : gd (mL_law nm) 474 (.iaload) 1 475 := ⟨eL_474, rfl⟩
theorem eL_475 : decode cL_law 475 = .ok (.invokevirtual 50, 3) := by decide +kernel
theorem dL_475 {nm : String} : gd (mL_law nm) 475 (.invokevirtual 50) 3 478 := ⟨eL_475, rfl⟩
theorem eL_478 : decode cL_law 478 = .ok (.if_icmp .eq 1178, 3) := by decide +kernel
theorem dL_478 {nm : String} : gj (mL_law nm) 478 (.if_icmp .eq 1178) (1178) 481 1656 := ⟨eL_478, rfl, by decide⟩
theorem eL_481 : decode cL_law 481 = .ok (.iconst 0, 1) := by decide +kernel
theorem dL_481 {nm : String} : gd (mL_law nm) 481 (.iconst 0) 1 482 := ⟨eL_481, rfl⟩
theorem eL_482 : decode cL_law 482 = .ok (.ireturn, 1) := by decide +kernel
theorem eL_483 : decode cL_law 483 = .ok (.aload_n 1, 1) := by decide +kernel
theorem dL_483 {nm : String} : gd (mL_law nm) 483 (.aload_n 1) 1 484 := ⟨eL_483, rfl⟩
theorem eL_484 : decode cL_law 484 = .ok (.aload_n 0, 1) := by decide +kernel
theorem dL_484 {nm : String} : gd (mL_law nm) 484 (.aload_n 0) 1 485 := ⟨eL_484, rfl⟩
theorem eL_485 : decode cL_law 485 = .ok (.iload 4, 2) := by decide +kernel
theorem dL_485 {nm : String} : gd (mL_law nm) 485 (.iload 4) 2 487 := ⟨eL_485, rfl⟩
theorem eL_487 : decode cL_law 487 = .ok (.iconst 1, 1) := by decide +kernel
theorem dL_487 {nm : String} : gd (mL_law nm) 487 (.iconst 1) 1 488 := ⟨eL_487, rfl⟩
theorem eL_488 : decode cL_law 488 = .ok (.iadd, 1) := by decide +kernel
theorem dL_488 {nm : String} : gd (mL_law nm) 488 (.iadd) 1 489 := ⟨eL_488, rfl⟩
theorem eL_489 : decode cL_law 489 = .ok (.iaload, 1) := by decide +kernel
theorem dL_489 {nm : String} : gd (mL_law nm) 489 (.iaload) 1 490 := ⟨eL_489, rfl⟩
theorem eL_490 : decode cL_law 490 = .ok (.invokevirtual 51, 3) := by decide +kernel
theorem dL_490 {nm : String} : gd (mL_law nm) 490 (.invokevirtual 51) 3 493 := ⟨eL_490, rfl⟩
theorem eL_493 : decode cL_law 493 = .ok (.aload_n 2, 1) := by decide +kernel
theorem dL_493 {nm : String} : gd (mL_law nm) 493 (.aload_n 2) 1 494 := ⟨eL_493, rfl⟩
theorem eL_494 : decode cL_law 494 = .ok (.aload_n 0, 1) := by decide +kernel
theorem dL_494 {nm : String} : gd (mL_law nm) 494 (.aload_n 0) 1 495 := ⟨eL_494, rfl⟩
theorem eL_495 : decode cL_law 495 = .ok (.iload 4, 2) := by decide +kernel
theorem dL_495 {nm : String} : gd (mL_law nm) 495 (.iload 4) 2 497 := ⟨eL_495, rfl⟩
theorem eL_497 : decode cL_law 497 = .ok (.iconst 1, 1) := by decide +kernel
theorem dL_497 {nm : String} : gd (mL_law nm) 497 (.iconst 1) 1 498 := ⟨eL_497, rfl⟩
theorem eL_498 : decode cL_law 498 = .ok (.iadd, 1) := by decide +kernel
theorem dL_498 {nm : String} : gd (mL_law nm) 498 (.iadd) 1 499 := ⟨eL_498, rfl⟩
theorem eL_499 : decode cL_law 499 = .ok (.iaload, 1) := by decide +kernel
theorem dL_499 {nm : String} : gd (mL_law nm) 499 (.iaload) 1 500 := ⟨eL_499, rfl⟩
theorem eL_500 : decode cL_law 500 = .ok (.invokevirtual 54, 3) := by decide +kernel
theorem dL_500 {nm : String} : gd (mL_law nm) 500 (.invokevirtual 54) 3 503 := ⟨eL_500, rfl⟩
theorem eL_503 : decode cL_law 503 = .ok (.if_icmp .eq 1153, 3) := by decide +kernel
theorem dL_503 {nm : String} : gj (mL_law nm) 503 (.if_icmp .eq 1153) (1153) 506 1656 := ⟨eL_503, rfl, by decide⟩
theorem eL_506 : decode cL_law 506 = .ok (.iconst 0, 1) := by decide +kernel
theorem dL_506 {nm : String} : gd (mL_law nm) 506 (.iconst 0) 1 507 := ⟨eL_506, rfl⟩
theorem eL_507 : decode cL_law 507 = .ok (.ireturn, 1) := by decide +kernel
theorem eL_508 : decode cL_law 508 = .ok (.aload_n 1, 1) := by decide +kernel
theorem dL_508 {nm : String} : gd (mL_law nm) 508 (.aload_n 1) 1 509 := ⟨eL_508, rfl⟩
theorem eL_509 : decode cL_law 509 = .ok (.aload_n 0, 1) := by decide +kernel
theorem dL_509 {nm : String} : gd (mL_law nm) 509 (.aload_n 0) 1 510 := ⟨eL_509, rfl⟩
theorem eL_510 : decode cL_law 510 = .ok (.iload 4, 2) := by decide +kernel
theorem dL_510 {nm : String} : gd (mL_law nm) 510 (.iload 4) 2 512 := ⟨eL_510, rfl⟩
theorem eL_512 : decode cL_law 512 = .ok (.iconst 1, 1) := by decide +kernel
theorem dL_512 {nm : String} : gd (mL_law nm) 512 (.iconst 1) 1 513 := ⟨eL_512, rfl⟩
theorem eL_513 : decode cL_law 513 = .ok (.iadd, 1) := by decide +kernel
theorem dL_513 {nm : String} : gd (mL_law nm) 513 (.iadd) 1 514 := ⟨eL_513, rfl⟩
theorem eL_514 : decode cL_law 514 = .ok (.iaload, 1) := by decide +kernel
theorem dL_514 {nm : String} : gd (mL_law nm) 514 (.iaload) 1 515 := ⟨eL_514, rfl⟩
theorem eL_515 : decode cL_law 515 = .ok (.invokevirtual 55, 3) := by decide +kernel
theorem dL_515 {nm : String} : gd (mL_law nm) 515 (.invokevirtual 55) 3 518 := ⟨eL_515, rfl⟩
theorem eL_518 : decode cL_law 518 = .ok (.aload_n 2, 1) := by decide +kernel
theorem dL_518 {nm : String} : gd (mL_law nm) 518 (.aload_n 2) 1 519 := ⟨eL_518, rfl⟩
theorem eL_519 : decode cL_law 519 = .ok (.aload_n 0, 1) := by decide +kernel
theorem dL_519 {nm : String} : gd (mL_law nm) 519 (.aload_n 0) 1 520 := ⟨eL_519, rfl⟩
theorem eL_520 : decode cL_law 520 = .ok (.iload 4, 2) := by decide +kernel
theorem dL_520 {nm : String} : gd (mL_law nm) 520 (.iload 4) 2 522 := ⟨eL_520, rfl⟩
theorem eL_522 : decode cL_law 522 = .ok (.iconst 1, 1) := by decide +kernel
theorem dL_522 {nm : String} : gd (mL_law nm) 522 (.iconst 1) 1 523 := ⟨eL_522, rfl⟩
theorem eL_523 : decode cL_law 523 = .ok (.iadd, 1) := by decide +kernel
theorem dL_523 {nm : String} : gd (mL_law nm) 523 (.iadd) 1 524 := ⟨eL_523, rfl⟩
theorem eL_524 : decode cL_law 524 = .ok (.iaload, 1) := by decide +kernel
theorem dL_524 {nm : String} : gd (mL_law nm) 524 (.iaload) 1 525 := ⟨eL_524, rfl⟩
theorem eL_525 : decode cL_law 525 = .ok (.invokevirtual 58, 3) := by decide +kernel
theorem dL_525 {nm : String} : gd (mL_law nm) 525 (.invokevirtual 58) 3 528 := ⟨eL_525, rfl⟩
theorem eL_528 : decode cL_law 528 = .ok (.if_icmp .eq 1128, 3) := by decide +kernel
theorem dL_528 {nm : String} : gj (mL_law nm) 528 (.if_icmp .eq 1128) (1128) 531 1656 := ⟨eL_528, rfl, by decide⟩
theorem eL_531 : decode cL_law 531 = .ok (.iconst 0, 1) := by decide +kernel
theorem dL_531 {nm : String} : gd (mL_law nm) 531 (.iconst 0) 1 532 := ⟨eL_531, rfl⟩
theorem eL_532 : decode cL_law 532 = .ok (.ireturn, 1) := by decide +kernel
theorem eL_533 : decode cL_law 533 = .ok (.aload_n 1, 1) := by decide +kernel
theorem dL_533 {nm : String} : gd (mL_law nm) 533 (.aload_n 1) 1 534 := ⟨eL_533, rfl⟩
theorem eL_534 : decode cL_law 534 = .ok (.aload_n 0, 1) := by decide +kernel
theorem dL_534 {nm : String} : gd (mL_law nm) 534 (.aload_n 0) 1 535 := ⟨eL_534, rfl⟩
theorem eL_535 : decode cL_law 535 = .ok (.iload 4, 2) := by decide +kernel
theorem dL_535 {nm : String} : gd (mL_law nm) 535 (.iload 4) 2 537 := ⟨eL_535, rfl⟩
theorem eL_537 : decode cL_law 537 = .ok (.iconst 1, 1) := by decide +kernel
theorem dL_537 {nm : String} : gd (mL_law nm) 537 (.iconst 1) 1 538 := ⟨eL_537, rfl⟩
theorem eL_538 : decode cL_law 538 = .ok (.iadd, 1) := by decide +kernel
theorem dL_538 {nm : String} : gd (mL_law nm) 538 (.iadd) 1 539 := ⟨eL_538, rfl⟩
theorem eL_539 : decode cL_law 539 = .ok (.iaload, 1) := by decide +kernel
theorem dL_539 {nm : String} : gd (mL_law nm) 539 (.iaload) 1 540 := ⟨eL_539, rfl⟩
theorem eL_540 : decode cL_law 540 = .ok (.aload_n 0, 1) := by decide +kernel
theorem dL_540 {nm : String} : gd (mL_law nm) 540 (.aload_n 0) 1 541 := ⟨eL_540, rfl⟩
theorem eL_541 : decode cL_law 541 = .ok (.iload 4, 2) := by decide +kernel
theorem dL_541 {nm : String} : gd (mL_law nm) 541 (.iload 4) 2 543 := ⟨eL_541, rfl⟩
theorem eL_543 : decode cL_law 543 = .ok (.iconst 2, 1) := by decide +kernel
theorem dL_543 {nm : String} : gd (mL_law nm) 543 (.iconst 2) 1 544 := ⟨eL_543, rfl⟩
theorem eL_544 : decode cL_law 544 = .ok (.iadd, 1) := by decide +kernel
theorem dL_544 {nm : String} : gd (mL_law nm) 544 (.iadd) 1 545 := ⟨eL_544, rfl⟩
theorem eL_545 : decode cL_law 545 = .ok (.iaload, 1) := by decide +kernel
theorem dL_545 {nm : String} : gd (mL_law nm) 545 (.iaload) 1 546 := ⟨eL_545, rfl⟩
theorem eL_546 : decode cL_law 546 = .ok (.invokevirtual 59, 3) := by decide +kernel
theorem dL_546 {nm : String} : gd (mL_law nm) 546 (.invokevirtual 59) 3 549 := ⟨eL_546, rfl⟩
theorem eL_549 : decode cL_law 549 = .ok (.aload_n 2, 1) := by decide +kernel
theorem dL_549 {nm : String} : gd (mL_law nm) 549 (.aload_n 2) 1 550 := ⟨eL_549, rfl⟩
theorem eL_550 : decode cL_law 550 = .ok (.aload_n 0, 1) := by decide +kernel
theorem dL_550 {nm : String} : gd (mL_law nm) 550 (.aload_n 0) 1 551 := ⟨eL_550, rfl⟩
theorem eL_551 : decode cL_law 551 = .ok (.iload 4, 2) := by decide +kernel
theorem dL_551 {nm : String} : gd (mL_law nm) 551 (.iload 4) 2 553 := ⟨eL_551, rfl⟩
theorem eL_553 : decode cL_law 553 = .ok (.iconst 1, 1) := by decide +kernel
theorem dL_553 {nm : String} : gd (mL_law nm) 553 (.iconst 1) 1 554 := ⟨eL_553, rfl⟩
theorem eL_554 : decode cL_law 554 = .ok (.iadd, 1) := by decide +kernel
theorem dL_554 {nm : String} : gd (mL_law nm) 554 (.iadd) 1 555 := ⟨eL_554, rfl⟩
theorem eL_555 : decode cL_law 555 = .ok (.iaload, 1) := by decide +kernel
theorem dL_555 {nm : String} : gd (mL_law nm) 555 (.iaload) 1 556 := ⟨eL_555, rfl⟩
theorem eL_556 : decode cL_law 556 = .ok (.aload_n 0, 1) := by decide +kernel
theorem dL_556 {nm : String} : gd (mL_law nm) 556 (.aload_n 0) 1 557 := ⟨eL_556, rfl⟩
theorem eL_557 : decode cL_law 557 = .ok (.iload 4, 2) := by decide +kernel
theorem dL_557 {nm : String} : gd (mL_law nm) 557 (.iload 4) 2 559 := ⟨eL_557, rfl⟩
theorem eL_559 : decode cL_law 559 = .ok (.iconst 2, 1) := by decide +kernel
theorem dL_559 {nm : String} : gd (mL_law nm) 559 (.iconst 2) 1 560 := ⟨eL_559, rfl⟩
theorem eL_560 : decode cL_law 560 = .ok (.iadd, 1) := by decide +kernel
theorem dL_560 {nm : String} : gd (mL_law nm) 560 (.iadd) 1 561 := ⟨eL_560, rfl⟩
theorem eL_561 : decode cL_law 561 = .ok (.iaload, 1) := by decide +kernel
theorem dL_561 {nm : String} : gd (mL_law nm) 561 (.iaload) 1 562 := ⟨eL_561, rfl⟩
theorem eL_562 : decode cL_law 562 = .ok (.invokevirtual 62, 3) := by decide +kernel
theorem dL_562 {nm : String} : gd (mL_law nm) 562 (.invokevirtual 62) 3 565 := ⟨eL_562, rfl⟩
theorem eL_565 : decode cL_law 565 = .ok (.if_icmp .eq 1091, 3) := by decide +kernel
theorem dL_565 {nm : String} : gj (mL_law nm) 565 (.if_icmp .eq 1091) (1091) 568 1656 := ⟨eL_565, rfl, by decide⟩
theorem eL_568 : decode cL_law 568 = .ok (.iconst 0, 1) := by decide +kernel
theorem dL_568 {nm : String} : gd (mL_law nm) 568 (.iconst 0) 1 569 := ⟨eL_568, rfl⟩
theorem eL_569 : decode cL_law 569 = .ok (.ireturn, 1) := by decide +kernel
theorem eL_570 : decode cL_law 570 = .ok (.aload_n 1, 1) := by decide +kernel
theorem dL_570 {nm : String} : gd (mL_law nm) 570 (.aload_n 1) 1 571 := ⟨eL_570, rfl⟩
theorem eL_571 : decode cL_law 571 = .ok (.aload_n 0, 1) := by decide +kernel
theorem dL_571 {nm : String} : gd (mL_law nm) 571 (.aload_n 0) 1 572 := ⟨eL_571, rfl⟩
theorem eL_572 : decode cL_law 572 = .ok (.iload 4, 2) := by decide +kernel
theorem dL_572 {nm : String} : gd (mL_law nm) 572 (.iload 4) 2 574 := ⟨eL_572, rfl⟩
theorem eL_574 : decode cL_law 574 = .ok (.iconst 1, 1) := by decide +kernel
theorem dL_574 {nm : String} : gd (mL_law nm) 574 (.iconst 1) 1 575 := ⟨eL_574, rfl⟩
theorem eL_575 : decode cL_law 575 = .ok (.iadd, 1) := by decide +kernel
theorem dL_575 {nm : String} : gd (mL_law nm) 575 (.iadd) 1 576 := ⟨eL_575, rfl⟩
theorem eL_576 : decode cL_law 576 = .ok (.iaload, 1) := by decide +kernel
theorem dL_576 {nm : String} : gd (mL_law nm) 576 (.iaload) 1 577 := ⟨eL_576, rfl⟩
theorem eL_577 : decode cL_law 577 = .ok (.aload_n 0, 1) := by decide +kernel
theorem dL_577 {nm : String} : gd (mL_law nm) 577 (.aload_n 0) 1 578 := ⟨eL_577, rfl⟩
theorem eL_578 : decode cL_law 578 = .ok (.iload 4, 2) := by decide +kernel
theorem dL_578 {nm : String} : gd (mL_law nm) 578 (.iload 4) 2 580 := ⟨eL_578, rfl⟩
theorem eL_580 : decode cL_law 580 = .ok (.iconst 2, 1) := by decide +kernel
theorem dL_580 {nm : String} : gd (mL_law nm) 580 (.iconst 2) 1 581 := ⟨eL_580, rfl⟩
theorem eL_581 : decode cL_law 581 = .ok (.iadd, 1) := by decide +kernel
theorem dL_581 {nm : String} : gd (mL_law nm) 581 (.iadd) 1 582 := ⟨eL_581, rfl⟩
theorem eL_582 : decode cL_law 582 = .ok (.iaload, 1) := by decide +kernel
theorem dL_582 {nm : String} : gd (mL_law nm) 582 (.iaload) 1 583 := ⟨eL_582, rfl⟩
theorem eL_583 : decode cL_law 583 = .ok (.invokevirtual 63, 3) := by decide +kernel
theorem dL_583 {nm : String} : gd (mL_law nm) 583 (.invokevirtual 63) 3 586 := ⟨eL_583, rfl⟩
theorem eL_586 : decode cL_law 586 = .ok (.aload_n 2, 1) := by decide +kernel
theorem dL_586 {nm : String} : gd (mL_law nm) 586 (.aload_n 2) 1 587 := ⟨eL_586, rfl⟩
theorem eL_587 : decode cL_law 587 = .ok (.aload_n 0, 1) := by decide +kernel
theorem dL_587 {nm : String} : gd (mL_law nm) 587 (.aload_n 0) 1 588 := ⟨eL_587, rfl⟩
theorem eL_588 : decode cL_law 588 = .ok (.iload 4, 2) := by decide +kernel
theorem dL_588 {nm : String} : gd (mL_law nm) 588 (.iload 4) 2 590 := ⟨eL_588, rfl⟩
theorem eL_590 : decode cL_law 590 = .ok (.iconst 1, 1) := by decide +kernel
theorem dL_590 {nm : String} : gd (mL_law nm) 590 (.iconst 1) 1 591 := ⟨eL_590, rfl⟩
theorem eL_591 : decode cL_law 591 = .ok (.iadd, 1) := by decide +kernel
theorem dL_591 {nm : String} : gd (mL_law nm) 591 (.iadd) 1 592 := ⟨eL_591, rfl⟩
theorem eL_592 : decode cL_law 592 = .ok (.iaload, 1) := by decide +kernel
theorem dL_592 {nm : String} : gd (mL_law nm) 592 (.iaload) 1 593 := ⟨eL_592, rfl⟩
theorem eL_593 : decode cL_law 593 = .ok (.aload_n 0, 1) := by decide +kernel
theorem dL_593 {nm : String} : gd (mL_law nm) 593 (.aload_n 0) 1 594 := ⟨eL_593, rfl⟩
theorem eL_594 : decode cL_law 594 = .ok (.iload 4, 2) := by decide +kernel
theorem dL_594 {nm : String} : gd (mL_law nm) 594 (.iload 4) 2 596 := ⟨eL_594, rfl⟩
theorem eL_596 : decode cL_law 596 = .ok (.iconst 2, 1) := by decide +kernel
theorem dL_596 {nm : String} : gd (mL_law nm) 596 (.iconst 2) 1 597 := ⟨eL_596, rfl⟩
theorem eL_597 : decode cL_law 597 = .ok (.iadd, 1) := by decide +kernel
theorem dL_597 {nm : String} : gd (mL_law nm) 597 (.iadd) 1 598 := ⟨eL_597, rfl⟩
theorem eL_598 : decode cL_law 598 = .ok (.iaload, 1) := by decide +kernel
theorem dL_598 {nm : String} : gd (mL_law nm) 598 (.iaload) 1 599 := ⟨eL_598, rfl⟩
theorem eL_599 : decode cL_law 599 = .ok (.invokevirtual 66, 3) := by decide +kernel
theorem dL_599 {nm : String} : gd (mL_law nm) 599 (.invokevirtual 66) 3 602 := ⟨eL_599, rfl⟩
theorem eL_602 : decode cL_law 602 = .ok (.if_icmp .eq 1054, 3) := by decide +kernel
theorem dL_602 {nm : String} : gj (mL_law nm) 602 (.if_icmp .eq 1054) (1054) 605 1656 := ⟨eL_602, rfl, by decide⟩
theorem eL_605 : decode cL_law 605 = .ok (.iconst 0, 1) := by decide +kernel
theorem dL_605 {nm : String} : gd (mL_law nm) 605 (.iconst 0) 1 606 := ⟨eL_605, rfl⟩
theorem eL_606 : decode cL_law 606 = .ok (.ireturn, 1) := by decide +kernel
theorem eL_607 : decode cL_law 607 = .ok (.aload_n 1, 1) := by decide +kernel
theorem dL_607 {nm : String} : gd (mL_law nm) 607 (.aload_n 1) 1 608 := ⟨eL_607, rfl⟩
theorem eL_608 : decode cL_law 608 = .ok (.aload_n 0, 1) := by decide +kernel
theorem dL_608 {nm : String} : gd (mL_law nm) 608 (.aload_n 0) 1 609 := ⟨eL_608, rfl⟩
theorem eL_609 : decode cL_law 609 = .ok (.iload 4, 2) := by decide +kernel
theorem dL_609 {nm : String} : gd (mL_law nm) 609 (.iload 4) 2 611 := ⟨eL_609, rfl⟩
theorem eL_611 : decode cL_law 611 = .ok (.iconst 1, 1) := by decide +kernel
theorem dL_611 {nm : String} : gd (mL_law nm) 611 (.iconst 1) 1 612 := ⟨eL_611, rfl⟩
theorem eL_612 : decode cL_law 612 = .ok (.iadd, 1) := by decide +kernel
theorem dL_612 {nm : String} : gd (mL_law nm) 612 (.iadd) 1 613 := ⟨eL_612, rfl⟩
theorem eL_613 : decode cL_law 613 = .ok (.iaload, 1) := by decide +kernel
theorem dL_613 {nm : String} : gd (mL_law nm) 613 (.iaload) 1 614 := ⟨eL_613, rfl⟩
theorem eL_614 : decode cL_law 614 = .ok (.invokevirtual 67, 3) := by decide +kernel
theorem dL_614 {nm : String} : gd (mL_law nm) 614 (.invokevirtual 67) 3 617 := ⟨eL_614, rfl⟩
theorem eL_617 : decode cL_law 617 = .ok (.aload_n 2, 1) := by decide +kernel
theorem dL_617 {nm : String} : gd (mL_law nm) 617 (.aload_n 2) 1 618 := ⟨eL_617, rfl⟩
theorem eL_618 : decode cL_law 618 = .ok (.aload_n 0, 1) := by decide +kernel
theorem dL_618 {nm : String} : gd (mL_law nm) 618 (.aload_n 0) 1 619 := ⟨eL_618, rfl⟩
theorem eL_619 : decode cL_law 619 = .ok (.iload 4, 2) := by decide +kernel
theorem dL_619 {nm : String} : gd (mL_law nm) 619 (.iload 4) 2 621 := ⟨eL_619, rfl⟩
theorem eL_621 : decode cL_law 621 = .ok (.iconst 1, 1) := by decide +kernel
theorem dL_621 {nm : String} : gd (mL_law nm) 621 (.iconst 1) 1 622 := ⟨eL_621, rfl⟩
theorem eL_622 : decode cL_law 622 = .ok (.iadd, 1) := by decide +kernel
theorem dL_622 {nm : String} : gd (mL_law nm) 622 (.iadd) 1 623 := ⟨eL_622, rfl⟩
theorem eL_623 : decode cL_law 623 = .ok (.iaload, 1) := by decide +kernel
theorem dL_623 {nm : String} : gd (mL_law nm) 623 (.iaload) 1 624 := ⟨eL_623, rfl⟩
theorem eL_624 : decode cL_law 624 = .ok (.invokevirtual 70, 3) := by decide +kernel
theorem dL_624 {nm : String} : gd (mL_law nm) 624 (.invokevirtual 70) 3 627 := ⟨eL_624, rfl⟩
theorem eL_627 : decode cL_law 627 = .ok (.if_icmp .eq 1029, 3) := by decide +kernel
theorem dL_627 {nm : String} : gj (mL_law nm) 627 (.if_icmp .eq 1029) (1029) 630 1656 := ⟨eL_627, rfl, by decide⟩
theorem eL_630 : decode cL_law 630 = .ok (.iconst 0, 1) := by decide +kernel
theorem dL_630 {nm : String} : gd (mL_law nm) 630 (.iconst 0) 1 631 := ⟨eL_630, rfl⟩
theorem eL_631 : decode cL_law 631 = .ok (.ireturn, 1) := by decide +kernel
theorem eL_632 : decode cL_law 632 = .ok (.aload_n 1, 1) := by decide +kernel
theorem dL_632 {nm : String} : gd (mL_law nm) 632 (.aload_n 1) 1 633 := ⟨eL_632, rfl⟩
theorem eL_633 : decode cL_law 633 = .ok (.aload_n 0, 1) := by decide +kernel
theorem dL_633 {nm : String} : gd (mL_law nm) 633 (.aload_n 0) 1 634 := ⟨eL_633, rfl⟩
theorem eL_634 : decode cL_law 634 = .ok (.iload 4, 2) := by decide +kernel
theorem dL_634 {nm : String} : gd (mL_law nm) 634 (.iload 4) 2 636 := ⟨eL_634, rfl⟩
theorem eL_636 : decode cL_law 636 = .ok (.iconst 1, 1) := by decide +kernel
theorem dL_636 {nm : String} : gd (mL_law nm) 636 (.iconst 1) 1 637 := ⟨eL_636, rfl⟩
theorem eL_637 : decode cL_law 637 = .ok (.iadd, 1) := by decide +kernel
theorem dL_637 {nm : String} : gd (mL_law nm) 637 (.iadd) 1 638 := ⟨eL_637, rfl⟩
theorem eL_638 : decode cL_law 638 = .ok (.iaload, 1) := by decide +kernel
theorem dL_638 {nm : String} : gd (mL_law nm) 638 (.iaload) 1 639 := ⟨eL_638, rfl⟩
theorem eL_639 : decode cL_law 639 = .ok (.invokevirtual 71, 3) := by decide +kernel
theorem dL_639 {nm : String} : gd (mL_law nm) 639 (.invokevirtual 71) 3 642 := ⟨eL_639, rfl⟩
theorem eL_642 : decode cL_law 642 = .ok (.aload_n 2, 1) := by decide +kernel
theorem dL_642 {nm : String} : gd (mL_law nm) 642 (.aload_n 2) 1 643 := ⟨eL_642, rfl⟩
theorem eL_643 : decode cL_law 643 = .ok (.aload_n 0, 1) := by decide +kernel
theorem dL_643 {nm : String} : gd (mL_law nm) 643 (.aload_n 0) 1 644 := ⟨eL_643, rfl⟩
theorem eL_644 : decode cL_law 644 = .ok (.iload 4, 2) := by decide +kernel
theorem dL_644 {nm : String} : gd (mL_law nm) 644 (.iload 4) 2 646 := ⟨eL_644, rfl⟩
theorem eL_646 : decode cL_law 646 = .ok (.iconst 1, 1) := by decide +kernel
theorem dL_646 {nm : String} : gd (mL_law nm) 646 (.iconst 1) 1 647 := ⟨eL_646, rfl⟩
theorem eL_647 : decode cL_law 647 = .ok (.iadd, 1) := by decide +kernel
theorem dL_647 {nm : String} : gd (mL_law nm) 647 (.iadd) 1 648 := ⟨eL_647, rfl⟩
theorem eL_648 : decode cL_law 648 = .ok (.iaload, 1) := by decide +kernel
theorem dL_648 {nm : String} : gd (mL_law nm) 648 (.iaload) 1 649 := ⟨eL_648, rfl⟩
theorem eL_649 : decode cL_law 649 = .ok (.invokevirtual 74, 3) := by decide +kernel
theorem dL_649 {nm : String} : gd (mL_law nm) 649 (.invokevirtual 74) 3 652 := ⟨eL_649, rfl⟩
theorem eL_652 : decode cL_law 652 = .ok (.if_icmp .eq 1004, 3) := by decide +kernel
theorem dL_652 {nm : String} : gj (mL_law nm) 652 (.if_icmp .eq 1004) (1004) 655 1656 := ⟨eL_652, rfl, by decide⟩
theorem eL_655 : decode cL_law 655 = .ok (.iconst 0, 1) := by decide +kernel
theorem dL_655 {nm : String} : gd (mL_law nm) 655 (.iconst 0) 1 656 := ⟨eL_655, rfl⟩
theorem eL_656 : decode cL_law 656 = .ok (.ireturn, 1) := by decide +kernel
theorem eL_657 : decode cL_law 657 = .ok (.aload_n 1, 1) := by decide +kernel
theorem dL_657 {nm : String} : gd (mL_law nm) 657 (.aload_n 1) 1 658 := ⟨eL_657, rfl⟩
theorem eL_658 : decode cL_law 658 = .ok (.aload_n 0, 1) := by decide +kernel
theorem dL_658 {nm : String} : gd (mL_law nm) 658 (.aload_n 0) 1 659 := ⟨eL_658, rfl⟩
theorem eL_659 : decode cL_law 659 = .ok (.iload 4, 2) := by decide +kernel
theorem dL_659 {nm : String} : gd (mL_law nm) 659 (.iload 4) 2 661 := ⟨eL_659, rfl⟩
theorem eL_661 : decode cL_law 661 = .ok (.iconst 1, 1) := by decide +kernel
theorem dL_661 {nm : String} : gd (mL_law nm) 661 (.iconst 1) 1 662 := ⟨eL_661, rfl⟩
theorem eL_662 : decode cL_law 662 = .ok (.iadd, 1) := by decide +kernel
theorem dL_662 {nm : String} : gd (mL_law nm) 662 (.iadd) 1 663 := ⟨eL_662, rfl⟩
theorem eL_663 : decode cL_law 663 = .ok (.iaload, 1) := by decide +kernel
theorem dL_663 {nm : String} : gd (mL_law nm) 663 (.iaload) 1 664 := ⟨eL_663, rfl⟩
theorem eL_664 : decode cL_law 664 = .ok (.invokevirtual 75, 3) := by decide +kernel
theorem dL_664 {nm : String} : gd (mL_law nm) 664 (.invokevirtual 75) 3 667 := ⟨eL_664, rfl⟩
theorem eL_667 : decode cL_law 667 = .ok (.aload_n 2, 1) := by decide +kernel
theorem dL_667 {nm : String} : gd (mL_law nm) 667 (.aload_n 2) 1 668 := ⟨eL_667, rfl⟩
theorem eL_668 : decode cL_law 668 = .ok (.aload_n 0, 1) := by decide +kernel
theorem dL_668 {nm : String} : gd (mL_law nm) 668 (.aload_n 0) 1 669 := ⟨eL_668, rfl⟩
theorem eL_669 : decode cL_law 669 = .ok (.iload 4, 2) := by decide +kernel
theorem dL_669 {nm : String} : gd (mL_law nm) 669 (.iload 4) 2 671 := ⟨eL_669, rfl⟩
theorem eL_671 : decode cL_law 671 = .ok (.iconst 1, 1) := by decide +kernel
theorem dL_671 {nm : String} : gd (mL_law nm) 671 (.iconst 1) 1 672 := ⟨eL_671, rfl⟩
theorem eL_672 : decode cL_law 672 = .ok (.iadd, 1) := by decide +kernel
theorem dL_672 {nm : String} : gd (mL_law nm) 672 (.iadd) 1 673 := ⟨eL_672, rfl⟩
theorem eL_673 : decode cL_law 673 = .ok (.iaload, 1) := by decide +kernel
theorem dL_673 {nm : String} : gd (mL_law nm) 673 (.iaload) 1 674 := ⟨eL_673, rfl⟩
theorem eL_674 : decode cL_law 674 = .ok (.invokevirtual 78, 3) := by decide +kernel
theorem dL_674 {nm : String} : gd (mL_law nm) 674 (.invokevirtual 78) 3 677 := ⟨eL_674, rfl⟩
theorem eL_677 : decode cL_law 677 = .ok (.if_icmp .eq 979, 3) := by decide +kernel
theorem dL_677 {nm : String} : gj (mL_law nm) 677 (.if_icmp .eq 979) (979) 680 1656 := ⟨eL_677, rfl, by decide⟩
theorem eL_680 : decode cL_law 680 = .ok (.iconst 0, 1) := by decide +kernel
theorem dL_680 {nm : String} : gd (mL_law nm) 680 (.iconst 0) 1 681 := ⟨eL_680, rfl⟩
theorem eL_681 : decode cL_law 681 = .ok (.ireturn, 1) := by decide +kernel
theorem eL_682 : decode cL_law 682 = .ok (.aload_n 1, 1) := by decide +kernel
theorem dL_682 {nm : String} : gd (mL_law nm) 682 (.aload_n 1) 1 683 := ⟨eL_682, rfl⟩
theorem eL_683 : decode cL_law 683 = .ok (.aload_n 0, 1) := by decide +kernel
theorem dL_683 {nm : String} : gd (mL_law nm) 683 (.aload_n 0) 1 684 := ⟨eL_683, rfl⟩
theorem eL_684 : decode cL_law 684 = .ok (.iload 4, 2) := by decide +kernel
theorem dL_684 {nm : String} : gd (mL_law nm) 684 (.iload 4) 2 686 := ⟨eL_684, rfl⟩
theorem eL_686 : decode cL_law 686 = .ok (.iconst 1, 1) := by decide +kernel
theorem dL_686 {nm : String} : gd (mL_law nm) 686 (.iconst 1) 1 687 := ⟨eL_686, rfl⟩
theorem eL_687 : decode cL_law 687 = .ok (.iadd, 1) := by decide +kernel
theorem dL_687 {nm : String} : gd (mL_law nm) 687 (.iadd) 1 688 := ⟨eL_687, rfl⟩
theorem eL_688 : decode cL_law 688 = .ok (.iaload, 1) := by decide +kernel
theorem dL_688 {nm : String} : gd (mL_law nm) 688 (.iaload) 1 689 := ⟨eL_688, rfl⟩
theorem eL_689 : decode cL_law 689 = .ok (.invokevirtual 79, 3) := by decide +kernel
theorem dL_689 {nm : String} : gd (mL_law nm) 689 (.invokevirtual 79) 3 692 := ⟨eL_689, rfl⟩
theorem eL_692 : decode cL_law 692 = .ok (.aload_n 2, 1) := by decide +kernel
theorem dL_692 {nm : String} : gd (mL_law nm) 692 (.aload_n 2) 1 693 := ⟨eL_692, rfl⟩
theorem eL_693 : decode cL_law 693 = .ok (.aload_n 0, 1) := by decide +kernel
theorem dL_693 {nm : String} : gd (mL_law nm) 693 (.aload_n 0) 1 694 := ⟨eL_693, rfl⟩
theorem eL_694 : decode cL_law 694 = .ok (.iload 4, 2) := by decide +kernel
theorem dL_694 {nm : String} : gd (mL_law nm) 694 (.iload 4) 2 696 := ⟨eL_694, rfl⟩
theorem eL_696 : decode cL_law 696 = .ok (.iconst 1, 1) := by decide +kernel
theorem dL_696 {nm : String} : gd (mL_law nm) 696 (.iconst 1) 1 697 := ⟨eL_696, rfl⟩
theorem eL_697 : decode cL_law 697 = .ok (.iadd, 1) := by decide +kernel
theorem dL_697 {nm : String} : gd (mL_law nm) 697 (.iadd) 1 698 := ⟨eL_697, rfl⟩
theorem eL_698 : decode cL_law 698 = .ok (.iaload, 1) := by decide +kernel
theorem dL_698 {nm : String} : gd (mL_law nm) 698 (.iaload) 1 699 := ⟨eL_698, rfl⟩
theorem eL_699 : decode cL_law 699 = .ok (.invokevirtual 82, 3) := by decide +kernel
theorem dL_699 {nm : String} : gd (mL_law nm) 699 (.invokevirtual 82) 3 702 := ⟨eL_699, rfl⟩
theorem eL_702 : decode cL_law 702 = .ok (.if_icmp .eq 954, 3) := by decide +kernel
theorem dL_702 {nm : String} : gj (mL_law nm) 702 (.if_icmp .eq 954) (954) 705 1656 := ⟨eL_702, rfl, by decide⟩
theorem eL_705 : decode cL_law 705 = .ok (.iconst 0, 1) := by decide +kernel
theorem dL_705 {nm : String} : gd (mL_law nm) 705 (.iconst 0) 1 706 := ⟨eL_705, rfl⟩
theorem eL_706 : decode cL_law 706 = .ok (.ireturn, 1) := by decide +kernel
theorem eL_707 : decode cL_law 707 = .ok (.aload_n 1, 1) := by decide +kernel
theorem dL_707 {nm : String} : gd (mL_law nm) 707 (.aload_n 1) 1 708 := ⟨eL_707, rfl⟩
theorem eL_708 : decode cL_law 708 = .ok (.aload_n 0, 1) := by decide +kernel
theorem dL_708 {nm : String} : gd (mL_law nm) 708 (.aload_n 0) 1 709 := ⟨eL_708, rfl⟩
theorem eL_709 : decode cL_law 709 = .ok (.iload 4, 2) := by decide +kernel
theorem dL_709 {nm : String} : gd (mL_law nm) 709 (.iload 4) 2 711 := ⟨eL_709, rfl⟩
theorem eL_711 : decode cL_law 711 = .ok (.iconst 1, 1) := by decide +kernel
theorem dL_711 {nm : String} : gd (mL_law nm) 711 (.iconst 1) 1 712 := ⟨eL_711, rfl⟩
theorem eL_712 : decode cL_law 712 = .ok (.iadd, 1) := by decide +kernel
theorem dL_712 {nm : String} : gd (mL_law nm) 712 (.iadd) 1 713 := ⟨eL_712, rfl⟩
theorem eL_713 : decode cL_law 713 = .ok (.iaload, 1) := by decide +kernel
theorem dL_713 {nm : String} : gd (mL_law nm) 713 (.iaload) 1 714 := ⟨eL_713, rfl⟩
theorem eL_714 : decode cL_law 714 = .ok (.invokevirtual 83, 3) := by decide +kernel
theorem dL_714 {nm : String} : gd (mL_law nm) 714 (.invokevirtual 83) 3 717 := ⟨eL_714, rfl⟩
theorem eL_717 : decode cL_law 717 = .ok (.aload_n 2, 1) := by decide +kernel
theorem dL_717 {nm : String} : gd (mL_law nm) 717 (.aload_n 2) 1 718 := ⟨eL_717, rfl⟩
theorem eL_718 : decode cL_law 718 = .ok (.aload_n 0, 1) := by decide +kernel
theorem dL_718 {nm : String} : gd (mL_law nm) 718 (.aload_n 0) 1 719 := ⟨eL_718, rfl⟩
theorem eL_719 : decode cL_law 719 = .ok (.iload 4, 2) := by decide +kernel
theorem dL_719 {nm : String} : gd (mL_law nm) 719 (.iload 4) 2 721 := ⟨eL_719, rfl⟩
theorem eL_721 : decode cL_law 721 = .ok (.iconst 1, 1) := by decide +kernel
theorem dL_721 {nm : String} : gd (mL_law nm) 721 (.iconst 1) 1 722 := ⟨eL_721, rfl⟩
theorem eL_722 : decode cL_law 722 = .ok (.iadd, 1) := by decide +kernel
theorem dL_722 {nm : String} : gd (mL_law nm) 722 (.iadd) 1 723 := ⟨eL_722, rfl⟩
theorem eL_723 : decode cL_law 723 = .ok (.iaload, 1) := by decide +kernel
theorem dL_723 {nm : String} : gd (mL_law nm) 723 (.iaload) 1 724 := ⟨eL_723, rfl⟩
theorem eL_724 : decode cL_law 724 = .ok (.invokevirtual 86, 3) := by decide +kernel
theorem dL_724 {nm : String} : gd (mL_law nm) 724 (.invokevirtual 86) 3 727 := ⟨eL_724, rfl⟩
theorem eL_727 : decode cL_law 727 = .ok (.if_icmp .eq 929, 3) := by decide +kernel
theorem dL_727 {nm : String} : gj (mL_law nm) 727 (.if_icmp .eq 929) (929) 730 1656 := ⟨eL_727, rfl, by decide⟩
theorem eL_730 : decode cL_law 730 = .ok (.iconst 0, 1) := by decide +kernel
theorem dL_730 {nm : String} : gd (mL_law nm) 730 (.iconst 0) 1 731 := ⟨eL_730, rfl⟩
theorem eL_731 : decode cL_law 731 = .ok (.ireturn, 1) := by decide +kernel
theorem eL_732 : decode cL_law 732 = .ok (.aload_n 1, 1) := by decide +kernel
theorem dL_732 {nm : String} : gd (mL_law nm) 732 (.aload_n 1) 1 733 := ⟨eL_732, rfl⟩
theorem eL_733 : decode cL_law 733 = .ok (.invokevirtual 87, 3) := by decide +kernel
theorem dL_733 {nm : String} : gd (mL_law nm) 733 (.invokevirtual 87) 3 736 := ⟨eL_733, rfl⟩
theorem eL_736 : decode cL_law 736 = .ok (.aload_n 2, 1) := by decide +kernel
theorem dL_736 {nm : String} : gd (mL_law nm) 736 (.aload_n 2) 1 737 := ⟨eL_736, rfl⟩
theorem eL_737 : decode cL_law 737 = .ok (.invokevirtual 91, 3) := by decide +kernel
theorem dL_737 {nm : String} : gd (mL_law nm) 737 (.invokevirtual 91) 3 740 := ⟨eL_737, rfl⟩
theorem eL_740 : decode cL_law 740 = .ok (.if_icmp .eq 916, 3) := by decide +kernel
theorem dL_740 {nm : String} : gj (mL_law nm) 740 (.if_icmp .eq 916) (916) 743 1656 := ⟨eL_740, rfl, by decide⟩
theorem eL_743 : decode cL_law 743 = .ok (.iconst 0, 1) := by decide +kernel
theorem dL_743 {nm : String} : gd (mL_law nm) 743 (.iconst 0) 1 744 := ⟨eL_743, rfl⟩
theorem eL_744 : decode cL_law 744 = .ok (.ireturn, 1) := by decide +kernel
theorem eL_745 : decode cL_law 745 = .ok (.aload_n 1, 1) := by decide +kernel
theorem dL_745 {nm : String} : gd (mL_law nm) 745 (.aload_n 1) 1 746 := ⟨eL_745, rfl⟩
theorem eL_746 : decode cL_law 746 = .ok (.aload_n 0, 1) := by decide +kernel
theorem dL_746 {nm : String} : gd (mL_law nm) 746 (.aload_n 0) 1 747 := ⟨eL_746, rfl⟩
theorem eL_747 : decode cL_law 747 = .ok (.iload 4, 2) := by decide +kernel
theorem dL_747 {nm : String} : gd (mL_law nm) 747 (.iload 4) 2 749 := ⟨eL_747, rfl⟩
theorem eL_749 : decode cL_law 749 = .ok (.iconst 1, 1) := by decide +kernel
theorem dL_749 {nm : String} : gd (mL_law nm) 749 (.iconst 1) 1 750 := ⟨eL_749, rfl⟩
theorem eL_750 : decode cL_law 750 = .ok (.iadd, 1) := by decide +kernel
theorem dL_750 {nm : String} : gd (mL_law nm) 750 (.iadd) 1 751 := ⟨eL_750, rfl⟩
theorem eL_751 : decode cL_law 751 = .ok (.iaload, 1) := by decide +kernel
theorem dL_751 {nm : String} : gd (mL_law nm) 751 (.iaload) 1 752 := ⟨eL_751, rfl⟩
theorem eL_752 : decode cL_law 752 = .ok (.invokevirtual 92, 3) := by decide +kernel
theorem dL_752 {nm : String} : gd (mL_law nm) 752 (.invokevirtual 92) 3 755 := ⟨eL_752, rfl⟩
theorem eL_755 : decode cL_law 755 = .ok (.aload_n 2, 1) := by decide +kernel
theorem dL_755 {nm : String} : gd (mL_law nm) 755 (.aload_n 2) 1 756 := ⟨eL_755, rfl⟩
theorem eL_756 : decode cL_law 756 = .ok (.aload_n 0, 1) := by decide +kernel
theorem dL_756 {nm : String} : gd (mL_law nm) 756 (.aload_n 0) 1 757 := ⟨eL_756, rfl⟩
theorem eL_757 : decode cL_law 757 = .ok (.iload 4, 2) := by decide +kernel
theorem dL_757 {nm : String} : gd (mL_law nm) 757 (.iload 4) 2 759 := ⟨eL_757, rfl⟩
theorem eL_759 : decode cL_law 759 = .ok (.iconst 1, 1) := by decide +kernel
theorem dL_759 {nm : String} : gd (mL_law nm) 759 (.iconst 1) 1 760 := ⟨eL_759, rfl⟩
theorem eL_760 : decode cL_law 760 = .ok (.iadd, 1) := by decide +kernel
theorem dL_760 {nm : String} : gd (mL_law nm) 760 (.iadd) 1 761 := ⟨eL_760, rfl⟩
theorem eL_761 : decode cL_law 761 = .ok (.iaload, 1) := by decide +kernel
theorem dL_761 {nm : String} : gd (mL_law nm) 761 (.iaload) 1 762 := ⟨eL_761, rfl⟩
theorem eL_762 : decode cL_law 762 = .ok (.invokevirtual 95, 3) := by decide +kernel
theorem dL_762 {nm : String} : gd (mL_law nm) 762 (.invokevirtual 95) 3 765 := ⟨eL_762, rfl⟩
theorem eL_765 : decode cL_law 765 = .ok (.if_icmp .eq 891, 3) := by decide +kernel
theorem dL_765 {nm : String} : gj (mL_law nm) 765 (.if_icmp .eq 891) (891) 768 1656 := ⟨eL_765, rfl, by decide⟩
theorem eL_768 : decode cL_law 768 = .ok (.iconst 0, 1) := by decide +kernel
theorem dL_768 {nm : String} : gd (mL_law nm) 768 (.iconst 0) 1 769 := ⟨eL_768, rfl⟩
theorem eL_769 : decode cL_law 769 = .ok (.ireturn, 1) := by decide +kernel
theorem eL_770 : decode cL_law 770 = .ok (.aload_n 1, 1) := by decide +kernel
theorem dL_770 {nm : String} : gd (mL_law nm) 770 (.aload_n 1) 1 771 := ⟨eL_770, rfl⟩
theorem eL_771 : decode cL_law 771 = .ok (.invokevirtual 96, 3) := by decide +kernel
theorem dL_771 {nm : String} : gd (mL_law nm) 771 (.invokevirtual 96) 3 774 := ⟨eL_771, rfl⟩
theorem eL_774 : decode cL_law 774 = .ok (.aload_n 2, 1) := by decide +kernel
theorem dL_774 {nm : String} : gd (mL_law nm) 774 (.aload_n 2) 1 775 := ⟨eL_774, rfl⟩
theorem eL_775 : decode cL_law 775 = .ok (.invokevirtual 99, 3) := by decide +kernel
theorem dL_775 {nm : String} : gd (mL_law nm) 775 (.invokevirtual 99) 3 778 := ⟨eL_775, rfl⟩
theorem eL_778 : decode cL_law 778 = .ok (.if_icmp .eq 878, 3) := by decide +kernel
theorem dL_778 {nm : String} : gj (mL_law nm) 778 (.if_icmp .eq 878) (878) 781 1656 := ⟨eL_778, rfl, by decide⟩
theorem eL_781 : decode cL_law 781 = .ok (.iconst 0, 1) := by decide +kernel
theorem dL_781 {nm : String} : gd (mL_law nm) 781 (.iconst 0) 1 782 := ⟨eL_781, rfl⟩
theorem eL_782 : decode cL_law 782 = .ok (.ireturn, 1) := by decide +kernel
theorem eL_783 : decode cL_law 783 = .ok (.aload_n 1, 1) := by decide +kernel
theorem dL_783 {nm : String} : gd (mL_law nm) 783 (.aload_n 1) 1 784 := ⟨eL_783, rfl⟩
theorem eL_784 : decode cL_law 784 = .ok (.invokevirtual 100, 3) := by decide +kernel
theorem dL_784 {nm : String} : gd (mL_law nm) 784 (.invokevirtual 100) 3 787 := ⟨eL_784, rfl⟩
theorem eL_787 : decode cL_law 787 = .ok (.aload_n 2, 1) := by decide +kernel
theorem dL_787 {nm : String} : gd (mL_law nm) 787 (.aload_n 2) 1 788 := ⟨eL_787, rfl⟩
theorem eL_788 : decode cL_law 788 = .ok (.invokevirtual 103, 3) := by decide +kernel
theorem dL_788 {nm : String} : gd (mL_law nm) 788 (.invokevirtual 103) 3 791 := ⟨eL_788, rfl⟩
theorem eL_791 : decode cL_law 791 = .ok (.if_icmp .eq 865, 3) := by decide +kernel
theorem dL_791 {nm : String} : gj (mL_law nm) 791 (.if_icmp .eq 865) (865) 794 1656 := ⟨eL_791, rfl, by decide⟩
theorem eL_794 : decode cL_law 794 = .ok (.iconst 0, 1) := by decide +kernel
theorem dL_794 {nm : String} : gd (mL_law nm) 794 (.iconst 0) 1 795 := ⟨eL_794, rfl⟩
theorem eL_795 : decode cL_law 795 = .ok (.ireturn, 1) := by decide +kernel
theorem eL_796 : decode cL_law 796 = .ok (.aload_n 1, 1) := by decide +kernel
theorem dL_796 {nm : String} : gd (mL_law nm) 796 (.aload_n 1) 1 797 := ⟨eL_796, rfl⟩
theorem eL_797 : decode cL_law 797 = .ok (.aload_n 0, 1) := by decide +kernel
theorem dL_797 {nm : String} : gd (mL_law nm) 797 (.aload_n 0) 1 798 := ⟨eL_797, rfl⟩
theorem eL_798 : decode cL_law 798 = .ok (.iload 4, 2) := by decide +kernel
theorem dL_798 {nm : String} : gd (mL_law nm) 798 (.iload 4) 2 800 := ⟨eL_798, rfl⟩
theorem eL_800 : decode cL_law 800 = .ok (.iconst 1, 1) := by decide +kernel
theorem dL_800 {nm : String} : gd (mL_law nm) 800 (.iconst 1) 1 801 := ⟨eL_800, rfl⟩
theorem eL_801 : decode cL_law 801 = .ok (.iadd, 1) := by decide +kernel
theorem dL_801 {nm : String} : gd (mL_law nm) 801 (.iadd) 1 802 := ⟨eL_801, rfl⟩
theorem eL_802 : decode cL_law 802 = .ok (.iaload, 1) := by decide +kernel
theorem dL_802 {nm : String} : gd (mL_law nm) 802 (.iaload) 1 803 := ⟨eL_802, rfl⟩
theorem eL_803 : decode cL_law 803 = .ok (.invokevirtual 104, 3) := by decide +kernel
theorem dL_803 {nm : String} : gd (mL_law nm) 803 (.invokevirtual 104) 3 806 := ⟨eL_803, rfl⟩
theorem eL_806 : decode cL_law 806 = .ok (.aload_n 2, 1) := by decide +kernel
theorem dL_806 {nm : String} : gd (mL_law nm) 806 (.aload_n 2) 1 807 := ⟨eL_806, rfl⟩
theorem eL_807 : decode cL_law 807 = .ok (.aload_n 0, 1) := by decide +kernel
theorem dL_807 {nm : String} : gd (mL_law nm) 807 (.aload_n 0) 1 808 := ⟨eL_807, rfl⟩
theorem eL_808 : decode cL_law 808 = .ok (.iload 4, 2) := by decide +kernel
theorem dL_808 {nm : String} : gd (mL_law nm) 808 (.iload 4) 2 810 := ⟨eL_808, rfl⟩
theorem eL_810 : decode cL_law 810 = .ok (.iconst 1, 1) := by decide +kernel
theorem dL_810 {nm : String} : gd (mL_law nm) 810 (.iconst 1) 1 811 := ⟨eL_810, rfl⟩
theorem eL_811 : decode cL_law 811 = .ok (.iadd, 1) := by decide +kernel
theorem dL_811 {nm : String} : gd (mL_law nm) 811 (.iadd) 1 812 := ⟨eL_811, rfl⟩
theorem eL_812 : decode cL_law 812 = .ok (.iaload, 1) := by decide +kernel
theorem dL_812 {nm : String} : gd (mL_law nm) 812 (.iaload) 1 813 := ⟨eL_812, rfl⟩
theorem eL_813 : decode cL_law 813 = .ok (.invokevirtual 107, 3) := by decide +kernel
theorem dL_813 {nm : String} : gd (mL_law nm) 813 (.invokevirtual 107) 3 816 := ⟨eL_813, rfl⟩
theorem eL_816 : decode cL_law 816 = .ok (.if_icmp .eq 840, 3) := by decide +kernel
theorem dL_816 {nm : String} : gj (mL_law nm) 816 (.if_icmp .eq 840) (840) 819 1656 := ⟨eL_816, rfl, by decide⟩
theorem eL_819 : decode cL_law 819 = .ok (.iconst 0, 1) := by decide +kernel
theorem dL_819 {nm : String} : gd (mL_law nm) 819 (.iconst 0) 1 820 := ⟨eL_819, rfl⟩
theorem eL_820 : decode cL_law 820 = .ok (.ireturn, 1) := by decide +kernel
theorem eL_821 : decode cL_law 821 = .ok (.aload_n 1, 1) := by decide +kernel
theorem dL_821 {nm : String} : gd (mL_law nm) 821 (.aload_n 1) 1 822 := ⟨eL_821, rfl⟩
theorem eL_822 : decode cL_law 822 = .ok (.aload_n 0, 1) := by decide +kernel
theorem dL_822 {nm : String} : gd (mL_law nm) 822 (.aload_n 0) 1 823 := ⟨eL_822, rfl⟩
theorem eL_823 : decode cL_law 823 = .ok (.iload 4, 2) := by decide +kernel
theorem dL_823 {nm : String} : gd (mL_law nm) 823 (.iload 4) 2 825 := ⟨eL_823, rfl⟩
theorem eL_825 : decode cL_law 825 = .ok (.iconst 1, 1) := by decide +kernel
theorem dL_825 {nm : String} : gd (mL_law nm) 825 (.iconst 1) 1 826 := ⟨eL_825, rfl⟩
theorem eL_826 : decode cL_law 826 = .ok (.iadd, 1) := by decide +kernel
theorem dL_826 {nm : String} : gd (mL_law nm) 826 (.iadd) 1 827 := ⟨eL_826, rfl⟩
theorem eL_827 : decode cL_law 827 = .ok (.iaload, 1) := by decide +kernel
theorem dL_827 {nm : String} : gd (mL_law nm) 827 (.iaload) 1 828 := ⟨eL_827, rfl⟩
theorem eL_828 : decode cL_law 828 = .ok (.invokevirtual 108, 3) := by decide +kernel
theorem dL_828 {nm : String} : gd (mL_law nm) 828 (.invokevirtual 108) 3 831 := ⟨eL_828, rfl⟩
theorem eL_831 : decode cL_law 831 = .ok (.aload_n 2, 1) := by decide +kernel
theorem dL_831 {nm : String} : gd (mL_law nm) 831 (.aload_n 2) 1 832 := ⟨eL_831, rfl⟩
theorem eL_832 : decode cL_law 832 = .ok (.aload_n 0, 1) := by decide +kernel
theorem dL_832 {nm : String} : gd (mL_law nm) 832 (.aload_n 0) 1 833 := ⟨eL_832, rfl⟩
theorem eL_833 : decode cL_law 833 = .ok (.iload 4, 2) := by decide +kernel
theorem dL_833 {nm : String} : gd (mL_law nm) 833 (.iload 4) 2 835 := ⟨eL_833, rfl⟩
theorem eL_835 : decode cL_law 835 = .ok (.iconst 1, 1) := by decide +kernel
theorem dL_835 {nm : String} : gd (mL_law nm) 835 (.iconst 1) 1 836 := ⟨eL_835, rfl⟩
theorem eL_836 : decode cL_law 836 = .ok (.iadd, 1) := by decide +kernel
theorem dL_836 {nm : String} : gd (mL_law nm) 836 (.iadd) 1 837 := ⟨eL_836, rfl⟩
theorem eL_837 : decode cL_law 837 = .ok (.iaload, 1) := by decide +kernel
theorem dL_837 {nm : String} : gd (mL_law nm) 837 (.iaload) 1 838 := ⟨eL_837, rfl⟩
theorem eL_838 : decode cL_law 838 = .ok (.invokevirtual 111, 3) := by decide +kernel
theorem dL_838 {nm : String} : gd (mL_law nm) 838 (.invokevirtual 111) 3 841 := ⟨eL_838, rfl⟩
theorem eL_841 : decode cL_law 841 = .ok (.if_icmp .eq 815, 3) := by decide +kernel
theorem dL_841 {nm : String} : gj (mL_law nm) 841 (.if_icmp .eq 815) (815) 844 1656 := ⟨eL_841, rfl, by decide⟩
theorem eL_844 : decode cL_law 844 = .ok (.iconst 0, 1) := by decide +kernel
theorem dL_844 {nm : String} : gd (mL_law nm) 844 (.iconst 0) 1 845 := ⟨eL_844, rfl⟩
theorem eL_845 : decode cL_law 845 = .ok (.ireturn, 1) := by decide +kernel
theorem eL_846 : decode cL_law 846 = .ok (.aload_n 1, 1) := by decide +kernel
theorem dL_846 {nm : String} : gd (mL_law nm) 846 (.aload_n 1) 1 847 := ⟨eL_846, rfl⟩
theorem eL_847 : decode cL_law 847 = .ok (.aload_n 0, 1) := by decide +kernel
theorem dL_847 {nm : String} : gd (mL_law nm) 847 (.aload_n 0) 1 848 := ⟨eL_847, rfl⟩
theorem eL_848 : decode cL_law 848 = .ok (.iload 4, 2) := by decide +kernel
theorem dL_848 {nm : String} : gd (mL_law nm) 848 (.iload 4) 2 850 := ⟨eL_848, rfl⟩
theorem eL_850 : decode cL_law 850 = .ok (.iconst 1, 1) := by decide +kernel
theorem dL_850 {nm : String} : gd (mL_law nm) 850 (.iconst 1) 1 851 := ⟨eL_850, rfl⟩
theorem eL_851 : decode cL_law 851 = .ok (.iadd, 1) := by decide +kernel
theorem dL_851 {nm : String} : gd (mL_law nm) 851 (.iadd) 1 852 := ⟨eL_851, rfl⟩
theorem eL_852 : decode cL_law 852 = .ok (.iaload, 1) := by decide +kernel
theorem dL_852 {nm : String} : gd (mL_law nm) 852 (.iaload) 1 853 := ⟨eL_852, rfl⟩
theorem eL_853 : decode cL_law 853 = .ok (.invokevirtual 112, 3) := by decide +kernel
theorem dL_853 {nm : String} : gd (mL_law nm) 853 (.invokevirtual 112) 3 856 := ⟨eL_853, rfl⟩
theorem eL_856 : decode cL_law 856 = .ok (.aload_n 2, 1) := by decide +kernel
theorem dL_856 {nm : String} : gd (mL_law nm) 856 (.aload_n 2) 1 857 := ⟨eL_856, rfl⟩
theorem eL_857 : decode cL_law 857 = .ok (.aload_n 0, 1) := by decide +kernel
theorem dL_857 {nm : String} : gd (mL_law nm) 857 (.aload_n 0) 1 858 := ⟨eL_857, rfl⟩
theorem eL_858 : decode cL_law 858 = .ok (.iload 4, 2) := by decide +kernel
theorem dL_858 {nm : String} : gd (mL_law nm) 858 (.iload 4) 2 860 := ⟨eL_858, rfl⟩
theorem eL_860 : decode cL_law 860 = .ok (.iconst 1, 1) := by decide +kernel
theorem dL_860 {nm : String} : gd (mL_law nm) 860 (.iconst 1) 1 861 := ⟨eL_860, rfl⟩
theorem eL_861 : decode cL_law 861 = .ok (.iadd, 1) := by decide +kernel
theorem dL_861 {nm : String} : gd (mL_law nm) 861 (.iadd) 1 862 := ⟨eL_861, rfl⟩
theorem eL_862 : decode cL_law 862 = .ok (.iaload, 1) := by decide +kernel
theorem dL_862 {nm : String} : gd (mL_law nm) 862 (.iaload) 1 863 := ⟨eL_862, rfl⟩
theorem eL_863 : decode cL_law 863 = .ok (.invokevirtual 115, 3) := by decide +kernel
theorem dL_863 {nm : String} : gd (mL_law nm) 863 (.invokevirtual 115) 3 866 := ⟨eL_863, rfl⟩
theorem eL_866 : decode cL_law 866 = .ok (.if_icmp .eq 790, 3) := by decide +kernel
theorem dL_866 {nm : String} : gj (mL_law nm) 866 (.if_icmp .eq 790) (790) 869 1656 := ⟨eL_866, rfl, by decide⟩
theorem eL_869 : decode cL_law 869 = .ok (.iconst 0, 1) := by decide +kernel
theorem dL_869 {nm : String} : gd (mL_law nm) 869 (.iconst 0) 1 870 := ⟨eL_869, rfl⟩
theorem eL_870 : decode cL_law 870 = .ok (.ireturn, 1) := by decide +kernel
theorem eL_871 : decode cL_law 871 = .ok (.aload_n 1, 1) := by decide +kernel
theorem dL_871 {nm : String} : gd (mL_law nm) 871 (.aload_n 1) 1 872 := ⟨eL_871, rfl⟩
theorem eL_872 : decode cL_law 872 = .ok (.aload_n 0, 1) := by decide +kernel
theorem dL_872 {nm : String} : gd (mL_law nm) 872 (.aload_n 0) 1 873 := ⟨eL_872, rfl⟩
theorem eL_873 : decode cL_law 873 = .ok (.iload 4, 2) := by decide +kernel
theorem dL_873 {nm : String} : gd (mL_law nm) 873 (.iload 4) 2 875 := ⟨eL_873, rfl⟩
theorem eL_875 : decode cL_law 875 = .ok (.iconst 1, 1) := by decide +kernel
theorem dL_875 {nm : String} : gd (mL_law nm) 875 (.iconst 1) 1 876 := ⟨eL_875, rfl⟩
theorem eL_876 : decode cL_law 876 = .ok (.iadd, 1) := by decide +kernel
theorem dL_876 {nm : String} : gd (mL_law nm) 876 (.iadd) 1 877 := ⟨eL_876, rfl⟩
theorem eL_877 : decode cL_law 877 = .ok (.iaload, 1) := by decide +kernel
theorem dL_877 {nm : String} : gd (mL_law nm) 877 (.iaload) 1 878 := ⟨eL_877, rfl⟩
theorem eL_878 : decode cL_law 878 = .ok (.invokevirtual 116, 3) := by decide +kernel
theorem dL_878 {nm : String} : gd (mL_law nm) 878 (.invokevirtual 116) 3 881 := ⟨eL_878, rfl⟩
theorem eL_881 : decode cL_law 881 = .ok (.aload_n 2, 1) := by decide +kernel
theorem dL_881 {nm : String} : gd (mL_law nm) 881 (.aload_n 2) 1 882 := ⟨eL_881, rfl⟩
theorem eL_882 : decode cL_law 882 = .ok (.aload_n 0, 1) := by decide +kernel
theorem dL_882 {nm : String} : gd (mL_law nm) 882 (.aload_n 0) 1 883 := ⟨eL_882, rfl⟩
theorem eL_883 : decode cL_law 883 = .ok (.iload 4, 2) := by decide +kernel
theorem dL_883 {nm : String} : gd (mL_law nm) 883 (.iload 4) 2 885 := ⟨eL_883, rfl⟩
theorem eL_885 : decode cL_law 885 = .ok (.iconst 1, 1) := by decide +kernel
theorem dL_885 {nm : String} : gd (mL_law nm) 885 (.iconst 1) 1 886 := ⟨eL_885, rfl⟩
theorem eL_886 : decode cL_law 886 = .ok (.iadd, 1) := by decide +kernel
theorem dL_886 {nm : String} : gd (mL_law nm) 886 (.iadd) 1 887 := ⟨eL_886, rfl⟩
theorem eL_887 : decode cL_law 887 = .ok (.iaload, 1) := by decide +kernel
theorem dL_887 {nm : String} : gd (mL_law nm) 887 (.iaload) 1 888 := ⟨eL_887, rfl⟩
theorem eL_888 : decode cL_law 888 = .ok (.invokevirtual 119, 3) := by decide +kernel
theorem dL_888 {nm : String} : gd (mL_law nm) 888 (.invokevirtual 119) 3 891 := ⟨eL_888, rfl⟩
theorem eL_891 : decode cL_law 891 = .ok (.if_icmp .eq 765, 3) := by decide +kernel
theorem dL_891 {nm : String} : gj (mL_law nm) 891 (.if_icmp .eq 765) (765) 894 1656 := ⟨eL_891, rfl, by decide⟩
theorem eL_894 : decode cL_law 894 = .ok (.iconst 0, 1) := by decide +kernel
theorem dL_894 {nm : String} : gd (mL_law nm) 894 (.iconst 0) 1 895 := ⟨eL_894, rfl⟩
theorem eL_895 : decode cL_law 895 = .ok (.ireturn, 1) := by decide +kernel
theorem eL_896 : decode cL_law 896 = .ok (.aload_n 1, 1) := by decide +kernel
theorem dL_896 {nm : String} : gd (mL_law nm) 896 (.aload_n 1) 1 897 := ⟨eL_896, rfl⟩
theorem eL_897 : decode cL_law 897 = .ok (.aload_n 0, 1) := by decide +kernel
theorem dL_897 {nm : String} : gd (mL_law nm) 897 (.aload_n 0) 1 898 := ⟨eL_897, rfl⟩
theorem eL_898 : decode cL_law 898 = .ok (.iload 4, 2) := by decide +kernel
theorem dL_898 {nm : String} : gd (mL_law nm) 898 (.iload 4) 2 900 := ⟨eL_898, rfl⟩
theorem eL_900 : decode cL_law 900 = .ok (.iconst 1, 1) := by decide +kernel
theorem dL_900 {nm : String} : gd (mL_law nm) 900 (.iconst 1) 1 901 := ⟨eL_900, rfl⟩
theorem eL_901 : decode cL_law 901 = .ok (.iadd, 1) := by decide +kernel
theorem dL_901 {nm : String} : gd (mL_law nm) 901 (.iadd) 1 902 := ⟨eL_901, rfl⟩
theorem eL_902 : decode cL_law 902 = .ok (.iaload, 1) := by decide +kernel
theorem dL_902 {nm : String} : gd (mL_law nm) 902 (.iaload) 1 903 := ⟨eL_902, rfl⟩
theorem eL_903 : decode cL_law 903 = .ok (.invokevirtual 120, 3) := by decide +kernel
theorem dL_903 {nm : String} : gd (mL_law nm) 903 (.invokevirtual 120) 3 906 := ⟨eL_903, rfl⟩
theorem eL_906 : decode cL_law 906 = .ok (.aload_n 2, 1) := by decide +kernel
theorem dL_906 {nm : String} : gd (mL_law nm) 906 (.aload_n 2) 1 907 := ⟨eL_906, rfl⟩
theorem eL_907 : decode cL_law 907 = .ok (.aload_n 0, 1) := by decide +kernel
theorem dL_907 {nm : String} : gd (mL_law nm) 907 (.aload_n 0) 1 908 := ⟨eL_907, rfl⟩
theorem eL_908 : decode cL_law 908 = .ok (.iload 4, 2) := by decide +kernel
theorem dL_908 {nm : String} : gd (mL_law nm) 908 (.iload 4) 2 910 := ⟨eL_908, rfl⟩
theorem eL_910 : decode cL_law 910 = .ok (.iconst 1, 1) := by decide +kernel
theorem dL_910 {nm : String} : gd (mL_law nm) 910 (.iconst 1) 1 911 := ⟨eL_910, rfl⟩
theorem eL_911 : decode cL_law 911 = .ok (.iadd, 1) := by decide +kernel
theorem dL_911 {nm : String} : gd (mL_law nm) 911 (.iadd) 1 912 := ⟨eL_911, rfl⟩
theorem eL_912 : decode cL_law 912 = .ok (.iaload, 1) := by decide +kernel
theorem dL_912 {nm : String} : gd (mL_law nm) 912 (.iaload) 1 913 := ⟨eL_912, rfl⟩
theorem eL_913 : decode cL_law 913 = .ok (.invokevirtual 123, 3) := by decide +kernel
theorem dL_913 {nm : String} : gd (mL_law nm) 913 (.invokevirtual 123) 3 916 := ⟨eL_913, rfl⟩
theorem eL_916 : decode cL_law 916 = .ok (.if_icmp .eq 740, 3) := by decide +kernel
theorem dL_916 {nm : String} : gj (mL_law nm) 916 (.if_icmp .eq 740) (740) 919 1656 := ⟨eL_916, rfl, by decide⟩
theorem eL_919 : decode cL_law 919 = .ok (.iconst 0, 1) := by decide +kernel
theorem dL_919 {nm : String} : gd (mL_law nm) 919 (.iconst 0) 1 920 := ⟨eL_919, rfl⟩
theorem eL_920 : decode cL_law 920 = .ok (.ireturn, 1) := by decide +kernel
theorem eL_921 : decode cL_law 921 = .ok (.aload_n 1, 1) := by decide +kernel
theorem dL_921 {nm : String} : gd (mL_law nm) 921 (.aload_n 1) 1 922 := ⟨eL_921, rfl⟩
theorem eL_922 : decode cL_law 922 = .ok (.aload_n 0, 1) := by decide +kernel
theorem dL_922 {nm : String} : gd (mL_law nm) 922 (.aload_n 0) 1 923 := ⟨eL_922, rfl⟩
theorem eL_923 : decode cL_law 923 = .ok (.iload 4, 2) := by decide +kernel
theorem dL_923 {nm : String} : gd (mL_law nm) 923 (.iload 4) 2 925 := ⟨eL_923, rfl⟩
theorem eL_925 : decode cL_law 925 = .ok (.iconst 1, 1) := by decide +kernel
theorem dL_925 {nm : String} : gd (mL_law nm) 925 (.iconst 1) 1 926 := ⟨eL_925, rfl⟩
theorem eL_926 : decode cL_law 926 = .ok (.iadd, 1) := by decide +kernel
theorem dL_926 {nm : String} : gd (mL_law nm) 926 (.iadd) 1 927 := ⟨eL_926, rfl⟩
theorem eL_927 : decode cL_law 927 = .ok (.iaload, 1) := by decide +kernel
theorem dL_927 {nm : String} : gd (mL_law nm) 927 (.iaload) 1 928 := ⟨eL_927, rfl⟩
theorem eL_928 : decode cL_law 928 = .ok (.invokevirtual 124, 3) := by decide +kernel
theorem dL_928 {nm : String} : gd (mL_law nm) 928 (.invokevirtual 124) 3 931 := ⟨eL_928, rfl⟩
theorem eL_931 : decode cL_law 931 = .ok (.aload_n 2, 1) := by decide +kernel
theorem dL_931 {nm : String} : gd (mL_law nm) 931 (.aload_n 2) 1 932 := ⟨eL_931, rfl⟩
theorem eL_932 : decode cL_law 932 = .ok (.aload_n 0, 1) := by decide +kernel
theorem dL_932 {nm : String} : gd (mL_law nm) 932 (.aload_n 0) 1 933 := ⟨eL_932, rfl⟩
theorem eL_933 : decode cL_law 933 = .ok (.iload 4, 2) := by decide +kernel
theorem dL_933 {nm : String} : gd (mL_law nm) 933 (.iload 4) 2 935 := ⟨eL_933, rfl⟩
theorem eL_935 : decode cL_law 935 = .ok (.iconst 1, 1) := by decide +kernel
theorem dL_935 {nm : String} : gd (mL_law nm) 935 (.iconst 1) 1 936 := ⟨eL_935, rfl⟩
theorem eL_936 : decode cL_law 936 = .ok (.iadd, 1) := by decide +kernel
theorem dL_936 {nm : String} : gd (mL_law nm) 936 (.iadd) 1 937 := ⟨eL_936, rfl⟩
theorem eL_937 : decode cL_law 937 = .ok (.iaload, 1) := by decide +kernel
theorem dL_937 {nm : String} : gd (mL_law nm) 937 (.iaload) 1 938 := ⟨eL_937, rfl⟩
theorem eL_938 : decode cL_law 938 = .ok (.invokevirtual 127, 3) := by decide +kernel
theorem dL_938 {nm : String} : gd (mL_law nm) 938 (.invokevirtual 127) 3 941 := ⟨eL_938, rfl⟩
theorem eL_941 : decode cL_law 941 = .ok (.if_icmp .eq 715, 3) := by decide +kernel
theorem dL_941 {nm : String} : gj (mL_law nm) 941 (.if_icmp .eq 715) (715) 944 1656 := ⟨eL_941, rfl, by decide⟩
theorem eL_944 : decode cL_law 944 = .ok (.iconst 0, 1) := by decide +kernel
theorem dL_944 {nm : String} : gd (mL_law nm) 944 (.iconst 0) 1 945 := ⟨eL_944, rfl⟩
theorem eL_945 : decode cL_law 945 = .ok (.ireturn, 1) := by decide +kernel
theorem eL_946 : decode cL_law 946 = .ok (.aload_n 1, 1) := by decide +kernel
theorem dL_946 {nm : String} : gd (mL_law nm) 946 (.aload_n 1) 1 947 := ⟨eL_946, rfl⟩
theorem eL_947 : decode cL_law 947 = .ok (.aload_n 0, 1) := by decide +kernel
theorem dL_947 {nm : String} : gd (mL_law nm) 947 (.aload_n 0) 1 948 := ⟨eL_947, rfl⟩
theorem eL_948 : decode cL_law 948 = .ok (.iload 4, 2) := by decide +kernel
theorem dL_948 {nm : String} : gd (mL_law nm) 948 (.iload 4) 2 950 := ⟨eL_948, rfl⟩
theorem eL_950 : decode cL_law 950 = .ok (.iconst 1, 1) := by decide +kernel
theorem dL_950 {nm : String} : gd (mL_law nm) 950 (.iconst 1) 1 951 := ⟨eL_950, rfl⟩
theorem eL_951 : decode cL_law 951 = .ok (.iadd, 1) := by decide +kernel
theorem dL_951 {nm : String} : gd (mL_law nm) 951 (.iadd) 1 952 := ⟨eL_951, rfl⟩
theorem eL_952 : decode cL_law 952 = .ok (.iaload, 1) := by decide +kernel
theorem dL_952 {nm : String} : gd (mL_law nm) 952 (.iaload) 1 953 := ⟨eL_952, rfl⟩
theorem eL_953 : decode cL_law 953 = .ok (.aload_n 0, 1) := by decide +kernel
theorem dL_953 {nm : String} : gd (mL_law nm) 953 (.aload_n 0) 1 954 := ⟨eL_953, rfl⟩
theorem eL_954 : decode cL_law 954 = .ok (.iload 4, 2) := by decide +kernel
theorem dL_954 {nm : String} : gd (mL_law nm) 954 (.iload 4) 2 956 := ⟨eL_954, rfl⟩
theorem eL_956 : decode cL_law 956 = .ok (.iconst 2, 1) := by decide +kernel
theorem dL_956 {nm : String} : gd (mL_law nm) 956 (.iconst 2) 1 957 := ⟨eL_956, rfl⟩
theorem eL_957 : decode cL_law 957 = .ok (.iadd, 1) := by decide +kernel
theorem dL_957 {nm : String} : gd (mL_law nm) 957 (.iadd) 1 958 := ⟨eL_957, rfl⟩
theorem eL_958 : decode cL_law 958 = .ok (.iaload, 1) := by decide +kernel
theorem dL_958 {nm : String} : gd (mL_law nm) 958 (.iaload) 1 959 := ⟨eL_958, rfl⟩
theorem eL_959 : decode cL_law 959 = .ok (.aload_n 0, 1) := by decide +kernel
theorem dL_959 {nm : String} : gd (mL_law nm) 959 (.aload_n 0) 1 960 := ⟨eL_959, rfl⟩
theorem eL_960 : decode cL_law 960 = .ok (.iload 4, 2) := by decide +kernel
theorem dL_960 {nm : String} : gd (mL_law nm) 960 (.iload 4) 2 962 := ⟨eL_960, rfl⟩
theorem eL_962 : decode cL_law 962 = .ok (.iconst 3, 1) := by decide +kernel
theorem dL_962 {nm : String} : gd (mL_law nm) 962 (.iconst 3) 1 963 := ⟨eL_962, rfl⟩
theorem eL_963 : decode cL_law 963 = .ok (.iadd, 1) := by decide +kernel
theorem dL_963 {nm : String} : gd (mL_law nm) 963 (.iadd) 1 964 := ⟨eL_963, rfl⟩
theorem eL_964 : decode cL_law 964 = .ok (.iaload, 1) := by decide +kernel
theorem dL_964 {nm : String} : gd (mL_law nm) 964 (.iaload) 1 965 := ⟨eL_964, rfl⟩
theorem eL_965 : decode cL_law 965 = .ok (.aload_n 0, 1) := by decide +kernel
theorem dL_965 {nm : String} : gd (mL_law nm) 965 (.aload_n 0) 1 966 := ⟨eL_965, rfl⟩
theorem eL_966 : decode cL_law 966 = .ok (.iload 4, 2) := by decide +kernel
theorem dL_966 {nm : String} : gd (mL_law nm) 966 (.iload 4) 2 968 := ⟨eL_966, rfl⟩
theorem eL_968 : decode cL_law 968 = .ok (.iconst 4, 1) := by decide +kernel
theorem dL_968 {nm : String} : gd (mL_law nm) 968 (.iconst 4) 1 969 := ⟨eL_968, rfl⟩
theorem eL_969 : decode cL_law 969 = .ok (.iadd, 1) := by decide +kernel
theorem dL_969 {nm : String} : gd (mL_law nm) 969 (.iadd) 1 970 := ⟨eL_969, rfl⟩
theorem eL_970 : decode cL_law 970 = .ok (.iaload, 1) := by decide +kernel
theorem dL_970 {nm : String} : gd (mL_law nm) 970 (.iaload) 1 971 := ⟨eL_970, rfl⟩
theorem eL_971 : decode cL_law 971 = .ok (.invokevirtual 128, 3) := by decide +kernel
theorem dL_971 {nm : String} : gd (mL_law nm) 971 (.invokevirtual 128) 3 974 := ⟨eL_971, rfl⟩
theorem eL_974 : decode cL_law 974 = .ok (.aload_n 2, 1) := by decide +kernel
theorem dL_974 {nm : String} : gd (mL_law nm) 974 (.aload_n 2) 1 975 := ⟨eL_974, rfl⟩
theorem eL_975 : decode cL_law 975 = .ok (.aload_n 0, 1) := by decide +kernel
theorem dL_975 {nm : String} : gd (mL_law nm) 975 (.aload_n 0) 1 976 := ⟨eL_975, rfl⟩
theorem eL_976 : decode cL_law 976 = .ok (.iload 4, 2) := by decide +kernel
theorem dL_976 {nm : String} : gd (mL_law nm) 976 (.iload 4) 2 978 := ⟨eL_976, rfl⟩
theorem eL_978 : decode cL_law 978 = .ok (.iconst 1, 1) := by decide +kernel
theorem dL_978 {nm : String} : gd (mL_law nm) 978 (.iconst 1) 1 979 := ⟨eL_978, rfl⟩
theorem eL_979 : decode cL_law 979 = .ok (.iadd, 1) := by decide +kernel
theorem dL_979 {nm : String} : gd (mL_law nm) 979 (.iadd) 1 980 := ⟨eL_979, rfl⟩
theorem eL_980 : decode cL_law 980 = .ok (.iaload, 1) := by decide +kernel
theorem dL_980 {nm : String} : gd (mL_law nm) 980 (.iaload) 1 981 := ⟨eL_980, rfl⟩
theorem eL_981 : decode cL_law 981 = .ok (.aload_n 0, 1) := by decide +kernel
theorem dL_981 {nm : String} : gd (mL_law nm) 981 (.aload_n 0) 1 982 := ⟨eL_981, rfl⟩
theorem eL_982 : decode cL_law 982 = .ok (.iload 4, 2) := by decide +kernel
theorem dL_982 {nm : String} : gd (mL_law nm) 982 (.iload 4) 2 984 := ⟨eL_982, rfl⟩
theorem eL_984 : decode cL_law 984 = .ok (.iconst 2, 1) := by decide +kernel
theorem dL_984 {nm : String} : gd (mL_law nm) 984 (.iconst 2) 1 985 := ⟨eL_984, rfl⟩
theorem eL_985 : decode cL_law 985 = .ok (.iadd, 1) := by decide +kernel
theorem dL_985 {nm : String} : gd (mL_law nm) 985 (.iadd) 1 986 := ⟨eL_985, rfl⟩
theorem eL_986 : decode cL_law 986 = .ok (.iaload, 1) := by decide +kernel
theorem dL_986 {nm : String} : gd (mL_law nm) 986 (.iaload) 1 987 := ⟨eL_986, rfl⟩
theorem eL_987 : decode cL_law 987 = .ok (.aload_n 0, 1) := by decide +kernel
theorem dL_987 {nm : String} : gd (mL_law nm) 987 (.aload_n 0) 1 988 := ⟨eL_987, rfl⟩
theorem eL_988 : decode cL_law 988 = .ok (.iload 4, 2) := by decide +kernel
theorem dL_988 {nm : String} : gd (mL_law nm) 988 (.iload 4) 2 990 := ⟨eL_988, rfl⟩
theorem eL_990 : decode cL_law 990 = .ok (.iconst 3, 1) := by decide +kernel
theorem dL_990 {nm : String} : gd (mL_law nm) 990 (.iconst 3) 1 991 := ⟨eL_990, rfl⟩
theorem eL_991 : decode cL_law 991 = .ok (.iadd, 1) := by decide +kernel
theorem dL_991 {nm : String} : gd (mL_law nm) 991 (.iadd) 1 992 := ⟨eL_991, rfl⟩
theorem eL_992 : decode cL_law 992 = .ok (.iaload, 1) := by decide +kernel
theorem dL_992 {nm : String} : gd (mL_law nm) 992 (.iaload) 1 993 := ⟨eL_992, rfl⟩
theorem eL_993 : decode cL_law 993 = .ok (.aload_n 0, 1) := by decide +kernel
theorem dL_993 {nm : String} : gd (mL_law nm) 993 (.aload_n 0) 1 994 := ⟨eL_993, rfl⟩
theorem eL_994 : decode cL_law 994 = .ok (.iload 4, 2) := by decide +kernel
theorem dL_994 {nm : String} : gd (mL_law nm) 994 (.iload 4) 2 996 := ⟨eL_994, rfl⟩
theorem eL_996 : decode cL_law 996 = .ok (.iconst 4, 1) := by decide +kernel
theorem dL_996 {nm : String} : gd (mL_law nm) 996 (.iconst 4) 1 997 := ⟨eL_996, rfl⟩
theorem eL_997 : decode cL_law 997 = .ok (.iadd, 1) := by decide +kernel
theorem dL_997 {nm : String} : gd (mL_law nm) 997 (.iadd) 1 998 := ⟨eL_997, rfl⟩
theorem eL_998 : decode cL_law 998 = .ok (.iaload, 1) := by decide +kernel
theorem dL_998 {nm : String} : gd (mL_law nm) 998 (.iaload) 1 999 := ⟨eL_998, rfl⟩
theorem eL_999 : decode cL_law 999 = .ok (.invokevirtual 132, 3) := by decide +kernel
theorem dL_999 {nm : String} : gd (mL_law nm) 999 (.invokevirtual 132) 3 1002 := ⟨eL_999, rfl⟩
theorem eL_1002 : decode cL_law 1002 = .ok (.lcmp, 1) := by decide +kernel
theorem dL_1002 {nm : String} : gd (mL_law nm) 1002 (.lcmp) 1 1003 := ⟨eL_1002, rfl⟩
theorem eL_1003 : decode cL_law 1003 = .ok (.ifCond .eq 653, 3) := by decide +kernel
theorem dL_1003 {nm : String} : gj (mL_law nm) 1003 (.ifCond .eq 653) (653) 1006 1656 := ⟨eL_1003, rfl, by decide⟩
theorem eL_1006 : decode cL_law 1006 = .ok (.iconst 0, 1) := by decide +kernel
theorem dL_1006 {nm : String} : gd (mL_law nm) 1006 (.iconst 0) 1 1007 := ⟨eL_1006, rfl⟩
theorem eL_1007 : decode cL_law 1007 = .ok (.ireturn, 1) := by decide +kernel
theorem eL_1008 : decode cL_law 1008 = .ok (.aload_n 1, 1) := by decide +kernel
theorem dL_1008 {nm : String} : gd (mL_law nm) 1008 (.aload_n 1) 1 1009 := ⟨eL_1008, rfl⟩
theorem eL_1009 : decode cL_law 1009 = .ok (.aload_n 0, 1) := by decide +kernel
theorem dL_1009 {nm : String} : gd (mL_law nm) 1009 (.aload_n 0) 1 1010 := ⟨eL_1009, rfl⟩
theorem eL_1010 : decode cL_law 1010 = .ok (.iload 4, 2) := by decide +kernel
theorem dL_1010 {nm : String} : gd (mL_law nm) 1010 (.iload 4) 2 1012 := ⟨eL_1010, rfl⟩
theorem eL_1012 : decode cL_law 1012 = .ok (.iconst 1, 1) := by decide +kernel
theorem dL_1012 {nm : String} : gd (mL_law nm) 1012 (.iconst 1) 1 1013 := ⟨eL_1012, rfl⟩
theorem eL_1013 : decode cL_law 1013 = .ok (.iadd, 1) := by decide +kernel
theorem dL_1013 {nm : String} : gd (mL_law nm) 1013 (.iadd) 1 1014 := ⟨eL_1013, rfl⟩
theorem eL_1014 : decode cL_law 1014 = .ok (.iaload, 1) := by decide +kernel
theorem dL_1014 {nm : String} : gd (mL_law nm) 1014 (.iaload) 1 1015 := ⟨eL_1014, rfl⟩
theorem eL_1015 : decode cL_law 1015 = .ok (.aload_n 0, 1) := by decide +kernel
theorem dL_1015 {nm : String} : gd (mL_law nm) 1015 (.aload_n 0) 1 1016 := ⟨eL_1015, rfl⟩
theorem eL_1016 : decode cL_law 1016 = .ok (.iload 4, 2) := by decide +kernel
theorem dL_1016 {nm : String} : gd (mL_law nm) 1016 (.iload 4) 2 1018 := ⟨eL_1016, rfl⟩
theorem eL_1018 : decode cL_law 1018 = .ok (.iconst 2, 1) := by decide +kernel
theorem dL_1018 {nm : String} : gd (mL_law nm) 1018 (.iconst 2) 1 1019 := ⟨eL_1018, rfl⟩
theorem eL_1019 : decode cL_law 1019 = .ok (.iadd, 1) := by decide +kernel
theorem dL_1019 {nm : String} : gd (mL_law nm) 1019 (.iadd) 1 1020 := ⟨eL_1019, rfl⟩
theorem eL_1020 : decode cL_law 1020 = .ok (.iaload, 1) := by decide +kernel
theorem dL_1020 {nm : String} : gd (mL_law nm) 1020 (.iaload) 1 1021 := ⟨eL_1020, rfl⟩
theorem eL_1021 : decode cL_law 1021 = .ok (.aload_n 0, 1) := by decide +kernel
theorem dL_1021 {nm : String} : gd (mL_law nm) 1021 (.aload_n 0) 1 1022 := ⟨eL_1021, rfl⟩
theorem eL_1022 : decode cL_law 1022 = .ok (.iload 4, 2) := by decide +kernel
theorem dL_1022 {nm : String} : gd (mL_law nm) 1022 (.iload 4) 2 1024 := ⟨eL_1022, rfl⟩
theorem eL_1024 : decode cL_law 1024 = .ok (.iconst 3, 1) := by decide +kernel
theorem dL_1024 {nm : String} : gd (mL_law nm) 1024 (.iconst 3) 1 1025 := ⟨eL_1024, rfl⟩
theorem eL_1025 : decode cL_law 1025 = .ok (.iadd, 1) := by decide +kernel
theorem dL_1025 {nm : String} : gd (mL_law nm) 1025 (.iadd) 1 1026 := ⟨eL_1025, rfl⟩
theorem eL_1026 : decode cL_law 1026 = .ok (.iaload, 1) := by decide +kernel
theorem dL_1026 {nm : String} : gd (mL_law nm) 1026 (.iaload) 1 1027 := ⟨eL_1026, rfl⟩
theorem eL_1027 : decode cL_law 1027 = .ok (.invokevirtual 133, 3) := by decide +kernel
theorem dL_1027 {nm : String} : gd (mL_law nm) 1027 (.invokevirtual 133) 3 1030 := ⟨eL_1027, rfl⟩
theorem eL_1030 : decode cL_law 1030 = .ok (.aload_n 2, 1) := by decide +kernel
theorem dL_1030 {nm : String} : gd (mL_law nm) 1030 (.aload_n 2) 1 1031 := ⟨eL_1030, rfl⟩
theorem eL_1031 : decode cL_law 1031 = .ok (.aload_n 0, 1) := by decide +kernel
theorem dL_1031 {nm : String} : gd (mL_law nm) 1031 (.aload_n 0) 1 1032 := ⟨eL_1031, rfl⟩
theorem eL_1032 : decode cL_law 1032 = .ok (.iload 4, 2) := by decide +kernel
theorem dL_1032 {nm : String} : gd (mL_law nm) 1032 (.iload 4) 2 1034 := ⟨eL_1032, rfl⟩
theorem eL_1034 : decode cL_law 1034 = .ok (.iconst 1, 1) := by decide +kernel
theorem dL_1034 {nm : String} : gd (mL_law nm) 1034 (.iconst 1) 1 1035 := ⟨eL_1034, rfl⟩
theorem eL_1035 : decode cL_law 1035 = .ok (.iadd, 1) := by decide +kernel
theorem dL_1035 {nm : String} : gd (mL_law nm) 1035 (.iadd) 1 1036 := ⟨eL_1035, rfl⟩
theorem eL_1036 : decode cL_law 1036 = .ok (.iaload, 1) := by decide +kernel
theorem dL_1036 {nm : String} : gd (mL_law nm) 1036 (.iaload) 1 1037 := ⟨eL_1036, rfl⟩
theorem eL_1037 : decode cL_law 1037 = .ok (.aload_n 0, 1) := by decide +kernel
theorem dL_1037 {nm : String} : gd (mL_law nm) 1037 (.aload_n 0) 1 1038 := ⟨eL_1037, rfl⟩
theorem eL_1038 : decode cL_law 1038 = .ok (.iload 4, 2) := by decide +kernel
theorem dL_1038 {nm : String} : gd (mL_law nm) 1038 (.iload 4) 2 1040 := ⟨eL_1038, rfl⟩
theorem eL_1040 : decode cL_law 1040 = .ok (.iconst 2, 1) := by decide +kernel
theorem dL_1040 {nm : String} : gd (mL_law nm) 1040 (.iconst 2) 1 1041 := ⟨eL_1040, rfl⟩
theorem eL_1041 : decode cL_law 1041 = .ok (.iadd, 1) := by decide +kernel
theorem dL_1041 {nm : String} : gd (mL_law nm) 1041 (.iadd) 1 1042 := ⟨eL_1041, rfl⟩
theorem eL_1042 : decode cL_law 1042 = .ok (.iaload, 1) := by decide +kernel
theorem dL_1042 {nm : String} : gd (mL_law nm) 1042 (.iaload) 1 1043 := ⟨eL_1042, rfl⟩
theorem eL_1043 : decode cL_law 1043 = .ok (.aload_n 0, 1) := by decide +kernel
theorem dL_1043 {nm : String} : gd (mL_law nm) 1043 (.aload_n 0) 1 1044 := ⟨eL_1043, rfl⟩
theorem eL_1044 : decode cL_law 1044 = .ok (.iload 4, 2) := by decide +kernel
theorem dL_1044 {nm : String} : gd (mL_law nm) 1044 (.iload 4) 2 1046 := ⟨eL_1044, rfl⟩
theorem eL_1046 : decode cL_law 1046 = .ok (.iconst 3, 1) := by decide +kernel
theorem dL_1046 {nm : String} : gd (mL_law nm) 1046 (.iconst 3) 1 1047 := ⟨eL_1046, rfl⟩
theorem eL_1047 : decode cL_law 1047 = .ok (.iadd, 1) := by decide +kernel
theorem dL_1047 {nm : String} : gd (mL_law nm) 1047 (.iadd) 1 1048 := ⟨eL_1047, rfl⟩
theorem eL_1048 : decode cL_law 1048 = .ok (.iaload, 1) := by decide +kernel
theorem dL_1048 {nm : String} : gd (mL_law nm) 1048 (.iaload) 1 1049 := ⟨eL_1048, rfl⟩
theorem eL_1049 : decode cL_law 1049 = .ok (.invokevirtual 137, 3) := by decide +kernel
theorem dL_1049 {nm : String} : gd (mL_law nm) 1049 (.invokevirtual 137) 3 1052 := ⟨eL_1049, rfl⟩
theorem eL_1052 : decode cL_law 1052 = .ok (.if_icmp .eq 604, 3) := by decide +kernel
theorem dL_1052 {nm : String} : gj (mL_law nm) 1052 (.if_icmp .eq 604) (604) 1055 1656 := ⟨eL_1052, rfl, by decide⟩
theorem eL_1055 : decode cL_law 1055 = .ok (.iconst 0, 1) := by decide +kernel
theorem dL_1055 {nm : String} : gd (mL_law nm) 1055 (.iconst 0) 1 1056 := ⟨eL_1055, rfl⟩
theorem eL_1056 : decode cL_law 1056 = .ok (.ireturn, 1) := by decide +kernel
theorem eL_1057 : decode cL_law 1057 = .ok (.aload_n 1, 1) := by decide +kernel
theorem dL_1057 {nm : String} : gd (mL_law nm) 1057 (.aload_n 1) 1 1058 := ⟨eL_1057, rfl⟩
theorem eL_1058 : decode cL_law 1058 = .ok (.aload_n 0, 1) := by decide +kernel
theorem dL_1058 {nm : String} : gd (mL_law nm) 1058 (.aload_n 0) 1 1059 := ⟨eL_1058, rfl⟩
theorem eL_1059 : decode cL_law 1059 = .ok (.iload 4, 2) := by decide +kernel
theorem dL_1059 {nm : String} : gd (mL_law nm) 1059 (.iload 4) 2 1061 := ⟨eL_1059, rfl⟩
theorem eL_1061 : decode cL_law 1061 = .ok (.iconst 1, 1) := by decide +kernel
theorem dL_1061 {nm : String} : gd (mL_law nm) 1061 (.iconst 1) 1 1062 := ⟨eL_1061, rfl⟩
theorem eL_1062 : decode cL_law 1062 = .ok (.iadd, 1) := by decide +kernel
theorem dL_1062 {nm : String} : gd (mL_law nm) 1062 (.iadd) 1 1063 := ⟨eL_1062, rfl⟩
theorem eL_1063 : decode cL_law 1063 = .ok (.iaload, 1) := by decide +kernel
theorem dL_1063 {nm : String} : gd (mL_law nm) 1063 (.iaload) 1 1064 := ⟨eL_1063, rfl⟩
theorem eL_1064 : decode cL_law 1064 = .ok (.invokevirtual 138, 3) := by decide +kernel
theorem dL_1064 {nm : String} : gd (mL_law nm) 1064 (.invokevirtual 138) 3 1067 := ⟨eL_1064, rfl⟩
theorem eL_1067 : decode cL_law 1067 = .ok (.aload_n 2, 1) := by decide +kernel
theorem dL_1067 {nm : String} : gd (mL_law nm) 1067 (.aload_n 2) 1 1068 := ⟨eL_1067, rfl⟩
theorem eL_1068 : decode cL_law 1068 = .ok (.aload_n 0, 1) := by decide +kernel
theorem dL_1068 {nm : String} : gd (mL_law nm) 1068 (.aload_n 0) 1 1069 := ⟨eL_1068, rfl⟩
theorem eL_1069 : decode cL_law 1069 = .ok (.iload 4, 2) := by decide +kernel
theorem dL_1069 {nm : String} : gd (mL_law nm) 1069 (.iload 4) 2 1071 := ⟨eL_1069, rfl⟩
theorem eL_1071 : decode cL_law 1071 = .ok (.iconst 1, 1) := by decide +kernel
theorem dL_1071 {nm : String} : gd (mL_law nm) 1071 (.iconst 1) 1 1072 := ⟨eL_1071, rfl⟩
theorem eL_1072 : decode cL_law 1072 = .ok (.iadd, 1) := by decide +kernel
theorem dL_1072 {nm : String} : gd (mL_law nm) 1072 (.iadd) 1 1073 := ⟨eL_1072, rfl⟩
theorem eL_1073 : decode cL_law 1073 = .ok (.iaload, 1) := by decide +kernel
theorem dL_1073 {nm : String} : gd (mL_law nm) 1073 (.iaload) 1 1074 := ⟨eL_1073, rfl⟩
theorem eL_1074 : decode cL_law 1074 = .ok (.invokevirtual 141, 3) := by decide +kernel
theorem dL_1074 {nm : String} : gd (mL_law nm) 1074 (.invokevirtual 141) 3 1077 := ⟨eL_1074, rfl⟩
theorem eL_1077 : decode cL_law 1077 = .ok (.if_icmp .eq 579, 3) := by decide +kernel
theorem dL_1077 {nm : String} : gj (mL_law nm) 1077 (.if_icmp .eq 579) (579) 1080 1656 := ⟨eL_1077, rfl, by decide⟩
theorem eL_1080 : decode cL_law 1080 = .ok (.iconst 0, 1) := by decide +kernel
theorem dL_1080 {nm : String} : gd (mL_law nm) 1080 (.iconst 0) 1 1081 := ⟨eL_1080, rfl⟩
theorem eL_1081 : decode cL_law 1081 = .ok (.ireturn, 1) := by decide +kernel
theorem eL_1082 : decode cL_law 1082 = .ok (.aload_n 1, 1) := by decide +kernel
theorem dL_1082 {nm : String} : gd (mL_law nm) 1082 (.aload_n 1) 1 1083 := ⟨eL_1082, rfl⟩
theorem eL_1083 : decode cL_law 1083 = .ok (.aload_n 0, 1) := by decide +kernel
theorem dL_1083 {nm : String} : gd (mL_law nm) 1083 (.aload_n 0) 1 1084 := ⟨eL_1083, rfl⟩
theorem eL_1084 : decode cL_law 1084 = .ok (.iload 4, 2) := by decide +kernel
theorem dL_1084 {nm : String} : gd (mL_law nm) 1084 (.iload 4) 2 1086 := ⟨eL_1084, rfl⟩
theorem eL_1086 : decode cL_law 1086 = .ok (.iconst 1, 1) := by decide +kernel
theorem dL_1086 {nm : String} : gd (mL_law nm) 1086 (.iconst 1) 1 1087 := ⟨eL_1086, rfl⟩
theorem eL_1087 : decode cL_law 1087 = .ok (.iadd, 1) := by decide +kernel
theorem dL_1087 {nm : String} : gd (mL_law nm) 1087 (.iadd) 1 1088 := ⟨eL_1087, rfl⟩
theorem eL_1088 : decode cL_law 1088 = .ok (.iaload, 1) := by decide +kernel
theorem dL_1088 {nm : String} : gd (mL_law nm) 1088 (.iaload) 1 1089 := ⟨eL_1088, rfl⟩
theorem eL_1089 : decode cL_law 1089 = .ok (.invokevirtual 142, 3) := by decide +kernel
theorem dL_1089 {nm : String} : gd (mL_law nm) 1089 (.invokevirtual 142) 3 1092 := ⟨eL_1089, rfl⟩
theorem eL_1092 : decode cL_law 1092 = .ok (.aload_n 2, 1) := by decide +kernel
theorem dL_1092 {nm : String} : gd (mL_law nm) 1092 (.aload_n 2) 1 1093 := ⟨eL_1092, rfl⟩
theorem eL_1093 : decode cL_law 1093 = .ok (.aload_n 0, 1) := by decide +kernel
theorem dL_1093 {nm : String} : gd (mL_law nm) 1093 (.aload_n 0) 1 1094 := ⟨eL_1093, rfl⟩
theorem eL_1094 : decode cL_law 1094 = .ok (.iload 4, 2) := by decide +kernel
theorem dL_1094 {nm : String} : gd (mL_law nm) 1094 (.iload 4) 2 1096 := ⟨eL_1094, rfl⟩
theorem eL_1096 : decode cL_law 1096 = .ok (.iconst 1, 1) := by decide +kernel
theorem dL_1096 {nm : String} : gd (mL_law nm) 1096 (.iconst 1) 1 1097 := ⟨eL_1096, rfl⟩
theorem eL_1097 : decode cL_law 1097 = .ok (.iadd, 1) := by decide +kernel
theorem dL_1097 {nm : String} : gd (mL_law nm) 1097 (.iadd) 1 1098 := ⟨eL_1097, rfl⟩
theorem eL_1098 : decode cL_law 1098 = .ok (.iaload, 1) := by decide +kernel
theorem dL_1098 {nm : String} : gd (mL_law nm) 1098 (.iaload) 1 1099 := ⟨eL_1098, rfl⟩
theorem eL_1099 : decode cL_law 1099 = .ok (.invokevirtual 145, 3) := by decide +kernel
theorem dL_1099 {nm : String} : gd (mL_law nm) 1099 (.invokevirtual 145) 3 1102 := ⟨eL_1099, rfl⟩
theorem eL_1102 : decode cL_law 1102 = .ok (.if_icmp .eq 554, 3) := by decide +kernel
theorem dL_1102 {nm : String} : gj (mL_law nm) 1102 (.if_icmp .eq 554) (554) 1105 1656 := ⟨eL_1102, rfl, by decide⟩
theorem eL_1105 : decode cL_law 1105 = .ok (.iconst 0, 1) := by decide +kernel
theorem dL_1105 {nm : String} : gd (mL_law nm) 1105 (.iconst 0) 1 1106 := ⟨eL_1105, rfl⟩
theorem eL_1106 : decode cL_law 1106 = .ok (.ireturn, 1) := by decide +kernel
theorem eL_1107 : decode cL_law 1107 = .ok (.aload_n 1, 1) := by decide +kernel
theorem dL_1107 {nm : String} : gd (mL_law nm) 1107 (.aload_n 1) 1 1108 := ⟨eL_1107, rfl⟩
theorem eL_1108 : decode cL_law 1108 = .ok (.aload_n 0, 1) := by decide +kernel
theorem dL_1108 {nm : String} : gd (mL_law nm) 1108 (.aload_n 0) 1 1109 := ⟨eL_1108, rfl⟩
theorem eL_1109 : decode cL_law 1109 = .ok (.iload 4, 2) := by decide +kernel
theorem dL_1109 {nm : String} : gd (mL_law nm) 1109 (.iload 4) 2 1111 := ⟨eL_1109, rfl⟩
theorem eL_1111 : decode cL_law 1111 = .ok (.iconst 1, 1) := by decide +kernel
theorem dL_1111 {nm : String} : gd (mL_law nm) 1111 (.iconst 1) 1 1112 := ⟨eL_1111, rfl⟩
theorem eL_1112 : decode cL_law 1112 = .ok (.iadd, 1) := by decide +kernel
theorem dL_1112 {nm : String} : gd (mL_law nm) 1112 (.iadd) 1 1113 := ⟨eL_1112, rfl⟩
theorem eL_1113 : decode cL_law 1113 = .ok (.iaload, 1) := by decide +kernel
theorem dL_1113 {nm : String} : gd (mL_law nm) 1113 (.iaload) 1 1114 := ⟨eL_1113, rfl⟩
theorem eL_1114 : decode cL_law 1114 = .ok (.aload_n 0, 1) := by decide +kernel
theorem dL_1114 {nm : String} : gd (mL_law nm) 1114 (.aload_n 0) 1 1115 := ⟨eL_1114, rfl⟩
theorem eL_1115 : decode cL_law 1115 = .ok (.iload 4, 2) := by decide +kernel
theorem dL_1115 {nm : String} : gd (mL_law nm) 1115 (.iload 4) 2 1117 := ⟨eL_1115, rfl⟩
theorem eL_1117 : decode cL_law 1117 = .ok (.iconst 2, 1) := by decide +kernel
theorem dL_1117 {nm : String} : gd (mL_law nm) 1117 (.iconst 2) 1 1118 := ⟨eL_1117, rfl⟩
theorem eL_1118 : decode cL_law 1118 = .ok (.iadd, 1) := by decide +kernel
theorem dL_1118 {nm : String} : gd (mL_law nm) 1118 (.iadd) 1 1119 := ⟨eL_1118, rfl⟩
theorem eL_1119 : decode cL_law 1119 = .ok (.iaload, 1) := by decide +kernel
theorem dL_1119 {nm : String} : gd (mL_law nm) 1119 (.iaload) 1 1120 := ⟨eL_1119, rfl⟩
theorem eL_1120 : decode cL_law 1120 = .ok (.invokevirtual 146, 3) := by decide +kernel
theorem dL_1120 {nm : String} : gd (mL_law nm) 1120 (.invokevirtual 146) 3 1123 := ⟨eL_1120, rfl⟩
theorem eL_1123 : decode cL_law 1123 = .ok (.aload_n 2, 1) := by decide +kernel
theorem dL_1123 {nm : String} : gd (mL_law nm) 1123 (.aload_n 2) 1 1124 := ⟨eL_1123, rfl⟩
theorem eL_1124 : decode cL_law 1124 = .ok (.aload_n 0, 1) := by decide +kernel
theorem dL_1124 {nm : String} : gd (mL_law nm) 1124 (.aload_n 0) 1 1125 := ⟨eL_1124, rfl⟩
theorem eL_1125 : decode cL_law 1125 = .ok (.iload 4, 2) := by decide +kernel
theorem dL_1125 {nm : String} : gd (mL_law nm) 1125 (.iload 4) 2 1127 := ⟨eL_1125, rfl⟩
theorem eL_1127 : decode cL_law 1127 = .ok (.iconst 1, 1) := by decide +kernel
theorem dL_1127 {nm : String} : gd (mL_law nm) 1127 (.iconst 1) 1 1128 := ⟨eL_1127, rfl⟩
theorem eL_1128 : decode cL_law 1128 = .ok (.iadd, 1) := by decide +kernel
theorem dL_1128 {nm : String} : gd (mL_law nm) 1128 (.iadd) 1 1129 := ⟨eL_1128, rfl⟩
theorem eL_1129 : decode cL_law 1129 = .ok (.iaload, 1) := by decide +kernel
theorem dL_1129 {nm : String} : gd (mL_law nm) 1129 (.iaload) 1 1130 := ⟨eL_1129, rfl⟩
theorem eL_1130 : decode cL_law 1130 = .ok (.aload_n 0, 1) := by decide +kernel
theorem dL_1130 {nm : String} : gd (mL_law nm) 1130 (.aload_n 0) 1 1131 := ⟨eL_1130, rfl⟩
theorem eL_1131 : decode cL_law 1131 = .ok (.iload 4, 2) := by decide +kernel
theorem dL_1131 {nm : String} : gd (mL_law nm) 1131 (.iload 4) 2 1133 := ⟨eL_1131, rfl⟩
theorem eL_1133 : decode cL_law 1133 = .ok (.iconst 2, 1) := by decide +kernel
theorem dL_1133 {nm : String} : gd (mL_law nm) 1133 (.iconst 2) 1 1134 := ⟨eL_1133, rfl⟩
theorem eL_1134 : decode cL_law 1134 = .ok (.iadd, 1) := by decide +kernel
theorem dL_1134 {nm : String} : gd (mL_law nm) 1134 (.iadd) 1 1135 := ⟨eL_1134, rfl⟩
theorem eL_1135 : decode cL_law 1135 = .ok (.iaload, 1) := by decide +kernel
theorem dL_1135 {nm : String} : gd (mL_law nm) 1135 (.iaload) 1 1136 := ⟨eL_1135, rfl⟩
theorem eL_1136 : decode cL_law 1136 = .ok (.invokevirtual 149, 3) := by decide +kernel
theorem dL_1136 {nm : String} : gd (mL_law nm) 1136 (.invokevirtual 149) 3 1139 := ⟨eL_1136, rfl⟩
theorem eL_1139 : decode cL_law 1139 = .ok (.if_icmp .eq 517, 3) := by decide +kernel
theorem dL_1139 {nm : String} : gj (mL_law nm) 1139 (.if_icmp .eq 517) (517) 1142 1656 := ⟨eL_1139, rfl, by decide⟩
theorem eL_1142 : decode cL_law 1142 = .ok (.iconst 0, 1) := by decide +kernel
theorem dL_1142 {nm : String} : gd (mL_law nm) 1142 (.iconst 0) 1 1143 := ⟨eL_1142, rfl⟩
theorem eL_1143 : decode cL_law 1143 = .ok (.ireturn, 1) := by decide +kernel
theorem eL_1144 : decode cL_law 1144 = .ok (.aload_n 1, 1) := by decide +kernel
theorem dL_1144 {nm : String} : gd (mL_law nm) 1144 (.aload_n 1) 1 1145 := ⟨eL_1144, rfl⟩
theorem eL_1145 : decode cL_law 1145 = .ok (.aload_n 0, 1) := by decide +kernel
theorem dL_1145 {nm : String} : gd (mL_law nm) 1145 (.aload_n 0) 1 1146 := ⟨eL_1145, rfl⟩
theorem eL_1146 : decode cL_law 1146 = .ok (.iload 4, 2) := by decide +kernel
theorem dL_1146 {nm : String} : gd (mL_law nm) 1146 (.iload 4) 2 1148 := ⟨eL_1146, rfl⟩
theorem eL_1148 : decode cL_law 1148 = .ok (.iconst 1, 1) := by decide +kernel
theorem dL_1148 {nm : String} : gd (mL_law nm) 1148 (.iconst 1) 1 1149 := ⟨eL_1148, rfl⟩
theorem eL_1149 : decode cL_law 1149 = .ok (.iadd, 1) := by decide +kernel
theorem dL_1149 {nm : String} : gd (mL_law nm) 1149 (.iadd) 1 1150 := ⟨eL_1149, rfl⟩
theorem eL_1150 : decode cL_law 1150 = .ok (.iaload, 1) := by decide +kernel
theorem dL_1150 {nm : String} : gd (mL_law nm) 1150 (.iaload) 1 1151 := ⟨eL_1150, rfl⟩
theorem eL_1151 : decode cL_law 1151 = .ok (.invokevirtual 150, 3) := by decide +kernel
theorem dL_1151 {nm : String} : gd (mL_law nm) 1151 (.invokevirtual 150) 3 1154 := ⟨eL_1151, rfl⟩
theorem eL_1154 : decode cL_law 1154 = .ok (.aload_n 2, 1) := by decide +kernel
theorem dL_1154 {nm : String} : gd (mL_law nm) 1154 (.aload_n 2) 1 1155 := ⟨eL_1154, rfl⟩
theorem eL_1155 : decode cL_law 1155 = .ok (.aload_n 0, 1) := by decide +kernel
theorem dL_1155 {nm : String} : gd (mL_law nm) 1155 (.aload_n 0) 1 1156 := ⟨eL_1155, rfl⟩
theorem eL_1156 : decode cL_law 1156 = .ok (.iload 4, 2) := by decide +kernel
theorem dL_1156 {nm : String} : gd (mL_law nm) 1156 (.iload 4) 2 1158 := ⟨eL_1156, rfl⟩
theorem eL_1158 : decode cL_law 1158 = .ok (.iconst 1, 1) := by decide +kernel
theorem dL_1158 {nm : String} : gd (mL_law nm) 1158 (.iconst 1) 1 1159 := ⟨eL_1158, rfl⟩
theorem eL_1159 : decode cL_law 1159 = .ok (.iadd, 1) := by decide +kernel
theorem dL_1159 {nm : String} : gd (mL_law nm) 1159 (.iadd) 1 1160 := ⟨eL_1159, rfl⟩
theorem eL_1160 : decode cL_law 1160 = .ok (.iaload, 1) := by decide +kernel
theorem dL_1160 {nm : String} : gd (mL_law nm) 1160 (.iaload) 1 1161 := ⟨eL_1160, rfl⟩
theorem eL_1161 : decode cL_law 1161 = .ok (.invokevirtual 153, 3) := by decide +kernel
theorem dL_1161 {nm : String} : gd (mL_law nm) 1161 (.invokevirtual 153) 3 1164 := ⟨eL_1161, rfl⟩
theorem eL_1164 : decode cL_law 1164 = .ok (.if_icmp .eq 492, 3) := by decide +kernel
theorem dL_1164 {nm : String} : gj (mL_law nm) 1164 (.if_icmp .eq 492) (492) 1167 1656 := ⟨eL_1164, rfl, by decide⟩
theorem eL_1167 : decode cL_law 1167 = .ok (.iconst 0, 1) := by decide +kernel
theorem dL_1167 {nm : String} : gd (mL_law nm) 1167 (.iconst 0) 1 1168 := ⟨eL_1167, rfl⟩
theorem eL_1168 : decode cL_law 1168 = .ok (.ireturn, 1) := by decide +kernel
theorem eL_1169 : decode cL_law 1169 = .ok (.aload_n 1, 1) := by decide +kernel
theorem dL_1169 {nm : String} : gd (mL_law nm) 1169 (.aload_n 1) 1 1170 := ⟨eL_1169, rfl⟩
theorem eL_1170 : decode cL_law 1170 = .ok (.aload_n 0, 1) := by decide +kernel
theorem dL_1170 {nm : String} : gd (mL_law nm) 1170 (.aload_n 0) 1 1171 := ⟨eL_1170, rfl⟩
theorem eL_1171 : decode cL_law 1171 = .ok (.iload 4, 2) := by decide +kernel
theorem dL_1171 {nm : String} : gd (mL_law nm) 1171 (.iload 4) 2 1173 := ⟨eL_1171, rfl⟩
theorem eL_1173 : decode cL_law 1173 = .ok (.iconst 1, 1) := by decide +kernel
theorem dL_1173 {nm : String} : gd (mL_law nm) 1173 (.iconst 1) 1 1174 := ⟨eL_1173, rfl⟩
theorem eL_1174 : decode cL_law 1174 = .ok (.iadd, 1) := by decide +kernel
theorem dL_1174 {nm : String} : gd (mL_law nm) 1174 (.iadd) 1 1175 := ⟨eL_1174, rfl⟩
theorem eL_1175 : decode cL_law 1175 = .ok (.iaload, 1) := by decide +kernel
theorem dL_1175 {nm : String} : gd (mL_law nm) 1175 (.iaload) 1 1176 := ⟨eL_1175, rfl⟩
theorem eL_1176 : decode cL_law 1176 = .ok (.invokevirtual 154, 3) := by decide +kernel
theorem dL_1176 {nm : String} : gd (mL_law nm) 1176 (.invokevirtual 154) 3 1179 := ⟨eL_1176, rfl⟩
theorem eL_1179 : decode cL_law 1179 = .ok (.aload_n 2, 1) := by decide +kernel
theorem dL_1179 {nm : String} : gd (mL_law nm) 1179 (.aload_n 2) 1 1180 := ⟨eL_1179, rfl⟩
theorem eL_1180 : decode cL_law 1180 = .ok (.aload_n 0, 1) := by decide +kernel
theorem dL_1180 {nm : String} : gd (mL_law nm) 1180 (.aload_n 0) 1 1181 := ⟨eL_1180, rfl⟩
theorem eL_1181 : decode cL_law 1181 = .ok (.iload 4, 2) := by decide +kernel
theorem dL_1181 {nm : String} : gd (mL_law nm) 1181 (.iload 4) 2 1183 := ⟨eL_1181, rfl⟩
theorem eL_1183 : decode cL_law 1183 = .ok (.iconst 1, 1) := by decide +kernel
theorem dL_1183 {nm : String} : gd (mL_law nm) 1183 (.iconst 1) 1 1184 := ⟨eL_1183, rfl⟩
theorem eL_1184 : decode cL_law 1184 = .ok (.iadd, 1) := by decide +kernel
theorem dL_1184 {nm : String} : gd (mL_law nm) 1184 (.iadd) 1 1185 := ⟨eL_1184, rfl⟩
theorem eL_1185 : decode cL_law 1185 = .ok (.iaload, 1) := by decide +kernel
theorem dL_1185 {nm : String} : gd (mL_law nm) 1185 (.iaload) 1 1186 := ⟨eL_1185, rfl⟩
theorem eL_1186 : decode cL_law 1186 = .ok (.invokevirtual 157, 3) := by decide +kernel
theorem dL_1186 {nm : String} : gd (mL_law nm) 1186 (.invokevirtual 157) 3 1189 := ⟨eL_1186, rfl⟩
theorem eL_1189 : decode cL_law 1189 = .ok (.if_icmp .eq 467, 3) := by decide +kernel
theorem dL_1189 {nm : String} : gj (mL_law nm) 1189 (.if_icmp .eq 467) (467) 1192 1656 := ⟨eL_1189, rfl, by decide⟩
theorem eL_1192 : decode cL_law 1192 = .ok (.iconst 0, 1) := by decide +kernel
theorem dL_1192 {nm : String} : gd (mL_law nm) 1192 (.iconst 0) 1 1193 := ⟨eL_1192, rfl⟩
theorem eL_1193 : decode cL_law 1193 = .ok (.ireturn, 1) := by decide +kernel
theorem eL_1194 : decode cL_law 1194 = .ok (.aload_n 1, 1) := by decide +kernel
theorem dL_1194 {nm : String} : gd (mL_law nm) 1194 (.aload_n 1) 1 1195 := ⟨eL_1194, rfl⟩
theorem eL_1195 : decode cL_law 1195 = .ok (.aload_n 0, 1) := by decide +kernel
theorem dL_1195 {nm : String} : gd (mL_law nm) 1195 (.aload_n 0) 1 1196 := ⟨eL_1195, rfl⟩
theorem eL_1196 : decode cL_law 1196 = .ok (.iload 4, 2) := by decide +kernel
theorem dL_1196 {nm : String} : gd (mL_law nm) 1196 (.iload 4) 2 1198 := ⟨eL_1196, rfl⟩
theorem eL_1198 : decode cL_law 1198 = .ok (.iconst 1, 1) := by decide +kernel
theorem dL_1198 {nm : String} : gd (mL_law nm) 1198 (.iconst 1) 1 1199 := ⟨eL_1198, rfl⟩
theorem eL_1199 : decode cL_law 1199 = .ok (.iadd, 1) := by decide +kernel
theorem dL_1199 {nm : String} : gd (mL_law nm) 1199 (.iadd) 1 1200 := ⟨eL_1199, rfl⟩
theorem eL_1200 : decode cL_law 1200 = .ok (.iaload, 1) := by decide +kernel
theorem dL_1200 {nm : String} : gd (mL_law nm) 1200 (.iaload) 1 1201 := ⟨eL_1200, rfl⟩
theorem eL_1201 : decode cL_law 1201 = .ok (.aload_n 0, 1) := by decide +kernel
theorem dL_1201 {nm : String} : gd (mL_law nm) 1201 (.aload_n 0) 1 1202 := ⟨eL_1201, rfl⟩
theorem eL_1202 : decode cL_law 1202 = .ok (.iload 4, 2) := by decide +kernel
theorem dL_1202 {nm : String} : gd (mL_law nm) 1202 (.iload 4) 2 1204 := ⟨eL_1202, rfl⟩
theorem eL_1204 : decode cL_law 1204 = .ok (.iconst 2, 1) := by decide +kernel
theorem dL_1204 {nm : String} : gd (mL_law nm) 1204 (.iconst 2) 1 1205 := ⟨eL_1204, rfl⟩
theorem eL_1205 : decode cL_law 1205 = .ok (.iadd, 1) := by decide +kernel
theorem dL_1205 {nm : String} : gd (mL_law nm) 1205 (.iadd) 1 1206 := ⟨eL_1205, rfl⟩
theorem eL_1206 : decode cL_law 1206 = .ok (.iaload, 1) := by decide +kernel
theorem dL_1206 {nm : String} : gd (mL_law nm) 1206 (.iaload) 1 1207 := ⟨eL_1206, rfl⟩
theorem eL_1207 : decode cL_law 1207 = .ok (.aload_n 0, 1) := by decide +kernel
theorem dL_1207 {nm : String} : gd (mL_law nm) 1207 (.aload_n 0) 1 1208 := ⟨eL_1207, rfl⟩
theorem eL_1208 : decode cL_law 1208 = .ok (.iload 4, 2) := by decide +kernel
theorem dL_1208 {nm : String} : gd (mL_law nm) 1208 (.iload 4) 2 1210 := ⟨eL_1208, rfl⟩
theorem eL_1210 : decode cL_law 1210 = .ok (.iconst 3, 1) := by decide +kernel
theorem dL_1210 {nm : String} : gd (mL_law nm) 1210 (.iconst 3) 1 1211 := ⟨eL_1210, rfl⟩
theorem eL_1211 : decode cL_law 1211 = .ok (.iadd, 1) := by decide +kernel
theorem dL_1211 {nm : String} : gd (mL_law nm) 1211 (.iadd) 1 1212 := ⟨eL_1211, rfl⟩
theorem eL_1212 : decode cL_law 1212 = .ok (.iaload, 1) := by decide +kernel
theorem dL_1212 {nm : String} : gd (mL_law nm) 1212 (.iaload) 1 1213 := ⟨eL_1212, rfl⟩
theorem eL_1213 : decode cL_law 1213 = .ok (.invokevirtual 158, 3) := by decide +kernel
theorem dL_1213 {nm : String} : gd (mL_law nm) 1213 (.invokevirtual 158) 3 1216 := ⟨eL_1213, rfl⟩
theorem eL_1216 : decode cL_law 1216 = .ok (.aload_n 2, 1) := by decide +kernel
theorem dL_1216 {nm : String} : gd (mL_law nm) 1216 (.aload_n 2) 1 1217 := ⟨eL_1216, rfl⟩
theorem eL_1217 : decode cL_law 1217 = .ok (.aload_n 0, 1) := by decide +kernel
theorem dL_1217 {nm : String} : gd (mL_law nm) 1217 (.aload_n 0) 1 1218 := ⟨eL_1217, rfl⟩
theorem eL_1218 : decode cL_law 1218 = .ok (.iload 4, 2) := by decide +kernel
theorem dL_1218 {nm : String} : gd (mL_law nm) 1218 (.iload 4) 2 1220 := ⟨eL_1218, rfl⟩
theorem eL_1220 : decode cL_law 1220 = .ok (.iconst 1, 1) := by decide +kernel
theorem dL_1220 {nm : String} : gd (mL_law nm) 1220 (.iconst 1) 1 1221 := ⟨eL_1220, rfl⟩
theorem eL_1221 : decode cL_law 1221 = .ok (.iadd, 1) := by decide +kernel
theorem dL_1221 {nm : String} : gd (mL_law nm) 1221 (.iadd) 1 1222 := ⟨eL_1221, rfl⟩
theorem eL_1222 : decode cL_law 1222 = .ok (.iaload, 1) := by decide +kernel
theorem dL_1222 {nm : String} : gd (mL_law nm) 1222 (.iaload) 1 1223 := ⟨eL_1222, rfl⟩
theorem eL_1223 : decode cL_law 1223 = .ok (.aload_n 0, 1) := by decide +kernel
theorem dL_1223 {nm : String} : gd (mL_law nm) 1223 (.aload_n 0) 1 1224 := ⟨eL_1223, rfl⟩
theorem eL_1224 : decode cL_law 1224 = .ok (.iload 4, 2) := by decide +kernel
theorem dL_1224 {nm : String} : gd (mL_law nm) 1224 (.iload 4) 2 1226 := ⟨eL_1224, rfl⟩
theorem eL_1226 : decode cL_law 1226 = .ok (.iconst 2, 1) := by decide +kernel
theorem dL_1226 {nm : String} : gd (mL_law nm) 1226 (.iconst 2) 1 1227 := ⟨eL_1226, rfl⟩
theorem eL_1227 : decode cL_law 1227 = .ok (.iadd, 1) := by decide +kernel
theorem dL_1227 {nm : String} : gd (mL_law nm) 1227 (.iadd) 1 1228 := ⟨eL_1227, rfl⟩
theorem eL_1228 : decode cL_law 1228 = .ok (.iaload, 1) := by decide +kernel
theorem dL_1228 {nm : String} : gd (mL_law nm) 1228 (.iaload) 1 1229 := ⟨eL_1228, rfl⟩
theorem eL_1229 : decode cL_law 1229 = .ok (.aload_n 0, 1) := by decide +kernel
theorem dL_1229 {nm : String} : gd (mL_law nm) 1229 (.aload_n 0) 1 1230 := ⟨eL_1229, rfl⟩
theorem eL_1230 : decode cL_law 1230 = .ok (.iload 4, 2) := by decide +kernel
theorem dL_1230 {nm : String} : gd (mL_law nm) 1230 (.iload 4) 2 1232 := ⟨eL_1230, rfl⟩
theorem eL_1232 : decode cL_law 1232 = .ok (.iconst 3, 1) := by decide +kernel
theorem dL_1232 {nm : String} : gd (mL_law nm) 1232 (.iconst 3) 1 1233 := ⟨eL_1232, rfl⟩
theorem eL_1233 : decode cL_law 1233 = .ok (.iadd, 1) := by decide +kernel
theorem dL_1233 {nm : String} : gd (mL_law nm) 1233 (.iadd) 1 1234 := ⟨eL_1233, rfl⟩
theorem eL_1234 : decode cL_law 1234 = .ok (.iaload, 1) := by decide +kernel
theorem dL_1234 {nm : String} : gd (mL_law nm) 1234 (.iaload) 1 1235 := ⟨eL_1234, rfl⟩
theorem eL_1235 : decode cL_law 1235 = .ok (.invokevirtual 161, 3) := by decide +kernel
theorem dL_1235 {nm : String} : gd (mL_law nm) 1235 (.invokevirtual 161) 3 1238 := ⟨eL_1235, rfl⟩
theorem eL_1238 : decode cL_law 1238 = .ok (.if_icmp .eq 418, 3) := by decide +kernel
theorem dL_1238 {nm : String} : gj (mL_law nm) 1238 (.if_icmp .eq 418) (418) 1241 1656 := ⟨eL_1238, rfl, by decide⟩
theorem eL_1241 : decode cL_law 1241 = .ok (.iconst 0, 1) := by decide +kernel
theorem dL_1241 {nm : String} : gd (mL_law nm) 1241 (.iconst 0) 1 1242 := ⟨eL_1241, rfl⟩
theorem eL_1242 : decode cL_law 1242 = .ok (.ireturn, 1) := by decide +kernel
theorem eL_1243 : decode cL_law 1243 = .ok (.aload_n 1, 1) := by decide +kernel
theorem dL_1243 {nm : String} : gd (mL_law nm) 1243 (.aload_n 1) 1 1244 := ⟨eL_1243, rfl⟩
theorem eL_1244 : decode cL_law 1244 = .ok (.invokevirtual 162, 3) := by decide +kernel
theorem dL_1244 {nm : String} : gd (mL_law nm) 1244 (.invokevirtual 162) 3 1247 := ⟨eL_1244, rfl⟩
theorem eL_1247 : decode cL_law 1247 = .ok (.aload_n 2, 1) := by decide +kernel
theorem dL_1247 {nm : String} : gd (mL_law nm) 1247 (.aload_n 2) 1 1248 := ⟨eL_1247, rfl⟩
theorem eL_1248 : decode cL_law 1248 = .ok (.invokevirtual 165, 3) := by decide +kernel
theorem dL_1248 {nm : String} : gd (mL_law nm) 1248 (.invokevirtual 165) 3 1251 := ⟨eL_1248, rfl⟩
theorem eL_1251 : decode cL_law 1251 = .ok (.if_icmp .eq 405, 3) := by decide +kernel
theorem dL_1251 {nm : String} : gj (mL_law nm) 1251 (.if_icmp .eq 405) (405) 1254 1656 := ⟨eL_1251, rfl, by decide⟩
theorem eL_1254 : decode cL_law 1254 = .ok (.iconst 0, 1) := by decide +kernel
theorem dL_1254 {nm : String} : gd (mL_law nm) 1254 (.iconst 0) 1 1255 := ⟨eL_1254, rfl⟩
theorem eL_1255 : decode cL_law 1255 = .ok (.ireturn, 1) := by decide +kernel
theorem eL_1256 : decode cL_law 1256 = .ok (.aload_n 1, 1) := by decide +kernel
theorem dL_1256 {nm : String} : gd (mL_law nm) 1256 (.aload_n 1) 1 1257 := ⟨eL_1256, rfl⟩
theorem eL_1257 : decode cL_law 1257 = .ok (.invokevirtual 166, 3) := by decide +kernel
theorem dL_1257 {nm : String} : gd (mL_law nm) 1257 (.invokevirtual 166) 3 1260 := ⟨eL_1257, rfl⟩
theorem eL_1260 : decode cL_law 1260 = .ok (.aload_n 2, 1) := by decide +kernel
theorem dL_1260 {nm : String} : gd (mL_law nm) 1260 (.aload_n 2) 1 1261 := ⟨eL_1260, rfl⟩
theorem eL_1261 : decode cL_law 1261 = .ok (.invokevirtual 169, 3) := by decide +kernel
theorem dL_1261 {nm : String} : gd (mL_law nm) 1261 (.invokevirtual 169) 3 1264 := ⟨eL_1261, rfl⟩
theorem eL_1264 : decode cL_law 1264 = .ok (.if_icmp .eq 392, 3) := by decide +kernel
theorem dL_1264 {nm : String} : gj (mL_law nm) 1264 (.if_icmp .eq 392) (392) 1267 1656 := ⟨eL_1264, rfl, by decide⟩
theorem eL_1267 : decode cL_law 1267 = .ok (.iconst 0, 1) := by decide +kernel
theorem dL_1267 {nm : String} : gd (mL_law nm) 1267 (.iconst 0) 1 1268 := ⟨eL_1267, rfl⟩
theorem eL_1268 : decode cL_law 1268 = .ok (.ireturn, 1) := by decide +kernel
theorem eL_1269 : decode cL_law 1269 = .ok (.aload_n 1, 1) := by decide +kernel
theorem dL_1269 {nm : String} : gd (mL_law nm) 1269 (.aload_n 1) 1 1270 := ⟨eL_1269, rfl⟩
theorem eL_1270 : decode cL_law 1270 = .ok (.aload_n 0, 1) := by decide +kernel
theorem dL_1270 {nm : String} : gd (mL_law nm) 1270 (.aload_n 0) 1 1271 := ⟨eL_1270, rfl⟩
theorem eL_1271 : decode cL_law 1271 = .ok (.iload 4, 2) := by decide +kernel
theorem dL_1271 {nm : String} : gd (mL_law nm) 1271 (.iload 4) 2 1273 := ⟨eL_1271, rfl⟩
theorem eL_1273 : decode cL_law 1273 = .ok (.iconst 1, 1) := by decide +kernel
theorem dL_1273 {nm : String} : gd (mL_law nm) 1273 (.iconst 1) 1 1274 := ⟨eL_1273, rfl⟩
theorem eL_1274 : decode cL_law 1274 = .ok (.iadd, 1) := by decide +kernel
theorem dL_1274 {nm : String} : gd (mL_law nm) 1274 (.iadd) 1 1275 := ⟨eL_1274, rfl⟩
theorem eL_1275 : decode cL_law 1275 = .ok (.iaload, 1) := by decide +kernel
theorem dL_1275 {nm : String} : gd (mL_law nm) 1275 (.iaload) 1 1276 := ⟨eL_1275, rfl⟩
theorem eL_1276 : decode cL_law 1276 = .ok (.invokevirtual 170, 3) := by decide +kernel
theorem dL_1276 {nm : String} : gd (mL_law nm) 1276 (.invokevirtual 170) 3 1279 := ⟨eL_1276, rfl⟩
theorem eL_1279 : decode cL_law 1279 = .ok (.aload_n 2, 1) := by decide +kernel
theorem dL_1279 {nm : String} : gd (mL_law nm) 1279 (.aload_n 2) 1 1280 := ⟨eL_1279, rfl⟩
theorem eL_1280 : decode cL_law 1280 = .ok (.aload_n 0, 1) := by decide +kernel
theorem dL_1280 {nm : String} : gd (mL_law nm) 1280 (.aload_n 0) 1 1281 := ⟨eL_1280, rfl⟩
theorem eL_1281 : decode cL_law 1281 = .ok (.iload 4, 2) := by decide +kernel
theorem dL_1281 {nm : String} : gd (mL_law nm) 1281 (.iload 4) 2 1283 := ⟨eL_1281, rfl⟩
theorem eL_1283 : decode cL_law 1283 = .ok (.iconst 1, 1) := by decide +kernel
theorem dL_1283 {nm : String} : gd (mL_law nm) 1283 (.iconst 1) 1 1284 := ⟨eL_1283, rfl⟩
theorem eL_1284 : decode cL_law 1284 = .ok (.iadd, 1) := by decide +kernel
theorem dL_1284 {nm : String} : gd (mL_law nm) 1284 (.iadd) 1 1285 := ⟨eL_1284, rfl⟩
theorem eL_1285 : decode cL_law 1285 = .ok (.iaload, 1) := by decide +kernel
theorem dL_1285 {nm : String} : gd (mL_law nm) 1285 (.iaload) 1 1286 := ⟨eL_1285, rfl⟩
theorem eL_1286 : decode cL_law 1286 = .ok (.invokevirtual 173, 3) := by decide +kernel
theorem dL_1286 {nm : String} : gd (mL_law nm) 1286 (.invokevirtual 173) 3 1289 := ⟨eL_1286, rfl⟩
theorem eL_1289 : decode cL_law 1289 = .ok (.if_icmp .eq 367, 3) := by decide +kernel
theorem dL_1289 {nm : String} : gj (mL_law nm) 1289 (.if_icmp .eq 367) (367) 1292 1656 := ⟨eL_1289, rfl, by decide⟩
theorem eL_1292 : decode cL_law 1292 = .ok (.iconst 0, 1) := by decide +kernel
theorem dL_1292 {nm : String} : gd (mL_law nm) 1292 (.iconst 0) 1 1293 := ⟨eL_1292, rfl⟩
theorem eL_1293 : decode cL_law 1293 = .ok (.ireturn, 1) := by decide +kernel
theorem eL_1294 : decode cL_law 1294 = .ok (.aload_n 1, 1) := by decide +kernel
theorem dL_1294 {nm : String} : gd (mL_law nm) 1294 (.aload_n 1) 1 1295 := ⟨eL_1294, rfl⟩
theorem eL_1295 : decode cL_law 1295 = .ok (.invokevirtual 174, 3) := by decide +kernel
theorem dL_1295 {nm : String} : gd (mL_law nm) 1295 (.invokevirtual 174) 3 1298 := ⟨eL_1295, rfl⟩
theorem eL_1298 : decode cL_law 1298 = .ok (.aload_n 2, 1) := by decide +kernel
theorem dL_1298 {nm : String} : gd (mL_law nm) 1298 (.aload_n 2) 1 1299 := ⟨eL_1298, rfl⟩
theorem eL_1299 : decode cL_law 1299 = .ok (.invokevirtual 177, 3) := by decide +kernel
theorem dL_1299 {nm : String} : gd (mL_law nm) 1299 (.invokevirtual 177) 3 1302 := ⟨eL_1299, rfl⟩
theorem eL_1302 : decode cL_law 1302 = .ok (.if_icmp .eq 354, 3) := by decide +kernel
theorem dL_1302 {nm : String} : gj (mL_law nm) 1302 (.if_icmp .eq 354) (354) 1305 1656 := ⟨eL_1302, rfl, by decide⟩
theorem eL_1305 : decode cL_law 1305 = .ok (.iconst 0, 1) := by decide +kernel
theorem dL_1305 {nm : String} : gd (mL_law nm) 1305 (.iconst 0) 1 1306 := ⟨eL_1305, rfl⟩
theorem eL_1306 : decode cL_law 1306 = .ok (.ireturn, 1) := by decide +kernel
theorem eL_1307 : decode cL_law 1307 = .ok (.aload_n 1, 1) := by decide +kernel
theorem dL_1307 {nm : String} : gd (mL_law nm) 1307 (.aload_n 1) 1 1308 := ⟨eL_1307, rfl⟩
theorem eL_1308 : decode cL_law 1308 = .ok (.aload_n 0, 1) := by decide +kernel
theorem dL_1308 {nm : String} : gd (mL_law nm) 1308 (.aload_n 0) 1 1309 := ⟨eL_1308, rfl⟩
theorem eL_1309 : decode cL_law 1309 = .ok (.iload 4, 2) := by decide +kernel
theorem dL_1309 {nm : String} : gd (mL_law nm) 1309 (.iload 4) 2 1311 := ⟨eL_1309, rfl⟩
theorem eL_1311 : decode cL_law 1311 = .ok (.iconst 1, 1) := by decide +kernel
theorem dL_1311 {nm : String} : gd (mL_law nm) 1311 (.iconst 1) 1 1312 := ⟨eL_1311, rfl⟩
theorem eL_1312 : decode cL_law 1312 = .ok (.iadd, 1) := by decide +kernel
theorem dL_1312 {nm : String} : gd (mL_law nm) 1312 (.iadd) 1 1313 := ⟨eL_1312, rfl⟩
theorem eL_1313 : decode cL_law 1313 = .ok (.iaload, 1) := by decide +kernel
theorem dL_1313 {nm : String} : gd (mL_law nm) 1313 (.iaload) 1 1314 := ⟨eL_1313, rfl⟩
theorem eL_1314 : decode cL_law 1314 = .ok (.aload_n 0, 1) := by decide +kernel
theorem dL_1314 {nm : String} : gd (mL_law nm) 1314 (.aload_n 0) 1 1315 := ⟨eL_1314, rfl⟩
theorem eL_1315 : decode cL_law 1315 = .ok (.iload 4, 2) := by decide +kernel
theorem dL_1315 {nm : String} : gd (mL_law nm) 1315 (.iload 4) 2 1317 := ⟨eL_1315, rfl⟩
theorem eL_1317 : decode cL_law 1317 = .ok (.iconst 2, 1) := by decide +kernel
theorem dL_1317 {nm : String} : gd (mL_law nm) 1317 (.iconst 2) 1 1318 := ⟨eL_1317, rfl⟩
theorem eL_1318 : decode cL_law 1318 = .ok (.iadd, 1) := by decide +kernel
theorem dL_1318 {nm : String} : gd (mL_law nm) 1318 (.iadd) 1 1319 := ⟨eL_1318, rfl⟩
theorem eL_1319 : decode cL_law 1319 = .ok (.iaload, 1) := by decide +kernel
theorem dL_1319 {nm : String} : gd (mL_law nm) 1319 (.iaload) 1 1320 := ⟨eL_1319, rfl⟩
theorem eL_1320 : decode cL_law 1320 = .ok (.aload_n 0, 1) := by decide +kernel
theorem dL_1320 {nm : String} : gd (mL_law nm) 1320 (.aload_n 0) 1 1321 := ⟨eL_1320, rfl⟩
theorem eL_1321 : decode cL_law 1321 = .ok (.iload 4, 2) := by decide +kernel
theorem dL_1321 {nm : String} : gd (mL_law nm) 1321 (.iload 4) 2 1323 := ⟨eL_1321, rfl⟩
theorem eL_1323 : decode cL_law 1323 = .ok (.iconst 3, 1) := by decide +kernel
theorem dL_1323 {nm : String} : gd (mL_law nm) 1323 (.iconst 3) 1 1324 := ⟨eL_1323, rfl⟩
theorem eL_1324 : decode cL_law 1324 = .ok (.iadd, 1) := by decide +kernel
theorem dL_1324 {nm : String} : gd (mL_law nm) 1324 (.iadd) 1 1325 := ⟨eL_1324, rfl⟩
theorem eL_1325 : decode cL_law 1325 = .ok (.iaload, 1) := by decide +kernel
theorem dL_1325 {nm : String} : gd (mL_law nm) 1325 (.iaload) 1 1326 := ⟨eL_1325, rfl⟩
theorem eL_1326 : decode cL_law 1326 = .ok (.aload_n 0, 1) := by decide +kernel
theorem dL_1326 {nm : String} : gd (mL_law nm) 1326 (.aload_n 0) 1 1327 := ⟨eL_1326, rfl⟩
theorem eL_1327 : decode cL_law 1327 = .ok (.iload 4, 2) := by decide +kernel
theorem dL_1327 {nm : String} : gd (mL_law nm) 1327 (.iload 4) 2 1329 := ⟨eL_1327, rfl⟩
theorem eL_1329 : decode cL_law 1329 = .ok (.iconst 4, 1) := by decide +kernel
theorem dL_1329 {nm : String} : gd (mL_law nm) 1329 (.iconst 4) 1 1330 := ⟨eL_1329, rfl⟩
theorem eL_1330 : decode cL_law 1330 = .ok (.iadd, 1) := by decide +kernel
theorem dL_1330 {nm : String} : gd (mL_law nm) 1330 (.iadd) 1 1331 := ⟨eL_1330, rfl⟩
theorem eL_1331 : decode cL_law 1331 = .ok (.iaload, 1) := by decide +kernel
theorem dL_1331 {nm : String} : gd (mL_law nm) 1331 (.iaload) 1 1332 := ⟨eL_1331, rfl⟩
theorem eL_1332 : decode cL_law 1332 = .ok (.invokevirtual 178, 3) := by decide +kernel
theorem dL_1332 {nm : String} : gd (mL_law nm) 1332 (.invokevirtual 178) 3 1335 := ⟨eL_1332, rfl⟩
theorem eL_1335 : decode cL_law 1335 = .ok (.aload_n 2, 1) := by decide +kernel
theorem dL_1335 {nm : String} : gd (mL_law nm) 1335 (.aload_n 2) 1 1336 := ⟨eL_1335, rfl⟩
theorem eL_1336 : decode cL_law 1336 = .ok (.aload_n 0, 1) := by decide +kernel
theorem dL_1336 {nm : String} : gd (mL_law nm) 1336 (.aload_n 0) 1 1337 := ⟨eL_1336, rfl⟩
theorem eL_1337 : decode cL_law 1337 = .ok (.iload 4, 2) := by decide +kernel
theorem dL_1337 {nm : String} : gd (mL_law nm) 1337 (.iload 4) 2 1339 := ⟨eL_1337, rfl⟩
theorem eL_1339 : decode cL_law 1339 = .ok (.iconst 1, 1) := by decide +kernel
theorem dL_1339 {nm : String} : gd (mL_law nm) 1339 (.iconst 1) 1 1340 := ⟨eL_1339, rfl⟩
theorem eL_1340 : decode cL_law 1340 = .ok (.iadd, 1) := by decide +kernel
theorem dL_1340 {nm : String} : gd (mL_law nm) 1340 (.iadd) 1 1341 := ⟨eL_1340, rfl⟩
theorem eL_1341 : decode cL_law 1341 = .ok (.iaload, 1) := by decide +kernel
theorem dL_1341 {nm : String} : gd (mL_law nm) 1341 (.iaload) 1 1342 := ⟨eL_1341, rfl⟩
theorem eL_1342 : decode cL_law 1342 = .ok (.aload_n 0, 1) := by decide +kernel
theorem dL_1342 {nm : String} : gd (mL_law nm) 1342 (.aload_n 0) 1 1343 := ⟨eL_1342, rfl⟩
theorem eL_1343 : decode cL_law 1343 = .ok (.iload 4, 2) := by decide +kernel
theorem dL_1343 {nm : String} : gd (mL_law nm) 1343 (.iload 4) 2 1345 := ⟨eL_1343, rfl⟩
theorem eL_1345 : decode cL_law 1345 = .ok (.iconst 2, 1) := by decide +kernel
theorem dL_1345 {nm : String} : gd (mL_law nm) 1345 (.iconst 2) 1 1346 := ⟨eL_1345, rfl⟩
theorem eL_1346 : decode cL_law 1346 = .ok (.iadd, 1) := by decide +kernel
theorem dL_1346 {nm : String} : gd (mL_law nm) 1346 (.iadd) 1 1347 := ⟨eL_1346, rfl⟩
theorem eL_1347 : decode cL_law 1347 = .ok (.iaload, 1) := by decide +kernel
theorem dL_1347 {nm : String} : gd (mL_law nm) 1347 (.iaload) 1 1348 := ⟨eL_1347, rfl⟩
theorem eL_1348 : decode cL_law 1348 = .ok (.aload_n 0, 1) := by decide +kernel
theorem dL_1348 {nm : String} : gd (mL_law nm) 1348 (.aload_n 0) 1 1349 := ⟨eL_1348, rfl⟩
theorem eL_1349 : decode cL_law 1349 = .ok (.iload 4, 2) := by decide +kernel
theorem dL_1349 {nm : String} : gd (mL_law nm) 1349 (.iload 4) 2 1351 := ⟨eL_1349, rfl⟩
theorem eL_1351 : decode cL_law 1351 = .ok (.iconst 3, 1) := by decide +kernel
theorem dL_1351 {nm : String} : gd (mL_law nm) 1351 (.iconst 3) 1 1352 := ⟨eL_1351, rfl⟩
theorem eL_1352 : decode cL_law 1352 = .ok (.iadd, 1) := by decide +kernel
theorem dL_1352 {nm : String} : gd (mL_law nm) 1352 (.iadd) 1 1353 := ⟨eL_1352, rfl⟩
theorem eL_1353 : decode cL_law 1353 = .ok (.iaload, 1) := by decide +kernel
theorem dL_1353 {nm : String} : gd (mL_law nm) 1353 (.iaload) 1 1354 := ⟨eL_1353, rfl⟩
theorem eL_1354 : decode cL_law 1354 = .ok (.aload_n 0, 1) := by decide +kernel
theorem dL_1354 {nm : String} : gd (mL_law nm) 1354 (.aload_n 0) 1 1355 := ⟨eL_1354, rfl⟩
theorem eL_1355 : decode cL_law 1355 = .ok (.iload 4, 2) := by decide +kernel
theorem dL_1355 {nm : String} : gd (mL_law nm) 1355 (.iload 4) 2 1357 := ⟨eL_1355, rfl⟩
theorem eL_1357 : decode cL_law 1357 = .ok (.iconst 4, 1) := by decide +kernel
theorem dL_1357 {nm : String} : gd (mL_law nm) 1357 (.iconst 4) 1 1358 := ⟨eL_1357, rfl⟩
theorem eL_1358 : decode cL_law 1358 = .ok (.iadd, 1) := by decide +kernel
theorem dL_1358 {nm : String} : gd (mL_law nm) 1358 (.iadd) 1 1359 := ⟨eL_1358, rfl⟩
theorem eL_1359 : decode cL_law 1359 = .ok (.iaload, 1) := by decide +kernel
theorem dL_1359 {nm : String} : gd (mL_law nm) 1359 (.iaload) 1 1360 := ⟨eL_1359, rfl⟩
theorem eL_1360 : decode cL_law 1360 = .ok (.invokevirtual 182, 3) := by decide +kernel
theorem dL_1360 {nm : String} : gd (mL_law nm) 1360 (.invokevirtual 182) 3 1363 := ⟨eL_1360, rfl⟩
theorem eL_1363 : decode cL_law 1363 = .ok (.if_icmp .eq 293, 3) := by decide +kernel
theorem dL_1363 {nm : String} : gj (mL_law nm) 1363 (.if_icmp .eq 293) (293) 1366 1656 := ⟨eL_1363, rfl, by decide⟩
theorem eL_1366 : decode cL_law 1366 = .ok (.iconst 0, 1) := by decide +kernel
theorem dL_1366 {nm : String} : gd (mL_law nm) 1366 (.iconst 0) 1 1367 := ⟨eL_1366, rfl⟩
theorem eL_1367 : decode cL_law 1367 = .ok (.ireturn, 1) := by decide +kernel
theorem eL_1368 : decode cL_law 1368 = .ok (.aload_n 1, 1) := by decide +kernel
theorem dL_1368 {nm : String} : gd (mL_law nm) 1368 (.aload_n 1) 1 1369 := ⟨eL_1368, rfl⟩
theorem eL_1369 : decode cL_law 1369 = .ok (.aload_n 0, 1) := by decide +kernel
theorem dL_1369 {nm : String} : gd (mL_law nm) 1369 (.aload_n 0) 1 1370 := ⟨eL_1369, rfl⟩
theorem eL_1370 : decode cL_law 1370 = .ok (.iload 4, 2) := by decide +kernel
theorem dL_1370 {nm : String} : gd (mL_law nm) 1370 (.iload 4) 2 1372 := ⟨eL_1370, rfl⟩
theorem eL_1372 : decode cL_law 1372 = .ok (.iconst 1, 1) := by decide +kernel
theorem dL_1372 {nm : String} : gd (mL_law nm) 1372 (.iconst 1) 1 1373 := ⟨eL_1372, rfl⟩
theorem eL_1373 : decode cL_law 1373 = .ok (.iadd, 1) := by decide +kernel
theorem dL_1373 {nm : String} : gd (mL_law nm) 1373 (.iadd) 1 1374 := ⟨eL_1373, rfl⟩
theorem eL_1374 : decode cL_law 1374 = .ok (.iaload, 1) := by decide +kernel
theorem dL_1374 {nm : String} : gd (mL_law nm) 1374 (.iaload) 1 1375 := ⟨eL_1374, rfl⟩
theorem eL_1375 : decode cL_law 1375 = .ok (.aload_n 0, 1) := by decide +kernel
theorem dL_1375 {nm : String} : gd (mL_law nm) 1375 (.aload_n 0) 1 1376 := ⟨eL_1375, rfl⟩
theorem eL_1376 : decode cL_law 1376 = .ok (.iload 4, 2) := by decide +kernel
theorem dL_1376 {nm : String} : gd (mL_law nm) 1376 (.iload 4) 2 1378 := ⟨eL_1376, rfl⟩
theorem eL_1378 : decode cL_law 1378 = .ok (.iconst 2, 1) := by decide +kernel
theorem dL_1378 {nm : String} : gd (mL_law nm) 1378 (.iconst 2) 1 1379 := ⟨eL_1378, rfl⟩
theorem eL_1379 : decode cL_law 1379 = .ok (.iadd, 1) := by decide +kernel
theorem dL_1379 {nm : String} : gd (mL_law nm) 1379 (.iadd) 1 1380 := ⟨eL_1379, rfl⟩
theorem eL_1380 : decode cL_law 1380 = .ok (.iaload, 1) := by decide +kernel
theorem dL_1380 {nm : String} : gd (mL_law nm) 1380 (.iaload) 1 1381 := ⟨eL_1380, rfl⟩
theorem eL_1381 : decode cL_law 1381 = .ok (.aload_n 0, 1) := by decide +kernel
theorem dL_1381 {nm : String} : gd (mL_law nm) 1381 (.aload_n 0) 1 1382 := ⟨eL_1381, rfl⟩
theorem eL_1382 : decode cL_law 1382 = .ok (.iload 4, 2) := by decide +kernel
theorem dL_1382 {nm : String} : gd (mL_law nm) 1382 (.iload 4) 2 1384 := ⟨eL_1382, rfl⟩
theorem eL_1384 : decode cL_law 1384 = .ok (.iconst 3, 1) := by decide +kernel
theorem dL_1384 {nm : String} : gd (mL_law nm) 1384 (.iconst 3) 1 1385 := ⟨eL_1384, rfl⟩
theorem eL_1385 : decode cL_law 1385 = .ok (.iadd, 1) := by decide +kernel
theorem dL_1385 {nm : String} : gd (mL_law nm) 1385 (.iadd) 1 1386 := ⟨eL_1385, rfl⟩
theorem eL_1386 : decode cL_law 1386 = .ok (.iaload, 1) := by decide +kernel
theorem dL_1386 {nm : String} : gd (mL_law nm) 1386 (.iaload) 1 1387 := ⟨eL_1386, rfl⟩
theorem eL_1387 : decode cL_law 1387 = .ok (.invokevirtual 183, 3) := by decide +kernel
theorem dL_1387 {nm : String} : gd (mL_law nm) 1387 (.invokevirtual 183) 3 1390 := ⟨eL_1387, rfl⟩
theorem eL_1390 : decode cL_law 1390 = .ok (.aload_n 2, 1) := by decide +kernel
theorem dL_1390 {nm : String} : gd (mL_law nm) 1390 (.aload_n 2) 1 1391 := ⟨eL_1390, rfl⟩
theorem eL_1391 : decode cL_law 1391 = .ok (.aload_n 0, 1) := by decide +kernel
theorem dL_1391 {nm : String} : gd (mL_law nm) 1391 (.aload_n 0) 1 1392 := ⟨eL_1391, rfl⟩
theorem eL_1392 : decode cL_law 1392 = .ok (.iload 4, 2) := by decide +kernel
theorem dL_1392 {nm : String} : gd (mL_law nm) 1392 (.iload 4) 2 1394 := ⟨eL_1392, rfl⟩
theorem eL_1394 : decode cL_law 1394 = .ok (.iconst 1, 1) := by decide +kernel
theorem dL_1394 {nm : String} : gd (mL_law nm) 1394 (.iconst 1) 1 1395 := ⟨eL_1394, rfl⟩
theorem eL_1395 : decode cL_law 1395 = .ok (.iadd, 1) := by decide +kernel
theorem dL_1395 {nm : String} : gd (mL_law nm) 1395 (.iadd) 1 1396 := ⟨eL_1395, rfl⟩
theorem eL_1396 : decode cL_law 1396 = .ok (.iaload, 1) := by decide +kernel
theorem dL_1396 {nm : String} : gd (mL_law nm) 1396 (.iaload) 1 1397 := ⟨eL_1396, rfl⟩
theorem eL_1397 : decode cL_law 1397 = .ok (.aload_n 0, 1) := by decide +kernel
theorem dL_1397 {nm : String} : gd (mL_law nm) 1397 (.aload_n 0) 1 1398 := ⟨eL_1397, rfl⟩
theorem eL_1398 : decode cL_law 1398 = .ok (.iload 4, 2) := by decide +kernel
theorem dL_1398 {nm : String} : gd (mL_law nm) 1398 (.iload 4) 2 1400 := ⟨eL_1398, rfl⟩
theorem eL_1400 : decode cL_law 1400 = .ok (.iconst 2, 1) := by decide +kernel
theorem dL_1400 {nm : String} : gd (mL_law nm) 1400 (.iconst 2) 1 1401 := ⟨eL_1400, rfl⟩
theorem eL_1401 : decode cL_law 1401 = .ok (.iadd, 1) := by decide +kernel
theorem dL_1401 {nm : String} : gd (mL_law nm) 1401 (.iadd) 1 1402 := ⟨eL_1401, rfl⟩
theorem eL_1402 : decode cL_law 1402 = .ok (.iaload, 1) := by decide +kernel
theorem dL_1402 {nm : String} : gd (mL_law nm) 1402 (.iaload) 1 1403 := ⟨eL_1402, rfl⟩
theorem eL_1403 : decode cL_law 1403 = .ok (.aload_n 0, 1) := by decide +kernel
theorem dL_1403 {nm : String} : gd (mL_law nm) 1403 (.aload_n 0) 1 1404 := ⟨eL_1403, rfl⟩
theorem eL_1404 : decode cL_law 1404 = .ok (.iload 4, 2) := by decide +kernel
theorem dL_1404 {nm : String} : gd (mL_law nm) 1404 (.iload 4) 2 1406 := ⟨eL_1404, rfl⟩
theorem eL_1406 : decode cL_law 1406 = .ok (.iconst 3, 1) := by decide +kernel
theorem dL_1406 {nm : String} : gd (mL_law nm) 1406 (.iconst 3) 1 1407 := ⟨eL_1406, rfl⟩
theorem eL_1407 : decode cL_law 1407 = .ok (.iadd, 1) := by decide +kernel
theorem dL_1407 {nm : String} : gd (mL_law nm) 1407 (.iadd) 1 1408 := ⟨eL_1407, rfl⟩
theorem eL_1408 : decode cL_law 1408 = .ok (.iaload, 1) := by decide +kernel
theorem dL_1408 {nm : String} : gd (mL_law nm) 1408 (.iaload) 1 1409 := ⟨eL_1408, rfl⟩
theorem eL_1409 : decode cL_law 1409 = .ok (.invokevirtual 186, 3) := by decide +kernel
theorem dL_1409 {nm : String} : gd (mL_law nm) 1409 (.invokevirtual 186) 3 1412 := ⟨eL_1409, rfl⟩
theorem eL_1412 : decode cL_law 1412 = .ok (.if_icmp .eq 244, 3) := by decide +kernel
theorem dL_1412 {nm : String} : gj (mL_law nm) 1412 (.if_icmp .eq 244) (244) 1415 1656 := ⟨eL_1412, rfl, by decide⟩
theorem eL_1415 : decode cL_law 1415 = .ok (.iconst 0, 1) := by decide +kernel
theorem dL_1415 {nm : String} : gd (mL_law nm) 1415 (.iconst 0) 1 1416 := ⟨eL_1415, rfl⟩
theorem eL_1416 : decode cL_law 1416 = .ok (.ireturn, 1) := by decide +kernel
theorem eL_1417 : decode cL_law 1417 = .ok (.aload_n 1, 1) := by decide +kernel
theorem dL_1417 {nm : String} : gd (mL_law nm) 1417 (.aload_n 1) 1 1418 := ⟨eL_1417, rfl⟩
theorem eL_1418 : decode cL_law 1418 = .ok (.aload_n 0, 1) := by decide +kernel
theorem dL_1418 {nm : String} : gd (mL_law nm) 1418 (.aload_n 0) 1 1419 := ⟨eL_1418, rfl⟩
theorem eL_1419 : decode cL_law 1419 = .ok (.iload 4, 2) := by decide +kernel
theorem dL_1419 {nm : String} : gd (mL_law nm) 1419 (.iload 4) 2 1421 := ⟨eL_1419, rfl⟩
theorem eL_1421 : decode cL_law 1421 = .ok (.iconst 1, 1) := by decide +kernel
theorem dL_1421 {nm : String} : gd (mL_law nm) 1421 (.iconst 1) 1 1422 := ⟨eL_1421, rfl⟩
theorem eL_1422 : decode cL_law 1422 = .ok (.iadd, 1) := by decide +kernel
theorem dL_1422 {nm : String} : gd (mL_law nm) 1422 (.iadd) 1 1423 := ⟨eL_1422, rfl⟩
theorem eL_1423 : decode cL_law 1423 = .ok (.iaload, 1) := by decide +kernel
theorem dL_1423 {nm : String} : gd (mL_law nm) 1423 (.iaload) 1 1424 := ⟨eL_1423, rfl⟩
theorem eL_1424 : decode cL_law 1424 = .ok (.aload_n 0, 1) := by decide +kernel
theorem dL_1424 {nm : String} : gd (mL_law nm) 1424 (.aload_n 0) 1 1425 := ⟨eL_1424, rfl⟩
theorem eL_1425 : decode cL_law 1425 = .ok (.iload 4, 2) := by decide +kernel
theorem dL_1425 {nm : String} : gd (mL_law nm) 1425 (.iload 4) 2 1427 := ⟨eL_1425, rfl⟩
theorem eL_1427 : decode cL_law 1427 = .ok (.iconst 2, 1) := by decide +kernel
theorem dL_1427 {nm : String} : gd (mL_law nm) 1427 (.iconst 2) 1 1428 := ⟨eL_1427, rfl⟩
theorem eL_1428 : decode cL_law 1428 = .ok (.iadd, 1) := by decide +kernel
theorem dL_1428 {nm : String} : gd (mL_law nm) 1428 (.iadd) 1 1429 := ⟨eL_1428, rfl⟩
theorem eL_1429 : decode cL_law 1429 = .ok (.iaload, 1) := by decide +kernel
theorem dL_1429 {nm : String} : gd (mL_law nm) 1429 (.iaload) 1 1430 := ⟨eL_1429, rfl⟩
theorem eL_1430 : decode cL_law 1430 = .ok (.aload_n 0, 1) := by decide +kernel
theorem dL_1430 {nm : String} : gd (mL_law nm) 1430 (.aload_n 0) 1 1431 := ⟨eL_1430, rfl⟩
theorem eL_1431 : decode cL_law 1431 = .ok (.iload 4, 2) := by decide +kernel
theorem dL_1431 {nm : String} : gd (mL_law nm) 1431 (.iload 4) 2 1433 := ⟨eL_1431, rfl⟩
theorem eL_1433 : decode cL_law 1433 = .ok (.iconst 3, 1) := by decide +kernel
theorem dL_1433 {nm : String} : gd (mL_law nm) 1433 (.iconst 3) 1 1434 := ⟨eL_1433, rfl⟩
theorem eL_1434 : decode cL_law 1434 = .ok (.iadd, 1) := by decide +kernel
theorem dL_1434 {nm : String} : gd (mL_law nm) 1434 (.iadd) 1 1435 := ⟨eL_1434, rfl⟩
theorem eL_1435 : decode cL_law 1435 = .ok (.iaload, 1) := by decide +kernel
theorem dL_1435 {nm : String} : gd (mL_law nm) 1435 (.iaload) 1 1436 := ⟨eL_1435, rfl⟩
theorem eL_1436 : decode cL_law 1436 = .ok (.invokevirtual 187, 3) := by decide +kernel
theorem dL_1436 {nm : String} : gd (mL_law nm) 1436 (.invokevirtual 187) 3 1439 := ⟨eL_1436, rfl⟩
theorem eL_1439 : decode cL_law 1439 = .ok (.aload_n 2, 1) := by decide +kernel
theorem dL_1439 {nm : String} : gd (mL_law nm) 1439 (.aload_n 2) 1 1440 := ⟨eL_1439, rfl⟩
theorem eL_1440 : decode cL_law 1440 = .ok (.aload_n 0, 1) := by decide +kernel
theorem dL_1440 {nm : String} : gd (mL_law nm) 1440 (.aload_n 0) 1 1441 := ⟨eL_1440, rfl⟩
theorem eL_1441 : decode cL_law 1441 = .ok (.iload 4, 2) := by decide +kernel
theorem dL_1441 {nm : String} : gd (mL_law nm) 1441 (.iload 4) 2 1443 := ⟨eL_1441, rfl⟩
theorem eL_1443 : decode cL_law 1443 = .ok (.iconst 1, 1) := by decide +kernel
theorem dL_1443 {nm : String} : gd (mL_law nm) 1443 (.iconst 1) 1 1444 := ⟨eL_1443, rfl⟩
theorem eL_1444 : decode cL_law 1444 = .ok (.iadd, 1) := by decide +kernel
theorem dL_1444 {nm : String} : gd (mL_law nm) 1444 (.iadd) 1 1445 := ⟨eL_1444, rfl⟩
theorem eL_1445 : decode cL_law 1445 = .ok (.iaload, 1) := by decide +kernel
theorem dL_1445 {nm : String} : gd (mL_law nm) 1445 (.iaload) 1 1446 := ⟨eL_1445, rfl⟩
theorem eL_1446 : decode cL_law 1446 = .ok (.aload_n 0, 1) := by decide +kernel
theorem dL_1446 {nm : String} : gd (mL_law nm) 1446 (.aload_n 0) 1 1447 := ⟨eL_1446, rfl⟩
theorem eL_1447 : decode cL_law 1447 = .ok (.iload 4, 2) := by decide +kernel
theorem dL_1447 {nm : String} : gd (mL_law nm) 1447 (.iload 4) 2 1449 := ⟨eL_1447, rfl⟩
theorem eL_1449 : decode cL_law 1449 = .ok (.iconst 2, 1) := by decide +kernel
theorem dL_1449 {nm : String} : gd (mL_law nm) 1449 (.iconst 2) 1 1450 := ⟨eL_1449, rfl⟩
theorem eL_1450 : decode cL_law 1450 = .ok (.iadd, 1) := by decide +kernel
theorem dL_1450 {nm : String} : gd (mL_law nm) 1450 (.iadd) 1 1451 := ⟨eL_1450, rfl⟩
theorem eL_1451 : decode cL_law 1451 = .ok (.iaload, 1) := by decide +kernel
theorem dL_1451 {nm : String} : gd (mL_law nm) 1451 (.iaload) 1 1452 := ⟨eL_1451, rfl⟩
theorem eL_1452 : decode cL_law 1452 = .ok (.aload_n 0, 1) := by decide +kernel
theorem dL_1452 {nm : String} : gd (mL_law nm) 1452 (.aload_n 0) 1 1453 := ⟨eL_1452, rfl⟩
theorem eL_1453 : decode cL_law 1453 = .ok (.iload 4, 2) := by decide +kernel
theorem dL_1453 {nm : String} : gd (mL_law nm) 1453 (.iload 4) 2 1455 := ⟨eL_1453, rfl⟩
theorem eL_1455 : decode cL_law 1455 = .ok (.iconst 3, 1) := by decide +kernel
theorem dL_1455 {nm : String} : gd (mL_law nm) 1455 (.iconst 3) 1 1456 := ⟨eL_1455, rfl⟩
theorem eL_1456 : decode cL_law 1456 = .ok (.iadd, 1) := by decide +kernel
theorem dL_1456 {nm : String} : gd (mL_law nm) 1456 (.iadd) 1 1457 := ⟨eL_1456, rfl⟩
theorem eL_1457 : decode cL_law 1457 = .ok (.iaload, 1) := by decide +kernel
theorem dL_1457 {nm : String} : gd (mL_law nm) 1457 (.iaload) 1 1458 := ⟨eL_1457, rfl⟩
theorem eL_1458 : decode cL_law 1458 = .ok (.invokevirtual 190, 3) := by decide +kernel
theorem dL_1458 {nm : String} : gd (mL_law nm) 1458 (.invokevirtual 190) 3 1461 := ⟨eL_1458, rfl⟩
theorem eL_1461 : decode cL_law 1461 = .ok (.if_icmp .eq 195, 3) := by decide +kernel
theorem dL_1461 {nm : String} : gj (mL_law nm) 1461 (.if_icmp .eq 195) (195) 1464 1656 := ⟨eL_1461, rfl, by decide⟩
theorem eL_1464 : decode cL_law 1464 = .ok (.iconst 0, 1) := by decide +kernel
theorem dL_1464 {nm : String} : gd (mL_law nm) 1464 (.iconst 0) 1 1465 := ⟨eL_1464, rfl⟩
theorem eL_1465 : decode cL_law 1465 = .ok (.ireturn, 1) := by decide +kernel
theorem eL_1466 : decode cL_law 1466 = .ok (.aload_n 1, 1) := by decide +kernel
theorem dL_1466 {nm : String} : gd (mL_law nm) 1466 (.aload_n 1) 1 1467 := ⟨eL_1466, rfl⟩
theorem eL_1467 : decode cL_law 1467 = .ok (.aload_n 0, 1) := by decide +kernel
theorem dL_1467 {nm : String} : gd (mL_law nm) 1467 (.aload_n 0) 1 1468 := ⟨eL_1467, rfl⟩
theorem eL_1468 : decode cL_law 1468 = .ok (.iload 4, 2) := by decide +kernel
theorem dL_1468 {nm : String} : gd (mL_law nm) 1468 (.iload 4) 2 1470 := ⟨eL_1468, rfl⟩
theorem eL_1470 : decode cL_law 1470 = .ok (.iconst 1, 1) := by decide +kernel
theorem dL_1470 {nm : String} : gd (mL_law nm) 1470 (.iconst 1) 1 1471 := ⟨eL_1470, rfl⟩
theorem eL_1471 : decode cL_law 1471 = .ok (.iadd, 1) := by decide +kernel
theorem dL_1471 {nm : String} : gd (mL_law nm) 1471 (.iadd) 1 1472 := ⟨eL_1471, rfl⟩
theorem eL_1472 : decode cL_law 1472 = .ok (.iaload, 1) := by decide +kernel
theorem dL_1472 {nm : String} : gd (mL_law nm) 1472 (.iaload) 1 1473 := ⟨eL_1472, rfl⟩
theorem eL_1473 : decode cL_law 1473 = .ok (.aload_n 0, 1) := by decide +kernel
theorem dL_1473 {nm : String} : gd (mL_law nm) 1473 (.aload_n 0) 1 1474 := ⟨eL_1473, rfl⟩
theorem eL_1474 : decode cL_law 1474 = .ok (.iload 4, 2) := by decide +kernel
theorem dL_1474 {nm : String} : gd (mL_law nm) 1474 (.iload 4) 2 1476 := ⟨eL_1474, rfl⟩
theorem eL_1476 : decode cL_law 1476 = .ok (.iconst 2, 1) := by decide +kernel
theorem dL_1476 {nm : String} : gd (mL_law nm) 1476 (.iconst 2) 1 1477 := ⟨eL_1476, rfl⟩
theorem eL_1477 : decode cL_law 1477 = .ok (.iadd, 1) := by decide +kernel
theorem dL_1477 {nm : String} : gd (mL_law nm) 1477 (.iadd) 1 1478 := ⟨eL_1477, rfl⟩
theorem eL_1478 : decode cL_law 1478 = .ok (.iaload, 1) := by decide +kernel
theorem dL_1478 {nm : String} : gd (mL_law nm) 1478 (.iaload) 1 1479 := ⟨eL_1478, rfl⟩
theorem eL_1479 : decode cL_law 1479 = .ok (.aload_n 3, 1) := by decide +kernel
theorem dL_1479 {nm : String} : gd (mL_law nm) 1479 (.aload_n 3) 1 1480 := ⟨eL_1479, rfl⟩
theorem eL_1480 : decode cL_law 1480 = .ok (.invokestatic 191, 3) := by decide +kernel
theorem dL_1480 {nm : String} : gd (mL_law nm) 1480 (.invokestatic 191) 3 1483 := ⟨eL_1480, rfl⟩
theorem eL_1483 : decode cL_law 1483 = .ok (.istore 5, 2) := by decide +kernel
theorem dL_1483 {nm : String} : gd (mL_law nm) 1483 (.istore 5) 2 1485 := ⟨eL_1483, rfl⟩
theorem eL_1485 : decode cL_law 1485 = .ok (.aload_n 2, 1) := by decide +kernel
theorem dL_1485 {nm : String} : gd (mL_law nm) 1485 (.aload_n 2) 1 1486 := ⟨eL_1485, rfl⟩
theorem eL_1486 : decode cL_law 1486 = .ok (.aload_n 0, 1) := by decide +kernel
theorem dL_1486 {nm : String} : gd (mL_law nm) 1486 (.aload_n 0) 1 1487 := ⟨eL_1486, rfl⟩
theorem eL_1487 : decode cL_law 1487 = .ok (.iload 4, 2) := by decide +kernel
theorem dL_1487 {nm : String} : gd (mL_law nm) 1487 (.iload 4) 2 1489 := ⟨eL_1487, rfl⟩
theorem eL_1489 : decode cL_law 1489 = .ok (.iconst 1, 1) := by decide +kernel
theorem dL_1489 {nm : String} : gd (mL_law nm) 1489 (.iconst 1) 1 1490 := ⟨eL_1489, rfl⟩
theorem eL_1490 : decode cL_law 1490 = .ok (.iadd, 1) := by decide +kernel
theorem dL_1490 {nm : String} : gd (mL_law nm) 1490 (.iadd) 1 1491 := ⟨eL_1490, rfl⟩
theorem eL_1491 : decode cL_law 1491 = .ok (.iaload, 1) := by decide +kernel
theorem dL_1491 {nm : String} : gd (mL_law nm) 1491 (.iaload) 1 1492 := ⟨eL_1491, rfl⟩
theorem eL_1492 : decode cL_law 1492 = .ok (.aload_n 0, 1) := by decide +kernel
theorem dL_1492 {nm : String} : gd (mL_law nm) 1492 (.aload_n 0) 1 1493 := ⟨eL_1492, rfl⟩
theorem eL_1493 : decode cL_law 1493 = .ok (.iload 4, 2) := by decide +kernel
theorem dL_1493 {nm : String} : gd (mL_law nm) 1493 (.iload 4) 2 1495 := ⟨eL_1493, rfl⟩
theorem eL_1495 : decode cL_law 1495 = .ok (.iconst 2, 1) := by decide +kernel
theorem dL_1495 {nm : String} : gd (mL_law nm) 1495 (.iconst 2) 1 1496 := ⟨eL_1495, rfl⟩
theorem eL_1496 : decode cL_law 1496 = .ok (.iadd, 1) := by decide +kernel
theorem dL_1496 {nm : String} : gd (mL_law nm) 1496 (.iadd) 1 1497 := ⟨eL_1496, rfl⟩
theorem eL_1497 : decode cL_law 1497 = .ok (.iaload, 1) := by decide +kernel
theorem dL_1497 {nm : String} : gd (mL_law nm) 1497 (.iaload) 1 1498 := ⟨eL_1497, rfl⟩
theorem eL_1498 : decode cL_law 1498 = .ok (.invokevirtual 196, 3) := by decide +kernel
theorem dL_1498 {nm : String} : gd (mL_law nm) 1498 (.invokevirtual 196) 3 1501 := ⟨eL_1498, rfl⟩
theorem eL_1501 : decode cL_law 1501 = .ok (.lstore 6, 2) := by decide +kernel
theorem dL_1501 {nm : String} : gd (mL_law nm) 1501 (.lstore 6) 2 1503 := ⟨eL_1501, rfl⟩
theorem eL_1503 : decode cL_law 1503 = .ok (.aload_n 2, 1) := by decide +kernel
theorem dL_1503 {nm : String} : gd (mL_law nm) 1503 (.aload_n 2) 1 1504 := ⟨eL_1503, rfl⟩
theorem eL_1504 : decode cL_law 1504 = .ok (.invokevirtual 197, 3) := by decide +kernel
theorem dL_1504 {nm : String} : gd (mL_law nm) 1504 (.invokevirtual 197) 3 1507 := ⟨eL_1504, rfl⟩
theorem eL_1507 : decode cL_law 1507 = .ok (.iload 5, 2) := by decide +kernel
theorem dL_1507 {nm : String} : gd (mL_law nm) 1507 (.iload 5) 2 1509 := ⟨eL_1507, rfl⟩
theorem eL_1509 : decode cL_law 1509 = .ok (.if_icmp .eq 5, 3) := by decide +kernel
theorem dL_1509 {nm : String} : gj (mL_law nm) 1509 (.if_icmp .eq 5) (5) 1512 1514 := ⟨eL_1509, rfl, by decide⟩
theorem eL_1512 : decode cL_law 1512 = .ok (.iconst 0, 1) := by decide +kernel
theorem dL_1512 {nm : String} : gd (mL_law nm) 1512 (.iconst 0) 1 1513 := ⟨eL_1512, rfl⟩
theorem eL_1513 : decode cL_law 1513 = .ok (.ireturn, 1) := by decide +kernel
theorem eL_1514 : decode cL_law 1514 = .ok (.iload 5, 2) := by decide +kernel
theorem dL_1514 {nm : String} : gd (mL_law nm) 1514 (.iload 5) 2 1516 := ⟨eL_1514, rfl⟩
theorem eL_1516 : decode cL_law 1516 = .ok (.ifCond .ne 14, 3) := by decide +kernel
theorem dL_1516 {nm : String} : gj (mL_law nm) 1516 (.ifCond .ne 14) (14) 1519 1530 := ⟨eL_1516, rfl, by decide⟩
theorem eL_1519 : decode cL_law 1519 = .ok (.aload_n 3, 1) := by decide +kernel
theorem dL_1519 {nm : String} : gd (mL_law nm) 1519 (.aload_n 3) 1 1520 := ⟨eL_1519, rfl⟩
theorem eL_1520 : decode cL_law 1520 = .ok (.iconst 0, 1) := by decide +kernel
theorem dL_1520 {nm : String} : gd (mL_law nm) 1520 (.iconst 0) 1 1521 := ⟨eL_1520, rfl⟩
theorem eL_1521 : decode cL_law 1521 = .ok (.laload, 1) := by decide +kernel
theorem dL_1521 {nm : String} : gd (mL_law nm) 1521 (.laload) 1 1522 := ⟨eL_1521, rfl⟩
theorem eL_1522 : decode cL_law 1522 = .ok (.lload 6, 2) := by decide +kernel
theorem dL_1522 {nm : String} : gd (mL_law nm) 1522 (.lload 6) 2 1524 := ⟨eL_1522, rfl⟩
theorem eL_1524 : decode cL_law 1524 = .ok (.lcmp, 1) := by decide +kernel
theorem dL_1524 {nm : String} : gd (mL_law nm) 1524 (.lcmp) 1 1525 := ⟨eL_1524, rfl⟩
theorem eL_1525 : decode cL_law 1525 = .ok (.ifCond .eq 5, 3) := by decide +kernel
theorem dL_1525 {nm : String} : gj (mL_law nm) 1525 (.ifCond .eq 5) (5) 1528 1530 := ⟨eL_1525, rfl, by decide⟩
theorem eL_1528 : decode cL_law 1528 = .ok (.iconst 0, 1) := by decide +kernel
theorem dL_1528 {nm : String} : gd (mL_law nm) 1528 (.iconst 0) 1 1529 := ⟨eL_1528, rfl⟩
theorem eL_1529 : decode cL_law 1529 = .ok (.ireturn, 1) := by decide +kernel
theorem eL_1530 : decode cL_law 1530 = .ok (.goto 126, 3) := by decide +kernel
theorem dL_1530 {nm : String} : gj (mL_law nm) 1530 (.goto 126) (126) 1533 1656 := ⟨eL_1530, rfl, by decide⟩
theorem eL_1533 : decode cL_law 1533 = .ok (.aload_n 1, 1) := by decide +kernel
theorem dL_1533 {nm : String} : gd (mL_law nm) 1533 (.aload_n 1) 1 1534 := ⟨eL_1533, rfl⟩
theorem eL_1534 : decode cL_law 1534 = .ok (.aload_n 0, 1) := by decide +kernel
theorem dL_1534 {nm : String} : gd (mL_law nm) 1534 (.aload_n 0) 1 1535 := ⟨eL_1534, rfl⟩
theorem eL_1535 : decode cL_law 1535 = .ok (.iload 4, 2) := by decide +kernel
theorem dL_1535 {nm : String} : gd (mL_law nm) 1535 (.iload 4) 2 1537 := ⟨eL_1535, rfl⟩
theorem eL_1537 : decode cL_law 1537 = .ok (.iconst 1, 1) := by decide +kernel
theorem dL_1537 {nm : String} : gd (mL_law nm) 1537 (.iconst 1) 1 1538 := ⟨eL_1537, rfl⟩
theorem eL_1538 : decode cL_law 1538 = .ok (.iadd, 1) := by decide +kernel
theorem dL_1538 {nm : String} : gd (mL_law nm) 1538 (.iadd) 1 1539 := ⟨eL_1538, rfl⟩
theorem eL_1539 : decode cL_law 1539 = .ok (.iaload, 1) := by decide +kernel
theorem dL_1539 {nm : String} : gd (mL_law nm) 1539 (.iaload) 1 1540 := ⟨eL_1539, rfl⟩
theorem eL_1540 : decode cL_law 1540 = .ok (.aload_n 0, 1) := by decide +kernel
theorem dL_1540 {nm : String} : gd (mL_law nm) 1540 (.aload_n 0) 1 1541 := ⟨eL_1540, rfl⟩
theorem eL_1541 : decode cL_law 1541 = .ok (.iload 4, 2) := by decide +kernel
theorem dL_1541 {nm : String} : gd (mL_law nm) 1541 (.iload 4) 2 1543 := ⟨eL_1541, rfl⟩
theorem eL_1543 : decode cL_law 1543 = .ok (.iconst 2, 1) := by decide +kernel
theorem dL_1543 {nm : String} : gd (mL_law nm) 1543 (.iconst 2) 1 1544 := ⟨eL_1543, rfl⟩
theorem eL_1544 : decode cL_law 1544 = .ok (.iadd, 1) := by decide +kernel
theorem dL_1544 {nm : String} : gd (mL_law nm) 1544 (.iadd) 1 1545 := ⟨eL_1544, rfl⟩
theorem eL_1545 : decode cL_law 1545 = .ok (.iaload, 1) := by decide +kernel
theorem dL_1545 {nm : String} : gd (mL_law nm) 1545 (.iaload) 1 1546 := ⟨eL_1545, rfl⟩
theorem eL_1546 : decode cL_law 1546 = .ok (.aload_n 0, 1) := by decide +kernel
theorem dL_1546 {nm : String} : gd (mL_law nm) 1546 (.aload_n 0) 1 1547 := ⟨eL_1546, rfl⟩
theorem eL_1547 : decode cL_law 1547 = .ok (.iload 4, 2) := by decide +kernel
theorem dL_1547 {nm : String} : gd (mL_law nm) 1547 (.iload 4) 2 1549 := ⟨eL_1547, rfl⟩
theorem eL_1549 : decode cL_law 1549 = .ok (.iconst 3, 1) := by decide +kernel
theorem dL_1549 {nm : String} : gd (mL_law nm) 1549 (.iconst 3) 1 1550 := ⟨eL_1549, rfl⟩
theorem eL_1550 : decode cL_law 1550 = .ok (.iadd, 1) := by decide +kernel
theorem dL_1550 {nm : String} : gd (mL_law nm) 1550 (.iadd) 1 1551 := ⟨eL_1550, rfl⟩
theorem eL_1551 : decode cL_law 1551 = .ok (.iaload, 1) := by decide +kernel
theorem dL_1551 {nm : String} : gd (mL_law nm) 1551 (.iaload) 1 1552 := ⟨eL_1551, rfl⟩
theorem eL_1552 : decode cL_law 1552 = .ok (.aload_n 0, 1) := by decide +kernel
theorem dL_1552 {nm : String} : gd (mL_law nm) 1552 (.aload_n 0) 1 1553 := ⟨eL_1552, rfl⟩
theorem eL_1553 : decode cL_law 1553 = .ok (.iload 4, 2) := by decide +kernel
theorem dL_1553 {nm : String} : gd (mL_law nm) 1553 (.iload 4) 2 1555 := ⟨eL_1553, rfl⟩
theorem eL_1555 : decode cL_law 1555 = .ok (.iconst 4, 1) := by decide +kernel
theorem dL_1555 {nm : String} : gd (mL_law nm) 1555 (.iconst 4) 1 1556 := ⟨eL_1555, rfl⟩
theorem eL_1556 : decode cL_law 1556 = .ok (.iadd, 1) := by decide +kernel
theorem dL_1556 {nm : String} : gd (mL_law nm) 1556 (.iadd) 1 1557 := ⟨eL_1556, rfl⟩
theorem eL_1557 : decode cL_law 1557 = .ok (.iaload, 1) := by decide +kernel
theorem dL_1557 {nm : String} : gd (mL_law nm) 1557 (.iaload) 1 1558 := ⟨eL_1557, rfl⟩
theorem eL_1558 : decode cL_law 1558 = .ok (.aload_n 0, 1) := by decide +kernel
theorem dL_1558 {nm : String} : gd (mL_law nm) 1558 (.aload_n 0) 1 1559 := ⟨eL_1558, rfl⟩
theorem eL_1559 : decode cL_law 1559 = .ok (.iload 4, 2) := by decide +kernel
theorem dL_1559 {nm : String} : gd (mL_law nm) 1559 (.iload 4) 2 1561 := ⟨eL_1559, rfl⟩
theorem eL_1561 : decode cL_law 1561 = .ok (.iconst 5, 1) := by decide +kernel
theorem dL_1561 {nm : String} : gd (mL_law nm) 1561 (.iconst 5) 1 1562 := ⟨eL_1561, rfl⟩
theorem eL_1562 : decode cL_law 1562 = .ok (.iadd, 1) := by decide +kernel
theorem dL_1562 {nm : String} : gd (mL_law nm) 1562 (.iadd) 1 1563 := ⟨eL_1562, rfl⟩
theorem eL_1563 : decode cL_law 1563 = .ok (.iaload, 1) := by decide +kernel
theorem dL_1563 {nm : String} : gd (mL_law nm) 1563 (.iaload) 1 1564 := ⟨eL_1563, rfl⟩
theorem eL_1564 : decode cL_law 1564 = .ok (.invokevirtual 200, 3) := by decide +kernel
theorem dL_1564 {nm : String} : gd (mL_law nm) 1564 (.invokevirtual 200) 3 1567 := ⟨eL_1564, rfl⟩
theorem eL_1567 : decode cL_law 1567 = .ok (.aload_n 2, 1) := by decide +kernel
theorem dL_1567 {nm : String} : gd (mL_law nm) 1567 (.aload_n 2) 1 1568 := ⟨eL_1567, rfl⟩
theorem eL_1568 : decode cL_law 1568 = .ok (.aload_n 0, 1) := by decide +kernel
theorem dL_1568 {nm : String} : gd (mL_law nm) 1568 (.aload_n 0) 1 1569 := ⟨eL_1568, rfl⟩
theorem eL_1569 : decode cL_law 1569 = .ok (.iload 4, 2) := by decide +kernel
theorem dL_1569 {nm : String} : gd (mL_law nm) 1569 (.iload 4) 2 1571 := ⟨eL_1569, rfl⟩
theorem eL_1571 : decode cL_law 1571 = .ok (.iconst 1, 1) := by decide +kernel
theorem dL_1571 {nm : String} : gd (mL_law nm) 1571 (.iconst 1) 1 1572 := ⟨eL_1571, rfl⟩
theorem eL_1572 : decode cL_law 1572 = .ok (.iadd, 1) := by decide +kernel
theorem dL_1572 {nm : String} : gd (mL_law nm) 1572 (.iadd) 1 1573 := ⟨eL_1572, rfl⟩
theorem eL_1573 : decode cL_law 1573 = .ok (.iaload, 1) := by decide +kernel
theorem dL_1573 {nm : String} : gd (mL_law nm) 1573 (.iaload) 1 1574 := ⟨eL_1573, rfl⟩
theorem eL_1574 : decode cL_law 1574 = .ok (.aload_n 0, 1) := by decide +kernel
theorem dL_1574 {nm : String} : gd (mL_law nm) 1574 (.aload_n 0) 1 1575 := ⟨eL_1574, rfl⟩
theorem eL_1575 : decode cL_law 1575 = .ok (.iload 4, 2) := by decide +kernel
theorem dL_1575 {nm : String} : gd (mL_law nm) 1575 (.iload 4) 2 1577 := ⟨eL_1575, rfl⟩
theorem eL_1577 : decode cL_law 1577 = .ok (.iconst 2, 1) := by decide +kernel
theorem dL_1577 {nm : String} : gd (mL_law nm) 1577 (.iconst 2) 1 1578 := ⟨eL_1577, rfl⟩
theorem eL_1578 : decode cL_law 1578 = .ok (.iadd, 1) := by decide +kernel
theorem dL_1578 {nm : String} : gd (mL_law nm) 1578 (.iadd) 1 1579 := ⟨eL_1578, rfl⟩
theorem eL_1579 : decode cL_law 1579 = .ok (.iaload, 1) := by decide +kernel
theorem dL_1579 {nm : String} : gd (mL_law nm) 1579 (.iaload) 1 1580 := ⟨eL_1579, rfl⟩
theorem eL_1580 : decode cL_law 1580 = .ok (.aload_n 0, 1) := by decide +kernel
theorem dL_1580 {nm : String} : gd (mL_law nm) 1580 (.aload_n 0) 1 1581 := ⟨eL_1580, rfl⟩
theorem eL_1581 : decode cL_law 1581 = .ok (.iload 4, 2) := by decide +kernel
theorem dL_1581 {nm : String} : gd (mL_law nm) 1581 (.iload 4) 2 1583 := ⟨eL_1581, rfl⟩
theorem eL_1583 : decode cL_law 1583 = .ok (.iconst 3, 1) := by decide +kernel
theorem dL_1583 {nm : String} : gd (mL_law nm) 1583 (.iconst 3) 1 1584 := ⟨eL_1583, rfl⟩
theorem eL_1584 : decode cL_law 1584 = .ok (.iadd, 1) := by decide +kernel
theorem dL_1584 {nm : String} : gd (mL_law nm) 1584 (.iadd) 1 1585 := ⟨eL_1584, rfl⟩
theorem eL_1585 : decode cL_law 1585 = .ok (.iaload, 1) := by decide +kernel
theorem dL_1585 {nm : String} : gd (mL_law nm) 1585 (.iaload) 1 1586 := ⟨eL_1585, rfl⟩
theorem eL_1586 : decode cL_law 1586 = .ok (.aload_n 0, 1) := by decide +kernel
theorem dL_1586 {nm : String} : gd (mL_law nm) 1586 (.aload_n 0) 1 1587 := ⟨eL_1586, rfl⟩
theorem eL_1587 : decode cL_law 1587 = .ok (.iload 4, 2) := by decide +kernel
theorem dL_1587 {nm : String} : gd (mL_law nm) 1587 (.iload 4) 2 1589 := ⟨eL_1587, rfl⟩
theorem eL_1589 : decode cL_law 1589 = .ok (.iconst 4, 1) := by decide +kernel
theorem dL_1589 {nm : String} : gd (mL_law nm) 1589 (.iconst 4) 1 1590 := ⟨eL_1589, rfl⟩
theorem eL_1590 : decode cL_law 1590 = .ok (.iadd, 1) := by decide +kernel
theorem dL_1590 {nm : String} : gd (mL_law nm) 1590 (.iadd) 1 1591 := ⟨eL_1590, rfl⟩
theorem eL_1591 : decode cL_law 1591 = .ok (.iaload, 1) := by decide +kernel
theorem dL_1591 {nm : String} : gd (mL_law nm) 1591 (.iaload) 1 1592 := ⟨eL_1591, rfl⟩
theorem eL_1592 : decode cL_law 1592 = .ok (.aload_n 0, 1) := by decide +kernel
theorem dL_1592 {nm : String} : gd (mL_law nm) 1592 (.aload_n 0) 1 1593 := ⟨eL_1592, rfl⟩
theorem eL_1593 : decode cL_law 1593 = .ok (.iload 4, 2) := by decide +kernel
theorem dL_1593 {nm : String} : gd (mL_law nm) 1593 (.iload 4) 2 1595 := ⟨eL_1593, rfl⟩
theorem eL_1595 : decode cL_law 1595 = .ok (.iconst 5, 1) := by decide +kernel
theorem dL_1595 {nm : String} : gd (mL_law nm) 1595 (.iconst 5) 1 1596 := ⟨eL_1595, rfl⟩
theorem eL_1596 : decode cL_law 1596 = .ok (.iadd, 1) := by decide +kernel
theorem dL_1596 {nm : String} : gd (mL_law nm) 1596 (.iadd) 1 1597 := ⟨eL_1596, rfl⟩
theorem eL_1597 : decode cL_law 1597 = .ok (.iaload, 1) := by decide +kernel
theorem dL_1597 {nm : String} : gd (mL_law nm) 1597 (.iaload) 1 1598 := ⟨eL_1597, rfl⟩
theorem eL_1598 : decode cL_law 1598 = .ok (.invokevirtual 204, 3) := by decide +kernel
theorem dL_1598 {nm : String} : gd (mL_law nm) 1598 (.invokevirtual 204) 3 1601 := ⟨eL_1598, rfl⟩
theorem eL_1601 : decode cL_law 1601 = .ok (.if_icmp .eq 55, 3) := by decide +kernel
theorem dL_1601 {nm : String} : gj (mL_law nm) 1601 (.if_icmp .eq 55) (55) 1604 1656 := ⟨eL_1601, rfl, by decide⟩
theorem eL_1604 : decode cL_law 1604 = .ok (.iconst 0, 1) := by decide +kernel
theorem dL_1604 {nm : String} : gd (mL_law nm) 1604 (.iconst 0) 1 1605 := ⟨eL_1604, rfl⟩
theorem eL_1605 : decode cL_law 1605 = .ok (.ireturn, 1) := by decide +kernel
theorem eL_1606 : decode cL_law 1606 = .ok (.aload_n 1, 1) := by decide +kernel
theorem dL_1606 {nm : String} : gd (mL_law nm) 1606 (.aload_n 1) 1 1607 := ⟨eL_1606, rfl⟩
theorem eL_1607 : decode cL_law 1607 = .ok (.aload_n 0, 1) := by decide +kernel
theorem dL_1607 {nm : String} : gd (mL_law nm) 1607 (.aload_n 0) 1 1608 := ⟨eL_1607, rfl⟩
theorem eL_1608 : decode cL_law 1608 = .ok (.iload 4, 2) := by decide +kernel
theorem dL_1608 {nm : String} : gd (mL_law nm) 1608 (.iload 4) 2 1610 := ⟨eL_1608, rfl⟩
theorem eL_1610 : decode cL_law 1610 = .ok (.iconst 1, 1) := by decide +kernel
theorem dL_1610 {nm : String} : gd (mL_law nm) 1610 (.iconst 1) 1 1611 := ⟨eL_1610, rfl⟩
theorem eL_1611 : decode cL_law 1611 = .ok (.iadd, 1) := by decide +kernel
theorem dL_1611 {nm : String} : gd (mL_law nm) 1611 (.iadd) 1 1612 := ⟨eL_1611, rfl⟩
theorem eL_1612 : decode cL_law 1612 = .ok (.iaload, 1) := by decide +kernel
theorem dL_1612 {nm : String} : gd (mL_law nm) 1612 (.iaload) 1 1613 := ⟨eL_1612, rfl⟩
theorem eL_1613 : decode cL_law 1613 = .ok (.invokevirtual 205, 3) := by decide +kernel
theorem dL_1613 {nm : String} : gd (mL_law nm) 1613 (.invokevirtual 205) 3 1616 := ⟨eL_1613, rfl⟩
theorem eL_1616 : decode cL_law 1616 = .ok (.aload_n 2, 1) := by decide +kernel
theorem dL_1616 {nm : String} : gd (mL_law nm) 1616 (.aload_n 2) 1 1617 := ⟨eL_1616, rfl⟩
theorem eL_1617 : decode cL_law 1617 = .ok (.aload_n 0, 1) := by decide +kernel
theorem dL_1617 {nm : String} : gd (mL_law nm) 1617 (.aload_n 0) 1 1618 := ⟨eL_1617, rfl⟩
theorem eL_1618 : decode cL_law 1618 = .ok (.iload 4, 2) := by decide +kernel
theorem dL_1618 {nm : String} : gd (mL_law nm) 1618 (.iload 4) 2 1620 := ⟨eL_1618, rfl⟩
theorem eL_1620 : decode cL_law 1620 = .ok (.iconst 1, 1) := by decide +kernel
theorem dL_1620 {nm : String} : gd (mL_law nm) 1620 (.iconst 1) 1 1621 := ⟨eL_1620, rfl⟩
theorem eL_1621 : decode cL_law 1621 = .ok (.iadd, 1) := by decide +kernel
theorem dL_1621 {nm : String} : gd (mL_law nm) 1621 (.iadd) 1 1622 := ⟨eL_1621, rfl⟩
theorem eL_1622 : decode cL_law 1622 = .ok (.iaload, 1) := by decide +kernel
theorem dL_1622 {nm : String} : gd (mL_law nm) 1622 (.iaload) 1 1623 := ⟨eL_1622, rfl⟩
theorem eL_1623 : decode cL_law 1623 = .ok (.invokevirtual 208, 3) := by decide +kernel
theorem dL_1623 {nm : String} : gd (mL_law nm) 1623 (.invokevirtual 208) 3 1626 := ⟨eL_1623, rfl⟩
theorem eL_1626 : decode cL_law 1626 = .ok (.if_icmp .eq 30, 3) := by decide +kernel
theorem dL_1626 {nm : String} : gj (mL_law nm) 1626 (.if_icmp .eq 30) (30) 1629 1656 := ⟨eL_1626, rfl, by decide⟩
theorem eL_1629 : decode cL_law 1629 = .ok (.iconst 0, 1) := by decide +kernel
theorem dL_1629 {nm : String} : gd (mL_law nm) 1629 (.iconst 0) 1 1630 := ⟨eL_1629, rfl⟩
theorem eL_1630 : decode cL_law 1630 = .ok (.ireturn, 1) := by decide +kernel
theorem eL_1631 : decode cL_law 1631 = .ok (.aload_n 1, 1) := by decide +kernel
theorem dL_1631 {nm : String} : gd (mL_law nm) 1631 (.aload_n 1) 1 1632 := ⟨eL_1631, rfl⟩
theorem eL_1632 : decode cL_law 1632 = .ok (.aload_n 0, 1) := by decide +kernel
theorem dL_1632 {nm : String} : gd (mL_law nm) 1632 (.aload_n 0) 1 1633 := ⟨eL_1632, rfl⟩
theorem eL_1633 : decode cL_law 1633 = .ok (.iload 4, 2) := by decide +kernel
theorem dL_1633 {nm : String} : gd (mL_law nm) 1633 (.iload 4) 2 1635 := ⟨eL_1633, rfl⟩
theorem eL_1635 : decode cL_law 1635 = .ok (.iconst 1, 1) := by decide +kernel
theorem dL_1635 {nm : String} : gd (mL_law nm) 1635 (.iconst 1) 1 1636 := ⟨eL_1635, rfl⟩
theorem eL_1636 : decode cL_law 1636 = .ok (.iadd, 1) := by decide +kernel
theorem dL_1636 {nm : String} : gd (mL_law nm) 1636 (.iadd) 1 1637 := ⟨eL_1636, rfl⟩
theorem eL_1637 : decode cL_law 1637 = .ok (.iaload, 1) := by decide +kernel
theorem dL_1637 {nm : String} : gd (mL_law nm) 1637 (.iaload) 1 1638 := ⟨eL_1637, rfl⟩
theorem eL_1638 : decode cL_law 1638 = .ok (.invokevirtual 209, 3) := by decide +kernel
theorem dL_1638 {nm : String} : gd (mL_law nm) 1638 (.invokevirtual 209) 3 1641 := ⟨eL_1638, rfl⟩
theorem eL_1641 : decode cL_law 1641 = .ok (.aload_n 2, 1) := by decide +kernel
theorem dL_1641 {nm : String} : gd (mL_law nm) 1641 (.aload_n 2) 1 1642 := ⟨eL_1641, rfl⟩
theorem eL_1642 : decode cL_law 1642 = .ok (.aload_n 0, 1) := by decide +kernel
theorem dL_1642 {nm : String} : gd (mL_law nm) 1642 (.aload_n 0) 1 1643 := ⟨eL_1642, rfl⟩
theorem eL_1643 : decode cL_law 1643 = .ok (.iload 4, 2) := by decide +kernel
theorem dL_1643 {nm : String} : gd (mL_law nm) 1643 (.iload 4) 2 1645 := ⟨eL_1643, rfl⟩
theorem eL_1645 : decode cL_law 1645 = .ok (.iconst 1, 1) := by decide +kernel
theorem dL_1645 {nm : String} : gd (mL_law nm) 1645 (.iconst 1) 1 1646 := ⟨eL_1645, rfl⟩
theorem eL_1646 : decode cL_law 1646 = .ok (.iadd, 1) := by decide +kernel
theorem dL_1646 {nm : String} : gd (mL_law nm) 1646 (.iadd) 1 1647 := ⟨eL_1646, rfl⟩
theorem eL_1647 : decode cL_law 1647 = .ok (.iaload, 1) := by decide +kernel
theorem dL_1647 {nm : String} : gd (mL_law nm) 1647 (.iaload) 1 1648 := ⟨eL_1647, rfl⟩
theorem eL_1648 : decode cL_law 1648 = .ok (.invokevirtual 212, 3) := by decide +kernel
theorem dL_1648 {nm : String} : gd (mL_law nm) 1648 (.invokevirtual 212) 3 1651 := ⟨eL_1648, rfl⟩
theorem eL_1651 : decode cL_law 1651 = .ok (.if_icmp .eq 5, 3) := by decide +kernel
theorem dL_1651 {nm : String} : gj (mL_law nm) 1651 (.if_icmp .eq 5) (5) 1654 1656 := ⟨eL_1651, rfl, by decide⟩
theorem eL_1654 : decode cL_law 1654 = .ok (.iconst 0, 1) := by decide +kernel
theorem dL_1654 {nm : String} : gd (mL_law nm) 1654 (.iconst 0) 1 1655 := ⟨eL_1654, rfl⟩
theorem eL_1655 : decode cL_law 1655 = .ok (.ireturn, 1) := by decide +kernel
theorem eL_1656 : decode cL_law 1656 = .ok (.iinc 4 6, 3) := by decide +kernel
theorem dL_1656 {nm : String} : gd (mL_law nm) 1656 (.iinc 4 6) 3 1659 := ⟨eL_1656, rfl⟩
theorem eL_1659 : decode cL_law 1659 = .ok (.goto (-1636), 3) := by decide +kernel
theorem dL_1659 {nm : String} : gj (mL_law nm) 1659 (.goto (-1636)) (-1636) 1662 23 := ⟨eL_1659, rfl, by decide⟩
theorem eL_1662 : decode cL_law 1662 = .ok (.iconst 1, 1) := by decide +kernel
theorem dL_1662 {nm : String} : gd (mL_law nm) 1662 (.iconst 1) 1 1663 := ⟨eL_1662, rfl⟩
theorem eL_1663 : decode cL_law 1663 = .ok (.ireturn, 1) := by decide +kernel
