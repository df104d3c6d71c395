theorem om_304 {a0 : Int} (h0 : 0 ≤ a0 ∧ a0 ≤ 1200) : (0 : Int) ≤ a0 := by omega
theorem om_305 {a0 : Int} (h0 : (¬ (3 : Int) = 3 ∨ (0 ≤ a0 ∧ a0 ≤ 9)) ∧ (¬ (3 : Int) = 4 ∨ (0 ≤ a0 ∧ a0 ≤ 8)) ∧ (¬ (13 ≤ (3 : Int) ∧ (3 : Int) ≤ 21) ∨ (0 ≤ a0 ∧ a0 ≤ 8 ∧ (a0 = 0 ∨ a0 < (3 : Int) - 13))) ∧ (¬ (22 ≤ (3 : Int) ∧ (3 : Int) ≤ 30) ∨ (0 ≤ a0 ∧ a0 ≤ 3)) ∧ (¬ (58 ≤ (3 : Int) ∧ (3 : Int) ≤ 66) ∨ (0 ≤ a0 ∧ a0 ≤ 9)) ∧ (¬ (67 ≤ (3 : Int) ∧ (3 : Int) ≤ 70) ∨ (a0 = 0))) : 0 ≤ a0 ∧ a0 ≤ 9 := by omega
theorem om_306 {a0 : Int} (h0 : (103 : Int) ≤ a0) : 3 < a0 := by omega
theorem om_307 {a0 : Int} (h0 : (¬ (0 : Int) = 0 ∨ (0 ≤ a0 ∧ a0 ≤ 255)) ∧ (¬ (2 ≤ (0 : Int) ∧ (0 : Int) ≤ 10) ∨ (0 ≤ a0 ∧ a0 ≤ 1))) : 0 ≤ a0 ∧ a0 ≤ 255 := by omega
theorem om_308 {a0 : Int} (h0 : (21 : Int) ≤ a0) : 0 < a0 := by omega
theorem om_309 {a0 : Int} (h0 : a0 = (0 : Int)) (h1 : 0 ≤ a0 ∧ a0 ≤ 5) : 0 ≤ a0 ∧ a0 ≤ 5 := by omega
theorem om_310 {a0 : Int} (h0 : 0 ≤ a0 ∧ a0 ≤ 9) (h1 : 1 ≤ a0) : 0 ≤ a0 ∧ a0 ≤ 9 := by omega
theorem om_311 {a0 : Int} (h0 : 1 ≤ a0) : (((1 : Int) = 0 ∧ a0 = 0) ∨ ((1 : Int) = 1 ∧ 1 ≤ a0)) := by omega
theorem om_312 {a0 a1 : Int} (h0 : (a0 ≤ a1 ∧ (0 : Int) ≤ a0)) : a0 ≤ a1 := by omega
theorem om_313 {a0 : Int} (h0 : ¬ ((21 : Int) ≤ a0)) (h1 : 0 ≤ a0 ∧ a0 ≤ 21) : 0 ≤ a0 ∧ a0 < 21 := by omega
theorem om_314 {a0 : Int} (h0 : 0 ≤ a0 ∧ a0 ≤ 21) : (0 : Int) ≤ a0 := by omega
theorem om_315 {a0 a1 : Int} (h0 : (¬ a0 = 0 ∨ (0 ≤ a1 ∧ a1 ≤ 0)) ∧ (¬ (2 ≤ a0 ∧ a0 ≤ 10) ∨ (0 ≤ a1 ∧ a1 ≤ 1))) (h1 : 0 ≤ a0 ∧ a0 ≤ 21) : (0 : Int) ≤ a0 ∧ (¬ a0 = 0 ∨ (0 ≤ a1 ∧ a1 ≤ 255)) ∧ (¬ (2 ≤ a0 ∧ a0 ≤ 10) ∨ (0 ≤ a1 ∧ a1 ≤ 1)) := by omega
theorem om_316 {a0 : Int} (h0 : ¬ ((21 : Int) ≤ a0)) (h1 : 0 ≤ a0 ∧ a0 ≤ 21) : -2147483648 ≤ a0 + 1 ∧ a0 + 1 < 2147483648 := by omega
theorem om_317 {a0 a1 : Int} (h0 : ¬ ((21 : Int) ≤ a1)) (h1 : a0 = a1 + 1) (h2 : 0 ≤ a1 ∧ a1 ≤ 21) : 0 ≤ a0 ∧ a0 ≤ 21 := by omega
theorem om_318 {a0 a1 : Int} (h0 : a0 = a1 + 1) : a0 = a1 + 1 := by omega
theorem om_319 {a0 : Int} (h0 : 0 ≤ a0 ∧ a0 ≤ 9) : a0 ≤ 9 := by omega
theorem om_320 {a0 a1 : Int} (h0 : (¬ a1 = 0 ∨ (0 ≤ a0 ∧ a0 ≤ 0)) ∧ (¬ (2 ≤ a1 ∧ a1 ≤ 10) ∨ (0 ≤ a0 ∧ a0 ≤ 1))) (h1 : 0 ≤ a1 ∧ a1 ≤ 21) (h2 : a1 = 0) : a0 ≤ 0 := by omega
theorem om_321 {a0 : Int} (h0 : 0 ≤ a0 ∧ a0 ≤ 103) : (0 : Int) ≤ a0 := by omega
theorem om_322 {a0 a1 a2 a3 : Int} (h0 : ¬ ((103 : Int) ≤ a0)) (h1 : (¬ a0 = 3 ∨ a1 = a2)) (h2 : (¬ a0 = 4 ∨ a1 = a3)) (h3 : (¬ a0 = 3 ∨ (0 ≤ a1 ∧ a1 ≤ 9)) ∧ (¬ a0 = 4 ∨ (0 ≤ a1 ∧ a1 ≤ 8)) ∧ (¬ (13 ≤ a0 ∧ a0 ≤ 21) ∨ (0 ≤ a1 ∧ a1 ≤ 8 ∧ (a1 = 0 ∨ a1 < a0 - 13))) ∧ (¬ (22 ≤ a0 ∧ a0 ≤ 30) ∨ (0 ≤ a1 ∧ a1 ≤ 3)) ∧ (¬ (58 ≤ a0 ∧ a0 ≤ 66) ∨ (0 ≤ a1 ∧ a1 ≤ 9)) ∧ (¬ (67 ≤ a0 ∧ a0 ≤ 70) ∨ (a1 = 0))) (h4 : 1 ≤ a2 ∧ a2 ≤ 9) (h5 : 0 ≤ a3 ∧ a3 ≤ 8) (h6 : 1 ≤ a2) (h7 : 0 ≤ a0 ∧ a0 ≤ 103) : (0 : Int) ≤ a0 ∧ (¬ a0 = 3 ∨ (0 ≤ a1 ∧ a1 ≤ 9)) ∧ (¬ a0 = 4 ∨ (0 ≤ a1 ∧ a1 ≤ 8)) ∧ (¬ (13 ≤ a0 ∧ a0 ≤ 21) ∨ (0 ≤ a1 ∧ a1 ≤ 8 ∧ (a1 = 0 ∨ a1 < a0 - 13))) ∧ (¬ (22 ≤ a0 ∧ a0 ≤ 30) ∨ (0 ≤ a1 ∧ a1 ≤ 3)) ∧ (¬ (58 ≤ a0 ∧ a0 ≤ 66) ∨ (0 ≤ a1 ∧ a1 ≤ 9)) ∧ (¬ (67 ≤ a0 ∧ a0 ≤ 70) ∨ (a1 = 0)) := by omega
theorem om_323 {a0 a1 a2 : Int} (h0 : (¬ a0 = 3 ∨ a1 = a2)) (h1 : 1 ≤ a2 ∧ a2 ≤ 9) (h2 : 0 ≤ a0 ∧ a0 ≤ 103) : (0 : Int) ≤ a0 ∧ (¬ a0 = 3 ∨ 1 ≤ a1) := by omega
theorem om_324 {a0 a1 : Int} (h0 : 0 ≤ a1 ∧ a1 ≤ 9) (h1 : 0 ≤ a0 ∧ a0 ≤ 1) (h2 : ((a0 = 0 ∧ a1 = 0) ∨ (a0 = 1 ∧ 1 ≤ a1))) : ((a0 = 0 ∧ a1 = 0) ∨ (a0 = 1 ∧ 1 ≤ a1)) := by omega
theorem om_325 {a0 a1 : Int} (h0 : a0 = (0 : Int)) (h1 : 0 ≤ a0 ∧ a0 ≤ 1) : ((a0 = 0 ∧ (0 : Int) = 0) ∨ (a0 = 1 ∧ (0 : Int) = a1)) := by omega
theorem om_326 {a0 a1 : Int} (h0 : ¬ (a0 = (0 : Int))) (h1 : 0 ≤ a0 ∧ a0 ≤ 1) : ((a0 = 0 ∧ a1 = 0) ∨ (a0 = 1 ∧ a1 = a1)) := by omega
theorem om_327 {a0 a1 : Int} (h0 : a0 = (0 : Int)) (h1 : 0 ≤ a0 ∧ a0 ≤ 1) : ((a0 = 0 ∧ (0 : Int) = 0) ∨ (a0 = 1 ∧ (0 : Int) = a1 - 1)) := by omega
theorem om_328 {a0 : Int} (h0 : 0 ≤ a0 ∧ a0 ≤ 9) : -2147483648 ≤ a0 - (1 : Int) ∧ a0 - (1 : Int) < 2147483648 := by omega
theorem om_329 {a0 a1 a2 : Int} (h0 : ¬ (a1 = (0 : Int))) (h1 : a0 = a2 - (1 : Int)) (h2 : 0 ≤ a2 ∧ a2 ≤ 9) (h3 : ((a1 = 0 ∧ a2 = 0) ∨ (a1 = 1 ∧ 1 ≤ a2))) (h4 : 0 ≤ a1 ∧ a1 ≤ 1) : 0 ≤ a0 ∧ a0 ≤ 8 := by omega
theorem om_330 {a0 a1 a2 : Int} (h0 : ¬ (a0 = (0 : Int))) (h1 : a1 = a2 - (1 : Int)) (h2 : 0 ≤ a0 ∧ a0 ≤ 1) : ((a0 = 0 ∧ a1 = 0) ∨ (a0 = 1 ∧ a1 = a2 - 1)) := by omega
theorem om_331 {a0 a1 : Int} (h0 : 0 ≤ a1 ∧ a1 ≤ 9) (h1 : ((a0 = 0 ∧ a1 = 0) ∨ (a0 = 1 ∧ 1 ≤ a1))) (h2 : 0 ≤ a0 ∧ a0 ≤ 1) : ((a0 = 0 ∧ a1 = 0) ∨ (a0 = 1 ∧ 1 ≤ a1)) := by omega
theorem om_332 {a0 : Int} (h0 : 0 ≤ a0 ∧ a0 ≤ 8) : (0 : Int) ≤ a0 ∧ (a0 : Int) ≤ 8 := by omega
theorem om_333 {a0 a1 : Int} (h0 : -2147483648 ≤ a0 ∧ a0 < 2147483648) (h1 : ((a1 = 0 ∧ a0 = 1) ∨ (a1 = 1 ∧ a0 = 2) ∨ (a1 = 2 ∧ a0 = 4) ∨ (a1 = 3 ∧ a0 = 8) ∨ (a1 = 4 ∧ a0 = 16) ∨ (a1 = 5 ∧ a0 = 32) ∨ (a1 = 6 ∧ a0 = 64) ∨ (a1 = 7 ∧ a0 = 128) ∨ (a1 = 8 ∧ a0 = 256))) : -2147483648 ≤ a0 - (1 : Int) ∧ a0 - (1 : Int) < 2147483648 := by omega
theorem om_334 {a0 a1 a2 : Int} (h0 : ((a1 = 0 ∧ a2 = 1) ∨ (a1 = 1 ∧ a2 = 2) ∨ (a1 = 2 ∧ a2 = 4) ∨ (a1 = 3 ∧ a2 = 8) ∨ (a1 = 4 ∧ a2 = 16) ∨ (a1 = 5 ∧ a2 = 32) ∨ (a1 = 6 ∧ a2 = 64) ∨ (a1 = 7 ∧ a2 = 128) ∨ (a1 = 8 ∧ a2 = 256))) (h1 : a0 = a2 - (1 : Int)) : 0 ≤ a0 ∧ a0 ≤ 255 := by omega
theorem om_335 {a0 a1 : Int} (h0 : a0 = a1 - (1 : Int)) : a0 = a1 - 1 := by omega
theorem om_336 {a0 a1 a2 : Int} (h0 : 0 ≤ a0 ∧ a0 ≤ 8) (h1 : ((a2 = 0 ∧ a0 = 0) ∨ (a2 = 1 ∧ a0 = a1 - 1))) (h2 : ((a2 = 0 ∧ a1 = 0) ∨ (a2 = 1 ∧ 1 ≤ a1))) : (0 : Int) ≤ a0 ∧ a0 ≤ 8 ∧ ((a1 ≤ 1 ∧ a0 = 0) ∨ a0 = a1 - 1) := by omega
theorem om_337 {a0 a1 a2 a3 a4 a5 : Int} (h0 : a4 = a5 - (1 : Int)) (h1 : 0 ≤ a5 ∧ a5 ≤ 9) (h2 : ((a3 = 0 ∧ a5 = 0) ∨ (a3 = 1 ∧ a5 = a2))) (h3 : 0 ≤ a0 ∧ a0 ≤ 1) (h4 : (a0 = 0 ∨ ((0 : Int) ≤ a1 ∧ a1 ≤ a4))) (h5 : 0 ≤ a3 ∧ a3 ≤ 1) : (a0 = 0 ∨ (0 ≤ a1 ∧ a1 ≤ 8 ∧ a1 < a2 ∧ a3 = 1 ∧ 1 ≤ a2)) := by omega
theorem om_338 {a0 a1 a2 a3 a4 : Int} (h0 : 0 ≤ a4 ∧ a4 ≤ 8) (h1 : ((a3 = 0 ∧ a4 = 0) ∨ (a3 = 1 ∧ a4 = a2 - 1))) (h2 : 0 ≤ a0 ∧ a0 ≤ 1) (h3 : (a0 = 0 ∨ ((1 : Int) ≤ a1 ∧ a1 ≤ a4))) (h4 : 0 ≤ a3 ∧ a3 ≤ 1) : (a0 = 0 ∨ (1 ≤ a1 ∧ a1 ≤ 8 ∧ a1 < a2 ∧ a3 = 1 ∧ 2 ≤ a2)) := by omega
theorem om_339 {a0 a1 a2 : Int}  : ((0 : Int) = 0 ∨ (0 ≤ a0 ∧ a0 ≤ 255 ∧ a1 = 1 ∧ 1 ≤ a2)) := by omega
theorem om_340 {a0 a1 : Int} (h0 : ¬ (a0 = (0 : Int))) (h1 : ((a0 = 0 ∧ a1 = 0) ∨ (a0 = 1 ∧ 1 ≤ a1))) (h2 : 0 ≤ a0 ∧ a0 ≤ 1) : ((a0 = 0 ∧ a1 = 0) ∨ (a0 = 1 ∧ 1 ≤ a1)) := by omega
theorem om_341 {a0 a1 a2 a3 a4 : Int} (h0 : ¬ (a1 = (0 : Int))) (h1 : ¬ (a3 = (0 : Int))) (h2 : 0 ≤ a4 ∧ a4 ≤ 255) (h3 : 0 ≤ a3 ∧ a3 ≤ 1) (h4 : (a3 = 0 ∨ ((0 : Int) ≤ a0 ∧ a0 ≤ a4))) (h5 : ((a1 = 0 ∧ a2 = 0) ∨ (a1 = 1 ∧ 1 ≤ a2))) (h6 : 0 ≤ a1 ∧ a1 ≤ 1) : ((1 : Int) = 0 ∨ (0 ≤ a0 ∧ a0 ≤ 255 ∧ a1 = 1 ∧ 1 ≤ a2)) := by omega
theorem om_342 {a0 a1 a2 : Int} (h0 : ¬ (a2 = (0 : Int))) (h1 : 0 ≤ a2 ∧ a2 ≤ 1) (h2 : (a2 = 0 ∨ ((0 : Int) ≤ a0 ∧ a0 ≤ a1))) : a0 ≤ a1 := by omega
theorem om_343 {a0 a1 a2 a3 : Int} (h0 : ¬ (a1 = (0 : Int))) (h1 : 0 ≤ a1 ∧ a1 ≤ 1) (h2 : (a1 = 0 ∨ (0 ≤ a0 ∧ a0 ≤ 8 ∧ a0 < a2 ∧ a3 = 1 ∧ 1 ≤ a2))) : -2147483648 ≤ (4 : Int) * a0 ∧ (4 : Int) * a0 < 2147483648 := by omega
theorem om_344 {a0 a1 a2 a3 a4 : Int} (h0 : -2147483648 ≤ a0 ∧ a0 < 2147483648) (h1 : ¬ (a1 = (0 : Int))) (h2 : a0 = (4 : Int) * a2) (h3 : 0 ≤ a1 ∧ a1 ≤ 1) (h4 : (a1 = 0 ∨ (0 ≤ a2 ∧ a2 ≤ 8 ∧ a2 < a3 ∧ a4 = 1 ∧ 1 ≤ a3))) : -2147483648 ≤ (67 : Int) + a0 ∧ (67 : Int) + a0 < 2147483648 := by omega
theorem om_345 {a0 a1 a2 a3 a4 a5 a6 a7 : Int} (h0 : ¬ (a2 = (0 : Int))) (h1 : ¬ (a3 = (0 : Int))) (h2 : a4 = (4 : Int) * a5) (h3 : a0 = (67 : Int) + a4) (h4 : 0 ≤ a2 ∧ a2 ≤ 1) (h5 : (a2 = 0 ∨ (0 ≤ a5 ∧ a5 ≤ 8 ∧ a5 < a6 ∧ a7 = 1 ∧ 1 ≤ a6))) (h6 : 0 ≤ a3 ∧ a3 ≤ 1) (h7 : (a3 = 0 ∨ ((0 : Int) ≤ a1 ∧ a1 ≤ (3 : Int)))) : -2147483648 ≤ a0 + a1 ∧ a0 + a1 < 2147483648 := by omega
theorem om_346 {a0 a1 a2 a3 a4 a5 a6 a7 a8 : Int} (h0 : ¬ (a1 = (0 : Int))) (h1 : ¬ (a2 = (0 : Int))) (h2 : a3 = (4 : Int) * a4) (h3 : a5 = (67 : Int) + a3) (h4 : a0 = a5 + a6) (h5 : 0 ≤ a1 ∧ a1 ≤ 1) (h6 : (a1 = 0 ∨ (0 ≤ a4 ∧ a4 ≤ 8 ∧ a4 < a7 ∧ a8 = 1 ∧ 1 ≤ a7))) (h7 : 0 ≤ a2 ∧ a2 ≤ 1) (h8 : (a2 = 0 ∨ ((0 : Int) ≤ a6 ∧ a6 ≤ (3 : Int)))) : 0 ≤ a0 ∧ a0 < 103 := by omega
theorem om_347 {a0 a1 a2 a3 a4 a5 a6 a7 a8 : Int} (h0 : ¬ (a1 = (0 : Int))) (h1 : ¬ (a2 = (0 : Int))) (h2 : a3 = (4 : Int) * a4) (h3 : a5 = (67 : Int) + a3) (h4 : a0 = a5 + a6) (h5 : 0 ≤ a1 ∧ a1 ≤ 1) (h6 : (a1 = 0 ∨ (0 ≤ a4 ∧ a4 ≤ 8 ∧ a4 < a7 ∧ a8 = 1 ∧ 1 ≤ a7))) (h7 : 0 ≤ a2 ∧ a2 ≤ 1) (h8 : (a2 = 0 ∨ ((0 : Int) ≤ a6 ∧ a6 ≤ (3 : Int)))) : (0 : Int) ≤ a0 := by omega
theorem om_348 {a0 : Int} (h0 : 0 ≤ a0 ∧ a0 ≤ 9) : -2147483648 ≤ (11 : Int) + a0 ∧ (11 : Int) + a0 < 2147483648 := by omega
theorem om_349 {a0 a1 : Int} (h0 : a0 = (11 : Int) + a1) (h1 : 0 ≤ a1 ∧ a1 ≤ 9) : 0 ≤ a0 ∧ a0 < 21 := by omega
theorem om_350 {a0 a1 : Int} (h0 : a0 = (11 : Int) + a1) (h1 : 0 ≤ a1 ∧ a1 ≤ 9) : (0 : Int) ≤ a0 := by omega
theorem om_351 {a0 : Int} (h0 : 0 ≤ a0 ∧ a0 ≤ 9) : -2147483648 ≤ (2 : Int) * a0 ∧ (2 : Int) * a0 < 2147483648 := by omega
theorem om_352 {a0 : Int} (h0 : ¬ (a0 ≤ (0 : Int))) (h1 : 0 ≤ a0 ∧ a0 ≤ 8) : -2147483648 ≤ (49 : Int) + a0 ∧ (49 : Int) + a0 < 2147483648 := by omega
theorem om_353 {a0 a1 : Int} (h0 : ¬ (a1 ≤ (0 : Int))) (h1 : a0 = (49 : Int) + a1) (h2 : 0 ≤ a1 ∧ a1 ≤ 8) : 0 ≤ a0 ∧ a0 < 103 := by omega
theorem om_354 {a0 : Int} (h0 : ¬ (a0 ≤ (0 : Int))) (h1 : 0 ≤ a0 ∧ a0 ≤ 8) : -2147483648 ≤ (58 : Int) + a0 ∧ (58 : Int) + a0 < 2147483648 := by omega
theorem om_355 {a0 a1 : Int} (h0 : ¬ (a1 ≤ (0 : Int))) (h1 : a0 = (58 : Int) + a1) (h2 : 0 ≤ a1 ∧ a1 ≤ 8) : 0 ≤ a0 ∧ a0 < 103 := by omega
theorem om_356 {a0 a1 : Int} (h0 : a0 = (58 : Int) + a1) (h1 : 0 ≤ a1 ∧ a1 ≤ 8) : (0 : Int) ≤ a0 := by omega
theorem om_357 {a0 a1 : Int} (h0 : ¬ (a1 ≤ (0 : Int))) (h1 : a0 = (58 : Int) + a1) (h2 : 0 ≤ a1 ∧ a1 ≤ 8) : (58 ≤ a0 ∧ a0 ≤ 66) := by omega
theorem om_358 {a0 : Int} (h0 : ¬ (a0 ≤ (0 : Int))) (h1 : 0 ≤ a0 ∧ a0 ≤ 8) : -2147483648 ≤ (13 : Int) + a0 ∧ (13 : Int) + a0 < 2147483648 := by omega
theorem om_359 {a0 a1 : Int} (h0 : ¬ (a1 ≤ (0 : Int))) (h1 : a0 = (13 : Int) + a1) (h2 : 0 ≤ a1 ∧ a1 ≤ 8) : 0 ≤ a0 ∧ a0 < 103 := by omega
theorem om_360 {a0 a1 : Int} (h0 : a0 = (13 : Int) + a1) (h1 : 0 ≤ a1 ∧ a1 ≤ 8) : (0 : Int) ≤ a0 := by omega
theorem om_361 {a0 a1 : Int} (h0 : ¬ (a1 ≤ (0 : Int))) (h1 : a0 = (13 : Int) + a1) (h2 : 0 ≤ a1 ∧ a1 ≤ 8) : (13 ≤ a0 ∧ a0 ≤ 21) := by omega
theorem om_362 {a0 a1 : Int} (h0 : 0 ≤ a0 ∧ a0 ≤ 8 ∧ (a0 = 0 ∨ a0 < a1 - 13)) : 0 ≤ a0 ∧ a0 ≤ 8 := by omega
theorem om_363 {a0 a1 a2 : Int} (h0 : ¬ (a1 ≤ (0 : Int))) (h1 : a2 = (13 : Int) + a1) (h2 : 0 ≤ a0 ∧ a0 ≤ 8 ∧ (a0 = 0 ∨ a0 < a2 - 13)) : (a0).toNat < (a1).toNat := by omega
theorem om_364 {a0 a1 : Int} (h0 : ¬ (a1 ≤ a0)) (h1 : 0 ≤ a1 ∧ a1 ≤ 9) (h2 : 1 ≤ a0 ∧ a0 ≤ 9) : -2147483648 ≤ (13 : Int) + a0 ∧ (13 : Int) + a0 < 2147483648 := by omega
theorem om_365 {a0 a1 a2 : Int} (h0 : ¬ (a1 ≤ a2)) (h1 : a0 = (13 : Int) + a2) (h2 : 0 ≤ a1 ∧ a1 ≤ 9) (h3 : 1 ≤ a2 ∧ a2 ≤ 9) : 0 ≤ a0 ∧ a0 < 103 := by omega
theorem om_366 {a0 a1 : Int} (h0 : a0 = (13 : Int) + a1) (h1 : 1 ≤ a1 ∧ a1 ≤ 9) : (0 : Int) ≤ a0 := by omega
theorem om_367 {a0 a1 a2 : Int} (h0 : ¬ (a1 ≤ a2)) (h1 : a0 = (13 : Int) + a2) (h2 : 0 ≤ a1 ∧ a1 ≤ 9) (h3 : 1 ≤ a2 ∧ a2 ≤ 9) : (13 ≤ a0 ∧ a0 ≤ 21) := by omega
theorem om_368 {a0 a1 a2 a3 : Int} (h0 : -2147483648 ≤ a0 ∧ a0 < 2147483648) (h1 : ¬ (a1 = (0 : Int))) (h2 : 0 ≤ a1 ∧ a1 ≤ 1) (h3 : (a1 = 0 ∨ (1 ≤ a0 ∧ a0 ≤ 8 ∧ a0 < a2 ∧ a3 = 1 ∧ 2 ≤ a2))) : -2147483648 ≤ (13 : Int) + a0 ∧ (13 : Int) + a0 < 2147483648 := by omega
theorem om_369 {a0 a1 a2 a3 a4 : Int} (h0 : ¬ (a1 = (0 : Int))) (h1 : a0 = (13 : Int) + a2) (h2 : 0 ≤ a1 ∧ a1 ≤ 1) (h3 : (a1 = 0 ∨ (1 ≤ a2 ∧ a2 ≤ 8 ∧ a2 < a3 ∧ a4 = 1 ∧ 2 ≤ a3))) : 0 ≤ a0 ∧ a0 < 103 := by omega
theorem om_370 {a0 a1 a2 a3 a4 : Int} (h0 : ¬ (a1 = (0 : Int))) (h1 : a0 = (13 : Int) + a2) (h2 : 0 ≤ a1 ∧ a1 ≤ 1) (h3 : (a1 = 0 ∨ (1 ≤ a2 ∧ a2 ≤ 8 ∧ a2 < a3 ∧ a4 = 1 ∧ 2 ≤ a3))) : (0 : Int) ≤ a0 := by omega
theorem om_371 {a0 a1 a2 a3 a4 : Int} (h0 : ¬ (a1 = (0 : Int))) (h1 : a0 = (13 : Int) + a2) (h2 : 0 ≤ a1 ∧ a1 ≤ 1) (h3 : (a1 = 0 ∨ (1 ≤ a2 ∧ a2 ≤ 8 ∧ a2 < a3 ∧ a4 = 1 ∧ 2 ≤ a3))) : (13 ≤ a0 ∧ a0 ≤ 21) := by omega
theorem om_372 {a0 a1 a2 a3 : Int} (h0 : -2147483648 ≤ a0 ∧ a0 < 2147483648) (h1 : ¬ (a1 = (0 : Int))) (h2 : 0 ≤ a1 ∧ a1 ≤ 1) (h3 : (a1 = 0 ∨ (1 ≤ a0 ∧ a0 ≤ 8 ∧ a0 < a2 ∧ a3 = 1 ∧ 2 ≤ a2))) : -2147483648 ≤ (22 : Int) + a0 ∧ (22 : Int) + a0 < 2147483648 := by omega
theorem om_373 {a0 a1 a2 a3 a4 : Int} (h0 : ¬ (a1 = (0 : Int))) (h1 : a0 = (22 : Int) + a2) (h2 : 0 ≤ a1 ∧ a1 ≤ 1) (h3 : (a1 = 0 ∨ (1 ≤ a2 ∧ a2 ≤ 8 ∧ a2 < a3 ∧ a4 = 1 ∧ 2 ≤ a3))) : 0 ≤ a0 ∧ a0 < 103 := by omega
theorem om_374 {a0 a1 a2 a3 a4 : Int} (h0 : ¬ (a1 = (0 : Int))) (h1 : a0 = (22 : Int) + a2) (h2 : 0 ≤ a1 ∧ a1 ≤ 1) (h3 : (a1 = 0 ∨ (1 ≤ a2 ∧ a2 ≤ 8 ∧ a2 < a3 ∧ a4 = 1 ∧ 2 ≤ a3))) : (0 : Int) ≤ a0 := by omega
theorem om_375 {a0 a1 a2 a3 a4 : Int} (h0 : ¬ (a1 = (0 : Int))) (h1 : a0 = (22 : Int) + a2) (h2 : 0 ≤ a1 ∧ a1 ≤ 1) (h3 : (a1 = 0 ∨ (1 ≤ a2 ∧ a2 ≤ 8 ∧ a2 < a3 ∧ a4 = 1 ∧ 2 ≤ a3))) : (22 ≤ a0 ∧ a0 ≤ 30) := by omega
theorem om_376 {a0 a1 a2 a3 : Int} (h0 : -2147483648 ≤ a0 ∧ a0 < 2147483648) (h1 : ¬ (a1 = (0 : Int))) (h2 : 0 ≤ a1 ∧ a1 ≤ 1) (h3 : (a1 = 0 ∨ (1 ≤ a0 ∧ a0 ≤ 8 ∧ a0 < a2 ∧ a3 = 1 ∧ 2 ≤ a2))) : -2147483648 ≤ (31 : Int) + a0 ∧ (31 : Int) + a0 < 2147483648 := by omega
theorem om_377 {a0 a1 a2 a3 a4 : Int} (h0 : ¬ (a1 = (0 : Int))) (h1 : a0 = (31 : Int) + a2) (h2 : 0 ≤ a1 ∧ a1 ≤ 1) (h3 : (a1 = 0 ∨ (1 ≤ a2 ∧ a2 ≤ 8 ∧ a2 < a3 ∧ a4 = 1 ∧ 2 ≤ a3))) : 0 ≤ a0 ∧ a0 < 103 := by omega
theorem om_378 {a0 a1 a2 a3 a4 : Int} (h0 : ¬ (a1 = (0 : Int))) (h1 : a0 = (31 : Int) + a2) (h2 : 0 ≤ a1 ∧ a1 ≤ 1) (h3 : (a1 = 0 ∨ (1 ≤ a2 ∧ a2 ≤ 8 ∧ a2 < a3 ∧ a4 = 1 ∧ 2 ≤ a3))) : (0 : Int) ≤ a0 := by omega
theorem om_379 {a0 a1 a2 a3 : Int} (h0 : -2147483648 ≤ a0 ∧ a0 < 2147483648) (h1 : ¬ (a1 = (0 : Int))) (h2 : 0 ≤ a1 ∧ a1 ≤ 1) (h3 : (a1 = 0 ∨ (1 ≤ a0 ∧ a0 ≤ 8 ∧ a0 < a2 ∧ a3 = 1 ∧ 2 ≤ a2))) : -2147483648 ≤ (40 : Int) + a0 ∧ (40 : Int) + a0 < 2147483648 := by omega
theorem om_380 {a0 a1 a2 a3 a4 : Int} (h0 : ¬ (a1 = (0 : Int))) (h1 : a0 = (40 : Int) + a2) (h2 : 0 ≤ a1 ∧ a1 ≤ 1) (h3 : (a1 = 0 ∨ (1 ≤ a2 ∧ a2 ≤ 8 ∧ a2 < a3 ∧ a4 = 1 ∧ 2 ≤ a3))) : 0 ≤ a0 ∧ a0 < 103 := by omega
theorem om_381 {a0 a1 a2 a3 a4 : Int} (h0 : ¬ (a1 = (0 : Int))) (h1 : a0 = (40 : Int) + a2) (h2 : 0 ≤ a1 ∧ a1 ≤ 1) (h3 : (a1 = 0 ∨ (1 ≤ a2 ∧ a2 ≤ 8 ∧ a2 < a3 ∧ a4 = 1 ∧ 2 ≤ a3))) : (0 : Int) ≤ a0 := by omega
theorem om_382 {a0 a1 a2 a3 : Int} (h0 : -2147483648 ≤ a0 ∧ a0 < 2147483648) (h1 : ¬ (a1 = (0 : Int))) (h2 : 0 ≤ a1 ∧ a1 ≤ 1) (h3 : (a1 = 0 ∨ (1 ≤ a0 ∧ a0 ≤ 8 ∧ a0 < a2 ∧ a3 = 1 ∧ 2 ≤ a2))) : -2147483648 ≤ (49 : Int) + a0 ∧ (49 : Int) + a0 < 2147483648 := by omega
theorem om_383 {a0 a1 a2 a3 a4 : Int} (h0 : ¬ (a1 = (0 : Int))) (h1 : a0 = (49 : Int) + a2) (h2 : 0 ≤ a1 ∧ a1 ≤ 1) (h3 : (a1 = 0 ∨ (1 ≤ a2 ∧ a2 ≤ 8 ∧ a2 < a3 ∧ a4 = 1 ∧ 2 ≤ a3))) : 0 ≤ a0 ∧ a0 < 103 := by omega
theorem om_384 {a0 a1 a2 a3 a4 : Int} (h0 : ¬ (a1 = (0 : Int))) (h1 : a0 = (49 : Int) + a2) (h2 : 0 ≤ a1 ∧ a1 ≤ 1) (h3 : (a1 = 0 ∨ (1 ≤ a2 ∧ a2 ≤ 8 ∧ a2 < a3 ∧ a4 = 1 ∧ 2 ≤ a3))) : (0 : Int) ≤ a0 := by omega
theorem om_385 {a0 a1 a2 a3 : Int} (h0 : -2147483648 ≤ a0 ∧ a0 < 2147483648) (h1 : ¬ (a1 = (0 : Int))) (h2 : 0 ≤ a1 ∧ a1 ≤ 1) (h3 : (a1 = 0 ∨ (1 ≤ a0 ∧ a0 ≤ 8 ∧ a0 < a2 ∧ a3 = 1 ∧ 2 ≤ a2))) : -2147483648 ≤ (2 : Int) + a0 ∧ (2 : Int) + a0 < 2147483648 := by omega
theorem om_386 {a0 a1 a2 a3 a4 : Int} (h0 : ¬ (a1 = (0 : Int))) (h1 : a0 = (2 : Int) + a2) (h2 : 0 ≤ a1 ∧ a1 ≤ 1) (h3 : (a1 = 0 ∨ (1 ≤ a2 ∧ a2 ≤ 8 ∧ a2 < a3 ∧ a4 = 1 ∧ 2 ≤ a3))) : 0 ≤ a0 ∧ a0 < 21 := by omega
theorem om_387 {a0 a1 a2 a3 a4 : Int} (h0 : ¬ (a1 = (0 : Int))) (h1 : a0 = (2 : Int) + a2) (h2 : 0 ≤ a1 ∧ a1 ≤ 1) (h3 : (a1 = 0 ∨ (1 ≤ a2 ∧ a2 ≤ 8 ∧ a2 < a3 ∧ a4 = 1 ∧ 2 ≤ a3))) : (0 : Int) ≤ a0 := by omega
theorem om_388 {a0 a1 a2 a3 a4 : Int} (h0 : ¬ (a1 = (0 : Int))) (h1 : a0 = (2 : Int) + a2) (h2 : 0 ≤ a1 ∧ a1 ≤ 1) (h3 : (a1 = 0 ∨ (1 ≤ a2 ∧ a2 ≤ 8 ∧ a2 < a3 ∧ a4 = 1 ∧ 2 ≤ a3))) : (2 ≤ a0 ∧ a0 ≤ 10) := by omega
theorem om_389 {a0 a1 a2 a3 : Int} (h0 : -2147483648 ≤ a0 ∧ a0 < 2147483648) (h1 : ¬ (a1 = (0 : Int))) (h2 : 0 ≤ a1 ∧ a1 ≤ 1) (h3 : (a1 = 0 ∨ (1 ≤ a0 ∧ a0 ≤ 8 ∧ a0 < a2 ∧ a3 = 1 ∧ 2 ≤ a2))) : -2147483648 ≤ (58 : Int) + a0 ∧ (58 : Int) + a0 < 2147483648 := by omega
theorem om_390 {a0 a1 a2 a3 a4 : Int} (h0 : ¬ (a1 = (0 : Int))) (h1 : a0 = (58 : Int) + a2) (h2 : 0 ≤ a1 ∧ a1 ≤ 1) (h3 : (a1 = 0 ∨ (1 ≤ a2 ∧ a2 ≤ 8 ∧ a2 < a3 ∧ a4 = 1 ∧ 2 ≤ a3))) : 0 ≤ a0 ∧ a0 < 103 := by omega
theorem om_391 {a0 a1 a2 a3 a4 : Int} (h0 : ¬ (a1 = (0 : Int))) (h1 : a0 = (58 : Int) + a2) (h2 : 0 ≤ a1 ∧ a1 ≤ 1) (h3 : (a1 = 0 ∨ (1 ≤ a2 ∧ a2 ≤ 8 ∧ a2 < a3 ∧ a4 = 1 ∧ 2 ≤ a3))) : (0 : Int) ≤ a0 := by omega
theorem om_392 {a0 a1 a2 a3 a4 : Int} (h0 : ¬ (a1 = (0 : Int))) (h1 : a0 = (58 : Int) + a2) (h2 : 0 ≤ a1 ∧ a1 ≤ 1) (h3 : (a1 = 0 ∨ (1 ≤ a2 ∧ a2 ≤ 8 ∧ a2 < a3 ∧ a4 = 1 ∧ 2 ≤ a3))) : (58 ≤ a0 ∧ a0 ≤ 66) := by omega
theorem om_393 {a0 a1 a2 a3 : Int} (h0 : ¬ (a2 = (0 : Int))) (h1 : 0 ≤ a2 ∧ a2 ≤ 1) (h2 : (a2 = 0 ∨ (1 ≤ a3 ∧ a3 ≤ 8 ∧ a3 < a1 ∧ a0 = 1 ∧ 2 ≤ a1))) (h3 : 0 ≤ a0 ∧ a0 ≤ 1) : ((a0 = 0 ∧ a1 = 0) ∨ (a0 = 1 ∧ 1 ≤ a1)) := by omega
theorem om_394 {a0 a1 a2 a3 : Int} (h0 : ¬ (a1 = (0 : Int))) (h1 : 0 ≤ a1 ∧ a1 ≤ 1) (h2 : (a1 = 0 ∨ (1 ≤ a0 ∧ a0 ≤ 8 ∧ a0 < a2 ∧ a3 = 1 ∧ 2 ≤ a2))) : 0 ≤ a0 ∧ a0 ≤ 8 := by omega
theorem om_395 {a0 : Int} (h0 : 0 ≤ a0 ∧ a0 ≤ 8) : -2147483648 ≤ a0 - (1 : Int) ∧ a0 - (1 : Int) < 2147483648 := by omega
theorem om_396 {a0 a1 a2 a3 : Int} (h0 : -2147483648 ≤ a0 ∧ a0 < 2147483648) (h1 : ¬ (a1 = (0 : Int))) (h2 : a2 = a3 - (1 : Int)) (h3 : 0 ≤ a1 ∧ a1 ≤ 1) (h4 : (a1 = 0 ∨ ((0 : Int) ≤ a0 ∧ a0 ≤ a2))) (h5 : 0 ≤ a3 ∧ a3 ≤ 8) : -2147483648 ≤ (5 : Int) + a0 ∧ (5 : Int) + a0 < 2147483648 := by omega
theorem om_397 {a0 a1 a2 a3 a4 : Int} (h0 : ¬ (a1 = (0 : Int))) (h1 : a0 = (5 : Int) + a2) (h2 : a3 = a4 - (1 : Int)) (h3 : 0 ≤ a1 ∧ a1 ≤ 1) (h4 : (a1 = 0 ∨ ((0 : Int) ≤ a2 ∧ a2 ≤ a3))) (h5 : 0 ≤ a4 ∧ a4 ≤ 8) : 0 ≤ a0 ∧ a0 < 103 := by omega
theorem om_398 {a0 a1 a2 a3 : Int} (h0 : ¬ (a1 = (0 : Int))) (h1 : a0 = (5 : Int) + a2) (h2 : 0 ≤ a1 ∧ a1 ≤ 1) (h3 : (a1 = 0 ∨ ((0 : Int) ≤ a2 ∧ a2 ≤ a3))) : (0 : Int) ≤ a0 := by omega
theorem om_399 {a0 a1 : Int} (h0 : ¬ (a1 = (0 : Int))) (h1 : 0 ≤ a1 ∧ a1 ≤ 1) (h2 : (a1 = 0 ∨ ((1 : Int) ≤ a0 ∧ a0 ≤ (9 : Int)))) : 0 ≤ a0 ∧ a0 ≤ 9 := by omega
theorem om_400 {a0 a1 : Int} (h0 : ¬ (a0 = (0 : Int))) (h1 : 0 ≤ a0 ∧ a0 ≤ 1) (h2 : ((a0 = 0 ∧ a1 = 0) ∨ (a0 = 1 ∧ 1 ≤ a1))) : ((a0 = 0 ∧ a1 = 0) ∨ (a0 = 1 ∧ 1 ≤ a1)) := by omega
theorem om_401 {a0 : Int} (h0 : 1 ≤ a0 ∧ a0 ≤ 8) : -2147483648 ≤ (13 : Int) + a0 ∧ (13 : Int) + a0 < 2147483648 := by omega
theorem om_402 {a0 a1 : Int} (h0 : a0 = (13 : Int) + a1) (h1 : 1 ≤ a1 ∧ a1 ≤ 8) : 0 ≤ a0 ∧ a0 < 103 := by omega
theorem om_403 {a0 a1 : Int} (h0 : a0 = (13 : Int) + a1) (h1 : 1 ≤ a1 ∧ a1 ≤ 8) : (13 ≤ a0 ∧ a0 ≤ 21) := by omega
theorem om_404 {a0 a1 : Int} (h0 : 0 ≤ a0 ∧ a0 ≤ 8 ∧ (a0 = 0 ∨ a0 < a1 - 13)) : -2147483648 ≤ (4 : Int) * a0 ∧ (4 : Int) * a0 < 2147483648 := by omega
theorem om_405 {a0 : Int} (h0 : 1 ≤ a0 ∧ a0 ≤ 8) : -2147483648 ≤ (22 : Int) + a0 ∧ (22 : Int) + a0 < 2147483648 := by omega
theorem om_406 {a0 a1 : Int} (h0 : a0 = (22 : Int) + a1) (h1 : 1 ≤ a1 ∧ a1 ≤ 8) : 0 ≤ a0 ∧ a0 < 103 := by omega
theorem om_407 {a0 a1 : Int} (h0 : a0 = (22 : Int) + a1) (h1 : 1 ≤ a1 ∧ a1 ≤ 8) : (22 ≤ a0 ∧ a0 ≤ 30) := by omega
theorem om_408 {a0 a1 a2 : Int} (h0 : 0 ≤ a1 ∧ a1 ≤ 8 ∧ (a1 = 0 ∨ a1 < a2 - 13)) (h1 : a0 = (4 : Int) * a1) : -2147483648 ≤ a0 + (1 : Int) ∧ a0 + (1 : Int) < 2147483648 := by omega
theorem om_409 {a0 a1 a2 a3 a4 : Int} (h0 : a0 = a2 + (1 : Int)) (h1 : 0 ≤ a3 ∧ a3 ≤ 8 ∧ (a3 = 0 ∨ a3 < a4 - 13)) (h2 : a2 = (4 : Int) * a3) (h3 : 0 ≤ a1 ∧ a1 ≤ 1) : -2147483648 ≤ a0 - a1 ∧ a0 - a1 < 2147483648 := by omega
theorem om_410 {a0 a1 a2 a3 a4 a5 : Int} (h0 : a1 = a2 + (1 : Int)) (h1 : a0 = a1 - a3) (h2 : 0 ≤ a4 ∧ a4 ≤ 8 ∧ (a4 = 0 ∨ a4 < a5 - 13)) (h3 : a2 = (4 : Int) * a4) (h4 : 0 ≤ a3 ∧ a3 ≤ 1) : 0 ≤ a0 ∧ a0 < 72 := by omega
theorem om_411 {a0 : Int} (h0 : 1 ≤ a0 ∧ a0 ≤ 16) : -2147483648 ≤ (4 : Int) * a0 ∧ (4 : Int) * a0 < 2147483648 := by omega
theorem om_412 {a0 a1 : Int} (h0 : a0 = (4 : Int) * a1) (h1 : 1 ≤ a1 ∧ a1 ≤ 16) : -2147483648 ≤ a0 + (1 : Int) ∧ a0 + (1 : Int) < 2147483648 := by omega
theorem om_413 {a0 a1 a2 a3 : Int} (h0 : a2 = (4 : Int) * a3) (h1 : a0 = a2 + (1 : Int)) (h2 : 1 ≤ a3 ∧ a3 ≤ 16) (h3 : 0 ≤ a1 ∧ a1 ≤ 1) : -2147483648 ≤ a0 - a1 ∧ a0 - a1 < 2147483648 := by omega
theorem om_414 {a0 a1 a2 a3 a4 : Int} (h0 : a1 = (4 : Int) * a2) (h1 : a3 = a1 + (1 : Int)) (h2 : a0 = a3 - a4) (h3 : 1 ≤ a2 ∧ a2 ≤ 16) (h4 : 0 ≤ a4 ∧ a4 ≤ 1) : 0 ≤ a0 ∧ a0 < 72 := by omega
theorem om_415 {a0 a1 : Int} (h0 : a0 = (4 : Int) * a1) (h1 : 1 ≤ a1 ∧ a1 ≤ 16) : -2147483648 ≤ a0 + (3 : Int) ∧ a0 + (3 : Int) < 2147483648 := by omega
theorem om_416 {a0 a1 a2 a3 : Int} (h0 : a2 = (4 : Int) * a3) (h1 : a0 = a2 + (3 : Int)) (h2 : 1 ≤ a3 ∧ a3 ≤ 16) (h3 : 0 ≤ a1 ∧ a1 ≤ 1) : -2147483648 ≤ a0 - a1 ∧ a0 - a1 < 2147483648 := by omega
theorem om_417 {a0 a1 a2 a3 a4 : Int} (h0 : a1 = (4 : Int) * a2) (h1 : a3 = a1 + (3 : Int)) (h2 : a0 = a3 - a4) (h3 : 1 ≤ a2 ∧ a2 ≤ 16) (h4 : 0 ≤ a4 ∧ a4 ≤ 1) : 0 ≤ a0 ∧ a0 < 72 := by omega
theorem om_418 {a0 a1 a2 : Int} (h0 : a0 = (4 : Int) * a2) (h1 : 1 ≤ a2 ∧ a2 ≤ 16) (h2 : 0 ≤ a1 ∧ a1 ≤ 1) : -2147483648 ≤ a0 + a1 ∧ a0 + a1 < 2147483648 := by omega
theorem om_419 {a0 a1 a2 a3 : Int} (h0 : a1 = (4 : Int) * a2) (h1 : a0 = a1 + a3) (h2 : 1 ≤ a2 ∧ a2 ≤ 16) (h3 : 0 ≤ a3 ∧ a3 ≤ 1) : 0 ≤ a0 ∧ a0 < 72 := by omega
theorem om_420 {a0 a1 : Int} (h0 : a0 = (4 : Int) * a1) (h1 : 1 ≤ a1 ∧ a1 ≤ 16) : -2147483648 ≤ a0 + (2 : Int) ∧ a0 + (2 : Int) < 2147483648 := by omega
theorem om_421 {a0 a1 a2 a3 : Int} (h0 : a0 = a2 + (2 : Int)) (h1 : a2 = (4 : Int) * a3) (h2 : 1 ≤ a3 ∧ a3 ≤ 16) (h3 : 0 ≤ a1 ∧ a1 ≤ 1) : -2147483648 ≤ a0 + a1 ∧ a0 + a1 < 2147483648 := by omega
theorem om_422 {a0 a1 a2 a3 a4 : Int} (h0 : a1 = a2 + (2 : Int)) (h1 : a0 = a1 + a3) (h2 : a2 = (4 : Int) * a4) (h3 : 1 ≤ a4 ∧ a4 ≤ 16) (h4 : 0 ≤ a3 ∧ a3 ≤ 1) : 0 ≤ a0 ∧ a0 < 72 := by omega
theorem om_423 {a0 a1 a2 a3 : Int} (h0 : 0 ≤ a2 ∧ a2 ≤ 8 ∧ (a2 = 0 ∨ a2 < a3 - 13)) (h1 : a0 = (4 : Int) * a2) (h2 : 0 ≤ a1 ∧ a1 ≤ 1) : -2147483648 ≤ a0 + a1 ∧ a0 + a1 < 2147483648 := by omega
theorem om_424 {a0 a1 a2 a3 a4 : Int} (h0 : a0 = a1 + a2) (h1 : 0 ≤ a3 ∧ a3 ≤ 8 ∧ (a3 = 0 ∨ a3 < a4 - 13)) (h2 : a1 = (4 : Int) * a3) (h3 : 0 ≤ a2 ∧ a2 ≤ 1) : 0 ≤ a0 ∧ a0 < 72 := by omega
theorem om_425 {a0 a1 a2 : Int} (h0 : 0 ≤ a1 ∧ a1 ≤ 8 ∧ (a1 = 0 ∨ a1 < a2 - 13)) (h1 : a0 = (4 : Int) * a1) : -2147483648 ≤ a0 + (2 : Int) ∧ a0 + (2 : Int) < 2147483648 := by omega
theorem om_426 {a0 a1 a2 a3 a4 : Int} (h0 : a0 = a2 + (2 : Int)) (h1 : 0 ≤ a3 ∧ a3 ≤ 8 ∧ (a3 = 0 ∨ a3 < a4 - 13)) (h2 : a2 = (4 : Int) * a3) (h3 : 0 ≤ a1 ∧ a1 ≤ 1) : -2147483648 ≤ a0 + a1 ∧ a0 + a1 < 2147483648 := by omega
theorem om_427 {a0 a1 a2 a3 a4 a5 : Int} (h0 : a1 = a2 + (2 : Int)) (h1 : a0 = a1 + a3) (h2 : 0 ≤ a4 ∧ a4 ≤ 8 ∧ (a4 = 0 ∨ a4 < a5 - 13)) (h3 : a2 = (4 : Int) * a4) (h4 : 0 ≤ a3 ∧ a3 ≤ 1) : 0 ≤ a0 ∧ a0 < 72 := by omega
theorem om_428 {a0 a1 : Int} (h0 : ¬ (a1 ≤ a0)) (h1 : 0 ≤ a1 ∧ a1 ≤ 9) (h2 : 1 ≤ a0 ∧ a0 ≤ 9) : -2147483648 ≤ (58 : Int) + a0 ∧ (58 : Int) + a0 < 2147483648 := by omega
theorem om_429 {a0 a1 a2 : Int} (h0 : ¬ (a1 ≤ a2)) (h1 : a0 = (58 : Int) + a2) (h2 : 0 ≤ a1 ∧ a1 ≤ 9) (h3 : 1 ≤ a2 ∧ a2 ≤ 9) : 0 ≤ a0 ∧ a0 < 103 := by omega
theorem om_430 {a0 a1 : Int} (h0 : a0 = (58 : Int) + a1) (h1 : 1 ≤ a1 ∧ a1 ≤ 9) : (0 : Int) ≤ a0 := by omega
theorem om_431 {a0 a1 a2 : Int} (h0 : ¬ (a1 ≤ a2)) (h1 : a0 = (58 : Int) + a2) (h2 : 0 ≤ a1 ∧ a1 ≤ 9) (h3 : 1 ≤ a2 ∧ a2 ≤ 9) : (58 ≤ a0 ∧ a0 ≤ 66) := by omega
theorem om_432 {a0 a1 : Int} (h0 : ¬ (a0 ≤ a1)) (h1 : 0 ≤ a0 ∧ a0 ≤ 9) (h2 : 1 ≤ a1 ∧ a1 ≤ 9) : 0 ≤ a0 ∧ a0 ≤ 9 := by omega
theorem om_433 {a0 a1 a2 : Int} (h0 : ¬ (a1 ≤ a2)) (h1 : 0 ≤ a0 ∧ a0 ≤ 1) (h2 : ((a0 = 0 ∧ a1 = 0) ∨ (a0 = 1 ∧ 1 ≤ a1))) (h3 : 1 ≤ a2 ∧ a2 ≤ 9) : ((a0 = 0 ∧ a1 = 0) ∨ (a0 = 1 ∧ 1 ≤ a1)) := by omega
theorem om_434 {a0 a1 : Int} (h0 : ¬ (a1 ≤ a0)) (h1 : 0 ≤ a1 ∧ a1 ≤ 9) (h2 : 1 ≤ a0 ∧ a0 ≤ 9) : -2147483648 ≤ (49 : Int) + a0 ∧ (49 : Int) + a0 < 2147483648 := by omega
theorem om_435 {a0 a1 a2 : Int} (h0 : ¬ (a1 ≤ a2)) (h1 : a0 = (49 : Int) + a2) (h2 : 0 ≤ a1 ∧ a1 ≤ 9) (h3 : 1 ≤ a2 ∧ a2 ≤ 9) : 0 ≤ a0 ∧ a0 < 103 := by omega
theorem om_436 {a0 a1 : Int} (h0 : a0 = (49 : Int) + a1) (h1 : 1 ≤ a1 ∧ a1 ≤ 9) : (0 : Int) ≤ a0 := by omega
theorem om_437 {a0 a1 : Int} (h0 : ¬ (a1 ≤ a0)) (h1 : 0 ≤ a1 ∧ a1 ≤ 9) (h2 : 1 ≤ a0 ∧ a0 ≤ 9) : 1 ≤ a0 ∧ a0 ≤ 16 := by omega
theorem om_438 {a0 a1 : Int} (h0 : ¬ (a1 ≤ a0)) (h1 : 0 ≤ a1 ∧ a1 ≤ 9) (h2 : 1 ≤ a0 ∧ a0 ≤ 9) : 1 ≤ a0 ∧ a0 ≤ 8 := by omega
theorem om_439 {a0 a1 : Int} (h0 : ¬ (a1 ≤ a0)) (h1 : 0 ≤ a1 ∧ a1 ≤ 9) (h2 : 1 ≤ a0 ∧ a0 ≤ 9) : -2147483648 ≤ (8 : Int) + a0 ∧ (8 : Int) + a0 < 2147483648 := by omega
theorem om_440 {a0 a1 a2 : Int} (h0 : ¬ (a1 ≤ a2)) (h1 : a0 = (8 : Int) + a2) (h2 : 0 ≤ a1 ∧ a1 ≤ 9) (h3 : 1 ≤ a2 ∧ a2 ≤ 9) : 1 ≤ a0 ∧ a0 ≤ 16 := by omega
theorem om_441 {a0 : Int} (h0 : ¬ (a0 = (0 : Int))) (h1 : 0 ≤ a0 ∧ a0 ≤ 1) : 1 ≤ a0 ∧ a0 ≤ 1 := by omega
theorem om_442 {a0 a1 a2 : Int}  : ((0 : Int) = 0 ∨ (0 ≤ a0 ∧ a0 ≤ 16 ∧ a1 = 1 ∧ 1 ≤ a2)) := by omega
theorem om_443 {a0 a1 a2 a3 a4 : Int} (h0 : -2147483648 ≤ a0 ∧ a0 < 2147483648) (h1 : ¬ (a3 = (0 : Int))) (h2 : (a4 = a0 - (8 : Int) ∨ a4 = a0 - (8 : Int) + 4294967296)) (h3 : 0 ≤ a3 ∧ a3 ≤ 1) (h4 : (a3 = 0 ∨ (1 ≤ a4 ∧ a4 ≤ 8 ∧ a4 < a2 ∧ a1 = 1 ∧ 2 ≤ a2))) (h5 : 0 ≤ a1 ∧ a1 ≤ 1) : ((1 : Int) = 0 ∨ (0 ≤ a0 ∧ a0 ≤ 16 ∧ a1 = 1 ∧ 1 ≤ a2)) := by omega
theorem om_444 {a0 a1 a2 a3 : Int} (h0 : ¬ (a1 = (0 : Int))) (h1 : 0 ≤ a1 ∧ a1 ≤ 1) (h2 : (a1 = 0 ∨ (0 ≤ a0 ∧ a0 ≤ 8 ∧ a0 < a2 ∧ a3 = 1 ∧ 1 ≤ a2))) : a0 < (9 : Int) := by omega
theorem om_445 {a0 a1 a2 a3 : Int} (h0 : ¬ (a3 = (0 : Int))) (h1 : 0 ≤ a3 ∧ a3 ≤ 1) (h2 : (a3 = 0 ∨ (0 ≤ a0 ∧ a0 ≤ 8 ∧ a0 < a2 ∧ a1 = 1 ∧ 1 ≤ a2))) (h3 : 0 ≤ a1 ∧ a1 ≤ 1) : ((1 : Int) = 0 ∨ (0 ≤ a0 ∧ a0 ≤ 16 ∧ a1 = 1 ∧ 1 ≤ a2)) := by omega
theorem om_446 {a0 a1 a2 a3 : Int} (h0 : ¬ (a2 = (0 : Int))) (h1 : 0 ≤ a2 ∧ a2 ≤ 1) (h2 : (a2 = 0 ∨ (0 ≤ a3 ∧ a3 ≤ 16 ∧ a0 = 1 ∧ 1 ≤ a1))) (h3 : 0 ≤ a0 ∧ a0 ≤ 1) : ((a0 = 0 ∧ a1 = 0) ∨ (a0 = 1 ∧ 1 ≤ a1)) := by omega
theorem om_447 {a0 a1 a2 a3 : Int} (h0 : ¬ (a1 = (0 : Int))) (h1 : 0 ≤ a1 ∧ a1 ≤ 1) (h2 : (a1 = 0 ∨ (0 ≤ a0 ∧ a0 ≤ 16 ∧ a2 = 1 ∧ 1 ≤ a3))) : -2147483648 ≤ (4 : Int) * a0 ∧ (4 : Int) * a0 < 2147483648 := by omega
theorem om_448 {a0 a1 a2 a3 a4 a5 a6 : Int} (h0 : ¬ (a2 = (0 : Int))) (h1 : ¬ (a3 = (0 : Int))) (h2 : a0 = (4 : Int) * a4) (h3 : 0 ≤ a2 ∧ a2 ≤ 1) (h4 : (a2 = 0 ∨ (0 ≤ a4 ∧ a4 ≤ 16 ∧ a5 = 1 ∧ 1 ≤ a6))) (h5 : 0 ≤ a3 ∧ a3 ≤ 1) (h6 : (a3 = 0 ∨ ((0 : Int) ≤ a1 ∧ a1 ≤ (3 : Int)))) : -2147483648 ≤ a0 + a1 ∧ a0 + a1 < 2147483648 := by omega
theorem om_449 {a0 a1 a2 a3 a4 a5 a6 a7 : Int} (h0 : ¬ (a1 = (0 : Int))) (h1 : ¬ (a2 = (0 : Int))) (h2 : a3 = (4 : Int) * a4) (h3 : a0 = a3 + a5) (h4 : 0 ≤ a1 ∧ a1 ≤ 1) (h5 : (a1 = 0 ∨ (0 ≤ a4 ∧ a4 ≤ 16 ∧ a6 = 1 ∧ 1 ≤ a7))) (h6 : 0 ≤ a2 ∧ a2 ≤ 1) (h7 : (a2 = 0 ∨ ((0 : Int) ≤ a5 ∧ a5 ≤ (3 : Int)))) : 0 ≤ a0 ∧ a0 < 72 := by omega
theorem om_450 {a0 : Int} (h0 : 1 ≤ a0 ∧ a0 ≤ 1) : 0 ≤ a0 ∧ a0 ≤ 1 := by omega
theorem om_451 {a0 : Int} (h0 : ¬ ((17 : Int) ≤ a0)) (h1 : 0 ≤ a0 ∧ a0 ≤ 17) : -2147483648 ≤ a0 + 1 ∧ a0 + 1 < 2147483648 := by omega
theorem om_452 {a0 a1 : Int} (h0 : ¬ ((17 : Int) ≤ a1)) (h1 : a0 = a1 + 1) (h2 : 0 ≤ a1 ∧ a1 ≤ 17) : 0 ≤ a0 ∧ a0 ≤ 17 := by omega
theorem om_453 {a0 a1 : Int} (h0 : ¬ ((17 : Int) ≤ a1)) (h1 : a0 = a1 + 1) : (18 - a0).toNat < (18 - a1).toNat := by omega
theorem om_454 {a0 : Int} (h0 : ¬ ((17 : Int) ≤ a0)) (h1 : 0 ≤ a0 ∧ a0 ≤ 17) : -2147483648 ≤ (4 : Int) * a0 ∧ (4 : Int) * a0 < 2147483648 := by omega
theorem om_455 {a0 a1 a2 a3 : Int} (h0 : ¬ ((17 : Int) ≤ a2)) (h1 : (2 : Int) ≤ a1) (h2 : ¬ (a3 = (0 : Int))) (h3 : a0 = (4 : Int) * a2) (h4 : 0 ≤ a3 ∧ a3 ≤ 1) (h5 : (a3 = 0 ∨ ((0 : Int) ≤ a1 ∧ a1 ≤ (4 : Int)))) (h6 : 0 ≤ a2 ∧ a2 ≤ 17) : -2147483648 ≤ a0 + a1 ∧ a0 + a1 < 2147483648 := by omega
theorem om_456 {a0 a1 a2 a3 a4 : Int} (h0 : ¬ ((17 : Int) ≤ a1)) (h1 : (2 : Int) ≤ a2) (h2 : ¬ (a3 = (0 : Int))) (h3 : a4 = (4 : Int) * a1) (h4 : a0 = a4 + a2) (h5 : 0 ≤ a3 ∧ a3 ≤ 1) (h6 : (a3 = 0 ∨ ((0 : Int) ≤ a2 ∧ a2 ≤ (4 : Int)))) (h7 : 0 ≤ a1 ∧ a1 ≤ 17) : 0 ≤ a0 ∧ a0 < 72 := by omega
theorem om_457 {a0 a1 a2 : Int} (h0 : -2147483648 ≤ a1 ∧ a1 < 2147483648) (h1 : ¬ ((17 : Int) ≤ a2)) (h2 : ¬ ((2 : Int) ≤ a1)) (h3 : a0 = (4 : Int) * a2) (h4 : 0 ≤ a2 ∧ a2 ≤ 17) : -2147483648 ≤ a0 + a1 ∧ a0 + a1 < 2147483648 := by omega
theorem om_458 {a0 a1 a2 a3 a4 : Int} (h0 : ¬ ((17 : Int) ≤ a1)) (h1 : ¬ ((2 : Int) ≤ a2)) (h2 : ¬ (a3 = (0 : Int))) (h3 : a4 = (4 : Int) * a1) (h4 : a0 = a4 + a2) (h5 : 0 ≤ a3 ∧ a3 ≤ 1) (h6 : (a3 = 0 ∨ ((0 : Int) ≤ a2 ∧ a2 ≤ (4 : Int)))) (h7 : 0 ≤ a1 ∧ a1 ≤ 17) : 0 ≤ a0 ∧ a0 < 72 := by omega
theorem om_459 {a0 a1 : Int} (h0 : ¬ ((17 : Int) ≤ a1)) (h1 : a0 = (4 : Int) * a1) (h2 : 0 ≤ a1 ∧ a1 ≤ 17) : -2147483648 ≤ a0 + (2 : Int) ∧ a0 + (2 : Int) < 2147483648 := by omega
theorem om_460 {a0 a1 a2 : Int} (h0 : ¬ ((17 : Int) ≤ a1)) (h1 : a2 = (4 : Int) * a1) (h2 : a0 = a2 + (2 : Int)) (h3 : 0 ≤ a1 ∧ a1 ≤ 17) : 0 ≤ a0 ∧ a0 < 72 := by omega
theorem om_461 {a0 a1 : Int} (h0 : ¬ ((17 : Int) ≤ a1)) (h1 : a0 = (4 : Int) * a1) (h2 : 0 ≤ a1 ∧ a1 ≤ 17) : 0 ≤ a0 ∧ a0 < 72 := by omega
theorem om_462 {a0 a1 : Int} (h0 : ¬ ((17 : Int) ≤ a1)) (h1 : a0 = (4 : Int) * a1) (h2 : 0 ≤ a1 ∧ a1 ≤ 17) : -2147483648 ≤ a0 + (3 : Int) ∧ a0 + (3 : Int) < 2147483648 := by omega
theorem om_463 {a0 a1 a2 : Int} (h0 : ¬ ((17 : Int) ≤ a1)) (h1 : a2 = (4 : Int) * a1) (h2 : a0 = a2 + (3 : Int)) (h3 : 0 ≤ a1 ∧ a1 ≤ 17) : 0 ≤ a0 ∧ a0 < 72 := by omega
theorem om_464 {a0 a1 : Int} (h0 : ¬ ((17 : Int) ≤ a1)) (h1 : a0 = (4 : Int) * a1) (h2 : 0 ≤ a1 ∧ a1 ≤ 17) : -2147483648 ≤ a0 + (1 : Int) ∧ a0 + (1 : Int) < 2147483648 := by omega
theorem om_465 {a0 a1 a2 : Int} (h0 : ¬ ((17 : Int) ≤ a1)) (h1 : a2 = (4 : Int) * a1) (h2 : a0 = a2 + (1 : Int)) (h3 : 0 ≤ a1 ∧ a1 ≤ 17) : 0 ≤ a0 ∧ a0 < 72 := by omega
theorem om_466 {a0 a1 : Int} (h0 : ¬ (a0 = (4 : Int))) (h1 : ¬ (a1 = (0 : Int))) (h2 : 0 ≤ a1 ∧ a1 ≤ 1) (h3 : (a1 = 0 ∨ ((0 : Int) ≤ a0 ∧ a0 ≤ (4 : Int)))) : 0 ≤ a0 ∧ a0 < 72 := by omega
theorem om_467 {a0 : Int} (h0 : ¬ ((2 : Int) ≤ a0)) (h1 : 0 ≤ a0 ∧ a0 ≤ 2) : -2147483648 ≤ a0 + 1 ∧ a0 + 1 < 2147483648 := by omega
theorem om_468 {a0 a1 : Int} (h0 : ¬ ((2 : Int) ≤ a1)) (h1 : a0 = a1 + 1) (h2 : 0 ≤ a1 ∧ a1 ≤ 2) : 0 ≤ a0 ∧ a0 ≤ 2 := by omega
theorem om_469 {a0 a1 : Int} (h0 : ¬ ((2 : Int) ≤ a1)) (h1 : a0 = a1 + 1) : (3 - a0).toNat < (3 - a1).toNat := by omega
theorem om_470 {a0 : Int} (h0 : 0 ≤ a0 ∧ a0 ≤ 16) : -2147483648 ≤ (4 : Int) * a0 ∧ (4 : Int) * a0 < 2147483648 := by omega
theorem om_471 {a0 a1 : Int} (h0 : a0 = (4 : Int) * a1) (h1 : 0 ≤ a1 ∧ a1 ≤ 16) : -2147483648 ≤ a0 + (2 : Int) ∧ a0 + (2 : Int) < 2147483648 := by omega
theorem om_472 {a0 a1 a2 a3 : Int} (h0 : ¬ ((2 : Int) ≤ a1)) (h1 : a2 = (4 : Int) * a3) (h2 : a0 = a2 + (2 : Int)) (h3 : 0 ≤ a3 ∧ a3 ≤ 16) (h4 : 0 ≤ a1 ∧ a1 ≤ 2) : -2147483648 ≤ a0 + a1 ∧ a0 + a1 < 2147483648 := by omega
theorem om_473 {a0 a1 a2 a3 a4 : Int} (h0 : ¬ ((2 : Int) ≤ a1)) (h1 : a2 = (4 : Int) * a3) (h2 : a4 = a2 + (2 : Int)) (h3 : a0 = a4 + a1) (h4 : 0 ≤ a3 ∧ a3 ≤ 16) (h5 : 0 ≤ a1 ∧ a1 ≤ 2) : 0 ≤ a0 ∧ a0 < 72 := by omega
theorem om_474 {a0 a1 a2 : Int} (h0 : ¬ ((2 : Int) ≤ a1)) (h1 : a0 = (4 : Int) * a2) (h2 : 0 ≤ a2 ∧ a2 ≤ 16) (h3 : 0 ≤ a1 ∧ a1 ≤ 2) : -2147483648 ≤ a0 + a1 ∧ a0 + a1 < 2147483648 := by omega
theorem om_475 {a0 a1 a2 a3 : Int} (h0 : ¬ ((2 : Int) ≤ a1)) (h1 : a2 = (4 : Int) * a3) (h2 : a0 = a2 + a1) (h3 : 0 ≤ a3 ∧ a3 ≤ 16) (h4 : 0 ≤ a1 ∧ a1 ≤ 2) : 0 ≤ a0 ∧ a0 < 72 := by omega
theorem om_476 {a0 : Int} (h0 : ¬ ((17 : Int) ≤ a0)) (h1 : 0 ≤ a0 ∧ a0 ≤ 17) : -2147483648 ≤ a0 + (1 : Int) ∧ a0 + (1 : Int) < 2147483648 := by omega
theorem om_477 {a0 : Int} (h0 : ¬ ((17 : Int) ≤ a0)) (h1 : 1 ≤ a0 ∧ a0 ≤ 17) : -2147483648 ≤ a0 + 1 ∧ a0 + 1 < 2147483648 := by omega
theorem om_478 {a0 a1 : Int} (h0 : ¬ ((17 : Int) ≤ a1)) (h1 : a0 = a1 + 1) (h2 : 1 ≤ a1 ∧ a1 ≤ 17) : 1 ≤ a0 ∧ a0 ≤ 17 := by omega
theorem om_479 {a0 : Int} (h0 : ¬ ((17 : Int) ≤ a0)) (h1 : 0 ≤ a0 ∧ a0 ≤ 17) : 0 ≤ a0 ∧ a0 ≤ 16 := by omega
theorem om_480 {a0 : Int} (h0 : ¬ ((17 : Int) ≤ a0)) (h1 : 1 ≤ a0 ∧ a0 ≤ 17) : 0 ≤ a0 ∧ a0 ≤ 16 := by omega
theorem om_481 {a0 a1 : Int} (h0 : ¬ ((17 : Int) ≤ a1)) (h1 : a0 = a1 + (1 : Int)) (h2 : 0 ≤ a1 ∧ a1 ≤ 17) : 1 ≤ a0 ∧ a0 ≤ 17 := by omega
theorem om_482 {a0 : Int} (h0 : (0 : Int) ≤ a0) (h1 : (-3) ≤ a0 ∧ a0 ≤ 3) : -2147483648 ≤ a0 - (1 : Int) ∧ a0 - (1 : Int) < 2147483648 := by omega
theorem om_483 {a0 : Int} (h0 : 0 ≤ a0 ∧ a0 ≤ 9) : -2147483648 ≤ (3 : Int) * a0 ∧ (3 : Int) * a0 < 2147483648 := by omega
theorem om_484 {a0 a1 a2 a3 : Int} (h0 : (0 : Int) ≤ a2) (h1 : a1 = a2 - (1 : Int)) (h2 : a0 = (3 : Int) * a3) (h3 : 0 ≤ a3 ∧ a3 ≤ 9) (h4 : (-3) ≤ a2 ∧ a2 ≤ 3) : -2147483648 ≤ a0 + a1 ∧ a0 + a1 < 2147483648 := by omega
theorem om_485 {a0 a1 a2 a3 a4 : Int} (h0 : (0 : Int) ≤ a1) (h1 : a0 = a2 + a3) (h2 : a3 = a1 - (1 : Int)) (h3 : a2 = (3 : Int) * a4) (h4 : 0 ≤ a4 ∧ a4 ≤ 9) (h5 : (-3) ≤ a1 ∧ a1 ≤ 3) (h6 : ¬ a1 = 0) : 0 ≤ a0 ∧ a0 < 30 := by omega
theorem om_486 {a0 : Int} (h0 : (0 : Int) ≤ a0) : (0 : Int) ≤ a0 := by omega
theorem om_487 {a0 : Int} (h0 : ¬ ((0 : Int) ≤ a0)) (h1 : (-3) ≤ a0 ∧ a0 ≤ 3) : -2147483648 ≤ -a0 ∧ -a0 < 2147483648 := by omega
theorem om_488 {a0 a1 : Int} (h0 : ¬ ((0 : Int) ≤ a1)) (h1 : a0 = -a1) (h2 : (-3) ≤ a1 ∧ a1 ≤ 3) : -2147483648 ≤ a0 - (1 : Int) ∧ a0 - (1 : Int) < 2147483648 := by omega
theorem om_489 {a0 a1 a2 a3 a4 : Int} (h0 : ¬ ((0 : Int) ≤ a2)) (h1 : a3 = -a2) (h2 : a1 = a3 - (1 : Int)) (h3 : a0 = (3 : Int) * a4) (h4 : 0 ≤ a4 ∧ a4 ≤ 9) (h5 : (-3) ≤ a2 ∧ a2 ≤ 3) : -2147483648 ≤ a0 + a1 ∧ a0 + a1 < 2147483648 := by omega
theorem om_490 {a0 a1 a2 a3 a4 a5 : Int} (h0 : ¬ ((0 : Int) ≤ a1)) (h1 : a2 = -a1) (h2 : a3 = a2 - (1 : Int)) (h3 : a4 = (3 : Int) * a5) (h4 : a0 = a4 + a3) (h5 : 0 ≤ a5 ∧ a5 ≤ 9) (h6 : (-3) ≤ a1 ∧ a1 ≤ 3) : 0 ≤ a0 ∧ a0 < 30 := by omega
theorem om_491 {a0 : Int} (h0 : ¬ ((0 : Int) ≤ a0)) : ¬ ((0 : Int) ≤ a0) := by omega
theorem om_492 {a0 a1 a2 : Int} (h0 : ¬ ((3 : Int) ≤ a1)) (h1 : a0 = (3 : Int) * a2) (h2 : 0 ≤ a2 ∧ a2 ≤ 9) (h3 : 0 ≤ a1 ∧ a1 ≤ 3) : -2147483648 ≤ a0 + a1 ∧ a0 + a1 < 2147483648 := by omega
theorem om_493 {a0 : Int} (h0 : 0 ≤ a0 ∧ a0 ≤ 8) : -2147483648 ≤ (3 : Int) * a0 ∧ (3 : Int) * a0 < 2147483648 := by omega
theorem om_494 {a0 a1 a2 : Int} (h0 : ¬ ((3 : Int) ≤ a1)) (h1 : a0 = (3 : Int) * a2) (h2 : 0 ≤ a2 ∧ a2 ≤ 8) (h3 : 0 ≤ a1 ∧ a1 ≤ 3) : -2147483648 ≤ a0 + a1 ∧ a0 + a1 < 2147483648 := by omega
theorem om_495 {a0 a1 a2 a3 : Int} (h0 : ¬ ((3 : Int) ≤ a1)) (h1 : a2 = (3 : Int) * a3) (h2 : a0 = a2 + a1) (h3 : 0 ≤ a3 ∧ a3 ≤ 8) (h4 : 0 ≤ a1 ∧ a1 ≤ 3) : 0 ≤ a0 ∧ a0 < 30 := by omega
theorem om_496 {a0 a1 a2 a3 : Int} (h0 : ¬ ((3 : Int) ≤ a1)) (h1 : a2 = (3 : Int) * a3) (h2 : a0 = a2 + a1) (h3 : 0 ≤ a3 ∧ a3 ≤ 9) (h4 : 0 ≤ a1 ∧ a1 ≤ 3) : 0 ≤ a0 ∧ a0 < 30 := by omega
theorem om_497 {a0 : Int} (h0 : ¬ ((3 : Int) ≤ a0)) (h1 : 0 ≤ a0 ∧ a0 ≤ 3) : -2147483648 ≤ a0 + 1 ∧ a0 + 1 < 2147483648 := by omega
theorem om_498 {a0 a1 : Int} (h0 : ¬ ((3 : Int) ≤ a1)) (h1 : a0 = a1 + 1) (h2 : 0 ≤ a1 ∧ a1 ≤ 3) : 0 ≤ a0 ∧ a0 ≤ 3 := by omega
theorem om_499 {a0 a1 : Int} (h0 : ¬ ((3 : Int) ≤ a1)) (h1 : a0 = a1 + 1) : (4 - a0).toNat < (4 - a1).toNat := by omega
theorem om_500 {a0 : Int} (h0 : 0 ≤ a0 ∧ a0 ≤ 9) : 0 ≤ a0 ∧ a0 < 10 := by omega
theorem om_501 {a0 : Int} (h0 : ¬ ((3 : Int) ≤ a0)) (h1 : 0 ≤ a0 ∧ a0 ≤ 3) : -2147483648 ≤ a0 + (1 : Int) ∧ a0 + (1 : Int) < 2147483648 := by omega
theorem om_502 {a0 : Int} (h0 : ¬ ((3 : Int) ≤ a0)) (h1 : 0 ≤ a0 ∧ a0 ≤ 3) : -2147483648 ≤ -a0 ∧ -a0 < 2147483648 := by omega
theorem om_503 {a0 a1 : Int} (h0 : ¬ ((3 : Int) ≤ a1)) (h1 : a0 = -a1) (h2 : 0 ≤ a1 ∧ a1 ≤ 3) : -2147483648 ≤ a0 - (1 : Int) ∧ a0 - (1 : Int) < 2147483648 := by omega
theorem om_504 {a0 : Int} (h0 : 1 ≤ a0 ∧ a0 ≤ 8) : 0 ≤ a0 ∧ a0 ≤ 9 := by omega
theorem om_505 {a0 a1 : Int} (h0 : 1 ≤ a1 ∧ a1 ≤ 8) (h1 : 0 ≤ a0 ∧ a0 ≤ 8) (h2 : a0 < a1) : 0 ≤ a0 ∧ a0 ≤ 8 := by omega
theorem om_506 {a0 a1 : Int} (h0 : 1 ≤ a1 ∧ a1 ≤ 8) (h1 : 0 ≤ a0 ∧ a0 ≤ 8) (h2 : a0 < a1) : 0 ≤ a0 ∧ a0 < 10 := by omega
theorem om_507 {a0 a1 : Int} (h0 : 0 ≤ a0 ∧ a0 ≤ 8) (h1 : a0 < a1) : (0 : Int) ≤ a0 ∧ (a0 : Int) < a1 := by omega
theorem om_508 {a0 : Int} (h0 : 1 ≤ a0 ∧ a0 ≤ 8) : 0 ≤ a0 ∧ a0 < 10 := by omega
theorem om_509 {a0 : Int} (h0 : (-3) ≤ a0 ∧ a0 ≤ 3) : (-3) ≤ a0 ∧ a0 ≤ 3 := by omega
theorem om_510 {a0 : Int} (h0 : 1 ≤ a0 ∧ a0 ≤ 8) : (0 : Int) ≤ a0 ∧ a0 ≤ a0 := by omega
theorem om_511 {a0 : Int} (h0 : 1 ≤ a0 ∧ a0 ≤ 8) : -2147483648 ≤ (4 : Int) * a0 ∧ (4 : Int) * a0 < 2147483648 := by omega
theorem om_512 {a0 a1 : Int} (h0 : a0 = (4 : Int) * a1) (h1 : 1 ≤ a1 ∧ a1 ≤ 8) : 0 ≤ a0 ∧ a0 < 72 := by omega
theorem om_513 {a0 a1 : Int} (h0 : 1 ≤ a1 ∧ a1 ≤ 8) (h1 : 0 ≤ a0 ∧ a0 ≤ 8) (h2 : a0 < a1) : -2147483648 ≤ (4 : Int) * a0 ∧ (4 : Int) * a0 < 2147483648 := by omega
theorem om_514 {a0 a1 a2 : Int} (h0 : a0 = (4 : Int) * a1) (h1 : 1 ≤ a2 ∧ a2 ≤ 8) (h2 : 0 ≤ a1 ∧ a1 ≤ 8) (h3 : a1 < a2) : 0 ≤ a0 ∧ a0 < 72 := by omega
theorem om_515 {a0 : Int} (h0 : ¬ a0 = 0) : ¬ a0 = 0 := by omega
theorem om_516 {a0 a1 : Int} (h0 : a0 = (4 : Int) * a1) (h1 : 1 ≤ a1 ∧ a1 ≤ 8) : -2147483648 ≤ a0 + (1 : Int) ∧ a0 + (1 : Int) < 2147483648 := by omega
theorem om_517 {a0 a1 a2 : Int} (h0 : a1 = (4 : Int) * a2) (h1 : a0 = a1 + (1 : Int)) (h2 : 1 ≤ a2 ∧ a2 ≤ 8) : 0 ≤ a0 ∧ a0 < 72 := by omega
theorem om_518 {a0 a1 a2 : Int} (h0 : a0 = (4 : Int) * a1) (h1 : 1 ≤ a2 ∧ a2 ≤ 8) (h2 : 0 ≤ a1 ∧ a1 ≤ 8) (h3 : a1 < a2) : -2147483648 ≤ a0 + (1 : Int) ∧ a0 + (1 : Int) < 2147483648 := by omega
theorem om_519 {a0 a1 a2 a3 : Int} (h0 : a1 = (4 : Int) * a2) (h1 : a0 = a1 + (1 : Int)) (h2 : 1 ≤ a3 ∧ a3 ≤ 8) (h3 : 0 ≤ a2 ∧ a2 ≤ 8) (h4 : a2 < a3) : 0 ≤ a0 ∧ a0 < 72 := by omega
theorem om_520 {a0 a1 a2 a3 : Int} (h0 : ¬ a2 = 0) (h1 : ¬ a3 = 0) (h2 : ¬ a1 = 0) (h3 : 1 ≤ a0 ∧ a0 ≤ 8) : (0 : Int) ≤ a0 ∧ ¬ a1 = 0 ∧ ¬ a2 = 0 ∧ ¬ a3 = 0 := by omega
theorem om_521 {a0 : Int} (h0 : 0 ≤ a0 ∧ a0 ≤ 8) : 0 ≤ a0 ∧ a0 < 10 := by omega
theorem om_522 {a0 : Int} (h0 : 1 ≤ a0 ∧ a0 ≤ 8) : -2147483648 ≤ (2 : Int) + a0 ∧ (2 : Int) + a0 < 2147483648 := by omega
theorem om_523 {a0 a1 : Int} (h0 : a0 = (2 : Int) + a1) (h1 : 1 ≤ a1 ∧ a1 ≤ 8) : 0 ≤ a0 ∧ a0 < 21 := by omega
theorem om_524 {a0 a1 : Int} (h0 : a0 = (2 : Int) + a1) (h1 : 1 ≤ a1 ∧ a1 ≤ 8) : (0 : Int) ≤ a0 := by omega
theorem om_525 {a0 a1 : Int} (h0 : a0 = (2 : Int) + a1) (h1 : 1 ≤ a1 ∧ a1 ≤ 8) : (2 ≤ a0 ∧ a0 ≤ 10) := by omega
theorem om_526 {a0 : Int} (h0 : 1 ≤ a0 ∧ a0 ≤ 8) : 1 ≤ a0 ∧ a0 ≤ 8 := by omega
theorem om_527 {a0 a1 a2 a3 : Int} (h0 : 1 ≤ a0 ∧ a0 ≤ 8) (h1 : ¬ a3 = 0) (h2 : ¬ a1 = 0) (h3 : ¬ a2 = 0) : (0 : Int) ≤ a0 ∧ ¬ a1 = 0 ∧ ¬ a2 = 0 ∧ ¬ a3 = 0 := by omega
theorem om_528 {a0 : Int} (h0 : 1 ≤ a0 ∧ a0 ≤ 8) : -2147483648 ≤ (49 : Int) + a0 ∧ (49 : Int) + a0 < 2147483648 := by omega
theorem om_529 {a0 a1 : Int} (h0 : a0 = (49 : Int) + a1) (h1 : 1 ≤ a1 ∧ a1 ≤ 8) : 0 ≤ a0 ∧ a0 < 103 := by omega
theorem om_530 {a0 a1 : Int} (h0 : a0 = (49 : Int) + a1) (h1 : 1 ≤ a1 ∧ a1 ≤ 8) : (0 : Int) ≤ a0 := by omega
theorem om_531 {a0 : Int} (h0 : (-3) ≤ a0 ∧ a0 ≤ 3) : -2147483648 ≤ -a0 ∧ -a0 < 2147483648 := by omega
theorem om_532 {a0 a1 : Int} (h0 : a0 = -a1) (h1 : (-3) ≤ a1 ∧ a1 ≤ 3) : (-3) ≤ a0 ∧ a0 ≤ 3 := by omega
theorem om_533 {a0 a1 : Int} (h0 : a0 = -a1) (h1 : ¬ a1 = 0) : ¬ a0 = 0 := by omega
theorem om_534 {a0 a1 : Int} (h0 : ¬ a1 = 0) (h1 : a0 = -a1) : ¬ a0 = 0 := by omega
theorem om_535 {a0 a1 : Int} (h0 : 1 ≤ a1 ∧ a1 ≤ 9) (h1 : 0 ≤ a0 ∧ a0 ≤ 1) (h2 : ((a0 = 0 ∧ a1 = 0) ∨ (a0 = 1 ∧ 1 ≤ a1))) : ((a0 = 0 ∧ a1 = 0) ∨ (a0 = 1 ∧ 1 ≤ a1)) := by omega
theorem om_536 {a0 : Int} (h0 : 1 ≤ a0 ∧ a0 ≤ 1) : 1 ≤ a0 ∧ a0 ≤ 1 := by omega
theorem om_537 {a0 a1 : Int} (h0 : ¬ (a1 ≤ a0)) (h1 : 1 ≤ a1 ∧ a1 ≤ 9) (h2 : 1 ≤ a0 ∧ a0 ≤ 9) : -2147483648 ≤ a0 - (1 : Int) ∧ a0 - (1 : Int) < 2147483648 := by omega
theorem om_538 {a0 a1 : Int} (h0 : ¬ (a1 ≤ a0)) (h1 : 1 ≤ a1 ∧ a1 ≤ 9) (h2 : 1 ≤ a0 ∧ a0 ≤ 9) : 0 ≤ a0 ∧ a0 ≤ 8 := by omega
theorem om_539 {a0 a1 : Int} (h0 : ¬ (a0 ≤ a1)) (h1 : 1 ≤ a0 ∧ a0 ≤ 9) (h2 : 1 ≤ a1 ∧ a1 ≤ 9) : 0 ≤ a0 ∧ a0 ≤ 9 := by omega
theorem om_540 {a0 a1 : Int} (h0 : ¬ (a1 ≤ a0)) (h1 : 1 ≤ a1 ∧ a1 ≤ 9) (h2 : 1 ≤ a0 ∧ a0 ≤ 9) : 0 ≤ a0 ∧ a0 ≤ 9 := by omega
theorem om_541 {a0 a1 : Int} (h0 : ¬ (a1 ≤ a0)) (h1 : 1 ≤ a1 ∧ a1 ≤ 9) (h2 : 1 ≤ a0 ∧ a0 ≤ 9) : -2147483648 ≤ a0 + 1 ∧ a0 + 1 < 2147483648 := by omega
theorem om_542 {a0 a1 a2 : Int} (h0 : ¬ (a1 ≤ a2)) (h1 : a0 = a2 + 1) (h2 : 1 ≤ a1 ∧ a1 ≤ 9) (h3 : 1 ≤ a2 ∧ a2 ≤ 9) : 1 ≤ a0 ∧ a0 ≤ 9 := by omega
theorem om_543 {a0 a1 a2 : Int} (h0 : ¬ (a1 ≤ a2)) (h1 : a0 = a2 + 1) : a0 ≤ a1 := by omega
theorem om_544 {a0 a1 a2 : Int} (h0 : ¬ (a2 ≤ a1)) (h1 : a0 = a1 + 1) (h2 : 1 ≤ a2 ∧ a2 ≤ 9) : (10 - a0).toNat < (10 - a1).toNat := by omega
theorem om_545 {a0 a1 : Int} (h0 : ¬ (a1 ≤ a0)) (h1 : 1 ≤ a1 ∧ a1 ≤ 9) (h2 : 1 ≤ a0 ∧ a0 ≤ 9) : -2147483648 ≤ (13 : Int) + a0 ∧ (13 : Int) + a0 < 2147483648 := by omega
theorem om_546 {a0 a1 a2 : Int} (h0 : ¬ (a1 ≤ a2)) (h1 : a0 = (13 : Int) + a2) (h2 : 1 ≤ a1 ∧ a1 ≤ 9) (h3 : 1 ≤ a2 ∧ a2 ≤ 9) : 0 ≤ a0 ∧ a0 < 103 := by omega
theorem om_547 {a0 a1 a2 : Int} (h0 : ¬ (a1 ≤ a2)) (h1 : a0 = (13 : Int) + a2) (h2 : 1 ≤ a1 ∧ a1 ≤ 9) (h3 : 1 ≤ a2 ∧ a2 ≤ 9) : (13 ≤ a0 ∧ a0 ≤ 21) := by omega
theorem om_548 {a0 a1 : Int} (h0 : ¬ (a1 ≤ a0)) (h1 : 1 ≤ a1 ∧ a1 ≤ 9) (h2 : 1 ≤ a0 ∧ a0 ≤ 9) : 1 ≤ a0 ∧ a0 ≤ 8 := by omega
theorem om_549 {a0 a1 a2 : Int} (h0 : a2 = (13 : Int) + a1) (h1 : 0 ≤ a0 ∧ a0 ≤ 8 ∧ (a0 = 0 ∨ a0 < a2 - 13)) (h2 : 1 ≤ a1 ∧ a1 ≤ 9) : a0 < a1 := by omega
theorem om_550 {a0 : Int} (h0 : 1 ≤ a0 ∧ a0 ≤ 9) : (1 : Int) ≤ a0 := by omega
theorem om_551 {a0 : Int} (h0 : ¬ ((3 : Int) ≤ a0)) (h1 : 0 ≤ a0 ∧ a0 ≤ 3) : 0 ≤ a0 ∧ a0 < 30 := by omega
theorem dX9_part_0 : decode cX9_part 0 = .ok (.aload_n 0, 1) := by decide +kernel
theorem dX9_part_1 : decode cX9_part 1 = .ok (.aload_n 0, 1) := by decide +kernel
theorem dX9_part_2 : decode cX9_part 2 = .ok (.invokevirtual 210, 3) := by decide +kernel
theorem dX9_part_5 : decode cX9_part 5 = .ok (.putfield 51, 3) := by decide +kernel
theorem dX9_part_8 : decode cX9_part 8 = .ok (.aload_n 0, 1) := by decide +kernel
theorem dX9_part_9 : decode cX9_part 9 = .ok (.iconst 0, 1) := by decide +kernel
theorem dX9_part_10 : decode cX9_part 10 = .ok (.putfield 54, 3) := by decide +kernel
theorem dX9_part_13 : decode cX9_part 13 = .ok (.aload_n 0, 1) := by decide +kernel
theorem dX9_part_14 : decode cX9_part 14 = .ok (.iconst 0, 1) := by decide +kernel
theorem dX9_part_15 : decode cX9_part 15 = .ok (.putfield 60, 3) := by decide +kernel
theorem dX9_part_18 : decode cX9_part 18 = .ok (.aload_n 0, 1) := by decide +kernel
theorem dX9_part_19 : decode cX9_part 19 = .ok (.iconst (-1), 1) := by decide +kernel
theorem dX9_part_20 : decode cX9_part 20 = .ok (.putfield 63, 3) := by decide +kernel
theorem dX9_part_23 : decode cX9_part 23 = .ok (.aload_n 0, 1) := by decide +kernel
theorem dX9_part_24 : decode cX9_part 24 = .ok (.invokevirtual 213, 3) := by decide +kernel
theorem dX9_part_27 : decode cX9_part 27 = .ok (.istore_n 1, 1) := by decide +kernel
theorem dX9_part_28 : decode cX9_part 28 = .ok (.aload_n 0, 1) := by decide +kernel
theorem dX9_part_29 : decode cX9_part 29 = .ok (.aload_n 0, 1) := by decide +kernel
theorem dX9_part_30 : decode cX9_part 30 = .ok (.getfield 60, 3) := by decide +kernel
theorem dX9_part_33 : decode cX9_part 33 = .ok (.putfield 45, 3) := by decide +kernel
theorem dX9_part_36 : decode cX9_part 36 = .ok (.aload_n 0, 1) := by decide +kernel
theorem dX9_part_37 : decode cX9_part 37 = .ok (.aload_n 0, 1) := by decide +kernel
theorem dX9_part_38 : decode cX9_part 38 = .ok (.getfield 63, 3) := by decide +kernel
theorem dX9_part_41 : decode cX9_part 41 = .ok (.putfield 48, 3) := by decide +kernel
theorem dX9_part_44 : decode cX9_part 44 = .ok (.aload_n 0, 1) := by decide +kernel
theorem dX9_part_45 : decode cX9_part 45 = .ok (.getfield 60, 3) := by decide +kernel
theorem dX9_part_48 : decode cX9_part 48 = .ok (.ifCond .eq 9, 3) := by decide +kernel
theorem dX9_part_57 : decode cX9_part 57 = .ok (.iconst 0, 1) := by decide +kernel
theorem dX9_part_58 : decode cX9_part 58 = .ok (.istore_n 2, 1) := by decide +kernel
theorem dX9_part_59 : decode cX9_part 59 = .ok (.iload_n 2, 1) := by decide +kernel
theorem dX9_part_60 : decode cX9_part 60 = .ok (.bipush 103, 2) := by decide +kernel
theorem dX9_part_62 : decode cX9_part 62 = .ok (.if_icmp .ge 21, 3) := by decide +kernel
theorem dX9_part_83 : decode cX9_part 83 = .ok (.iconst 0, 1) := by decide +kernel
theorem dX9_part_84 : decode cX9_part 84 = .ok (.istore_n 2, 1) := by decide +kernel
theorem dX9_part_85 : decode cX9_part 85 = .ok (.iload_n 2, 1) := by decide +kernel
theorem dX9_part_86 : decode cX9_part 86 = .ok (.bipush 21, 2) := by decide +kernel
theorem dX9_part_88 : decode cX9_part 88 = .ok (.if_icmp .ge 21, 3) := by decide +kernel
theorem dX9_part_109 : decode cX9_part 109 = .ok (.aload_n 0, 1) := by decide +kernel
theorem dX9_part_110 : decode cX9_part 110 = .ok (.iconst 1, 1) := by decide +kernel
theorem dX9_part_111 : decode cX9_part 111 = .ok (.putfield 32, 3) := by decide +kernel
theorem dX9_part_114 : decode cX9_part 114 = .ok (.aload_n 0, 1) := by decide +kernel
theorem dX9_part_115 : decode cX9_part 115 = .ok (.iconst 0, 1) := by decide +kernel
theorem dX9_part_116 : decode cX9_part 116 = .ok (.putfield 72, 3) := by decide +kernel
theorem dX9_part_119 : decode cX9_part 119 = .ok (.aload_n 0, 1) := by decide +kernel
theorem dX9_part_120 : decode cX9_part 120 = .ok (.iconst 0, 1) := by decide +kernel
theorem dX9_part_121 : decode cX9_part 121 = .ok (.putfield 25, 3) := by decide +kernel
theorem dX9_part_124 : decode cX9_part 124 = .ok (.aload_n 0, 1) := by decide +kernel
theorem dX9_part_125 : decode cX9_part 125 = .ok (.iconst 0, 1) := by decide +kernel
theorem dX9_part_126 : decode cX9_part 126 = .ok (.putfield 115, 3) := by decide +kernel
theorem dX9_part_129 : decode cX9_part 129 = .ok (.iload_n 1, 1) := by decide +kernel
theorem dX9_part_130 : decode cX9_part 130 = .ok (.ireturn, 1) := by decide +kernel
theorem dX9_part_91 : decode cX9_part 91 = .ok (.aload_n 0, 1) := by decide +kernel
theorem dX9_part_92 : decode cX9_part 92 = .ok (.getfield 16, 3) := by decide +kernel
theorem dX9_part_95 : decode cX9_part 95 = .ok (.iload_n 2, 1) := by decide +kernel
theorem dX9_part_96 : decode cX9_part 96 = .ok (.aload_n 0, 1) := by decide +kernel
theorem dX9_part_97 : decode cX9_part 97 = .ok (.getfield 19, 3) := by decide +kernel
theorem dX9_part_100 : decode cX9_part 100 = .ok (.iload_n 2, 1) := by decide +kernel
theorem dX9_part_101 : decode cX9_part 101 = .ok (.iaload, 1) := by decide +kernel
theorem dX9_part_102 : decode cX9_part 102 = .ok (.iastore, 1) := by decide +kernel
theorem dX9_part_103 : decode cX9_part 103 = .ok (.iinc 2 1, 3) := by decide +kernel
theorem dX9_part_106 : decode cX9_part 106 = .ok (.goto (-21), 3) := by decide +kernel
theorem dX9_part_65 : decode cX9_part 65 = .ok (.aload_n 0, 1) := by decide +kernel
theorem dX9_part_66 : decode cX9_part 66 = .ok (.getfield 7, 3) := by decide +kernel
theorem dX9_part_69 : decode cX9_part 69 = .ok (.iload_n 2, 1) := by decide +kernel
theorem dX9_part_70 : decode cX9_part 70 = .ok (.aload_n 0, 1) := by decide +kernel
theorem dX9_part_71 : decode cX9_part 71 = .ok (.getfield 13, 3) := by decide +kernel
theorem dX9_part_74 : decode cX9_part 74 = .ok (.iload_n 2, 1) := by decide +kernel
theorem dX9_part_75 : decode cX9_part 75 = .ok (.iaload, 1) := by decide +kernel
theorem dX9_part_76 : decode cX9_part 76 = .ok (.iastore, 1) := by decide +kernel
theorem dX9_part_77 : decode cX9_part 77 = .ok (.iinc 2 1, 3) := by decide +kernel
theorem dX9_part_80 : decode cX9_part 80 = .ok (.goto (-21), 3) := by decide +kernel
theorem dX9_part_51 : decode cX9_part 51 = .ok (.aload_n 0, 1) := by decide +kernel
theorem dX9_part_52 : decode cX9_part 52 = .ok (.iconst 1, 1) := by decide +kernel
theorem dX9_part_53 : decode cX9_part 53 = .ok (.invokevirtual 124, 3) := by decide +kernel
theorem dX9_part_56 : decode cX9_part 56 = .ok (.ireturn, 1) := by decide +kernel
abbrev rm_kX9_part : Room := { frames := 8, cells := 0, slots := 0, locals := 175 }
set_option maxHeartbeats 4000000 in
set_option maxRecDepth 100000 in
theorem kX9_part (l : Launch) (g : zL) (h0 : Nat) (h0_told : Nat) (h0_read : Nat) (h0_now : Nat) (h0_readNow : Nat) (h0_kept : Nat) (h0_undone : Int32) (h0_seed : Int32) (h0_hasPart : Int32) (h0_tape : Nat) (h0_taped : Int32) (h0_refused : Nat) (h0_faultKind : Int32) (h0_faultPlace : Int32) (h0_size : Int32) (h0_at : Int32) (h0_from : Int32) (h0_wrong : Int32) (h0_wrongAt : Int32) (h0_ownLetters : Nat) (h0_flats : Nat) (h0_isLaid : Int32) (h0_corner : Nat) (h0_wayX : Nat) (h0_wayY : Nat) (h0_normal : Nat) (h0_low : Nat) (h0_high : Nat) (h0_clear : Nat) (h0_ways : Nat) (h0_canBe : Nat) (h0_lain : Nat) (h0_canTool : Int32) (h0_fewestBy : Nat) (h0_sortOf : Nat) (h0_rows : Int32) (h0_seenFlange : Nat) (h0_seenLength : Nat) (f_h0_now : Nat → Int32) (h0_now_0 : Int32) (f_h0_told : Nat → Int32) (h0_told_3 : Int32) (h0_told_4 : Int32) (f_h0_kept : Nat → Int32) (f_h0_read : Nat → Int32) (h0_read_3 : Int32) (h0_read_4 : Int32) (f_h0_readNow : Nat → Int32) (f_h0_tape : Nat → Int32) (f_h0_ownLetters : Nat → Int32) (f_h0_refused : Nat → Int32) (hy0 : 0 ≤ h0_undone.toInt ∧ h0_undone.toInt ≤ 20) (hy1 : 0 ≤ h0_seed.toInt ∧ h0_seed.toInt ≤ 2147483647) (hy2 : 0 ≤ h0_hasPart.toInt ∧ h0_hasPart.toInt ≤ 1) (hy3 : 0 ≤ h0_taped.toInt ∧ h0_taped.toInt ≤ 1200) (hy4 : 0 ≤ h0_faultKind.toInt ∧ h0_faultKind.toInt ≤ 5) (hy5 : 0 ≤ h0_size.toInt ∧ h0_size.toInt ≤ 1200) (hy6 : 0 ≤ h0_at.toInt ∧ h0_at.toInt ≤ 1200) (hy7 : 0 ≤ h0_from.toInt ∧ h0_from.toInt ≤ 1200) (hy8 : 0 ≤ h0_wrong.toInt ∧ h0_wrong.toInt ≤ 5) (hy9 : 0 ≤ h0_isLaid.toInt ∧ h0_isLaid.toInt ≤ 1) (hy10 : 0 ≤ h0_canTool.toInt ∧ h0_canTool.toInt ≤ 255) (hy11 : 0 ≤ h0_rows.toInt ∧ h0_rows.toInt ≤ 8) (hy12 : pW nB f_h0_now) (hy13 : 0 ≤ h0_now_0.toInt ∧ h0_now_0.toInt ≤ 255) (hy14 : cEq f_h0_now 0 h0_now_0) (hy15 : pW mB f_h0_told) (hy16 : 0 ≤ h0_told_3.toInt ∧ h0_told_3.toInt ≤ 9) (hy17 : cEq f_h0_told 3 h0_told_3) (hy18 : 0 ≤ h0_told_4.toInt ∧ h0_told_4.toInt ≤ 8) (hy19 : cEq f_h0_told 4 h0_told_4) (hy20 : pW kB f_h0_kept) (hy21 : pW mB f_h0_read) (hy22 : 0 ≤ h0_read_3.toInt ∧ h0_read_3.toInt ≤ 9) (hy23 : cEq f_h0_read 3 h0_read_3) (hy24 : 0 ≤ h0_read_4.toInt ∧ h0_read_4.toInt ≤ 8) (hy25 : cEq f_h0_read 4 h0_read_4) (hy26 : pW rB f_h0_readNow) (hy27 : aI 0 255 f_h0_tape) (hy28 : True) (hy29 : cEq f_h0_ownLetters 94 (0 : Int32)) (hy30 : pA h0_now_0 h0_told_3) (hy31 : pKp f_h0_kept h0_undone h0_told_3) (hy32 : h0_at.toInt ≤ h0_size.toInt) (hy33 : ((h0_hasPart.toInt = 0 ∧ h0_told_3.toInt = 0) ∨ (h0_hasPart.toInt = 1 ∧ 1 ≤ h0_told_3.toInt))) : zCi l g yX9_part cX9_part 3 (some .int) rm_kX9_part [.ref h0] [(h0, .inr (9, [.ref h0_told, .ref h0_read, .ref h0_now, .ref h0_readNow, .ref h0_kept, .int h0_undone, .int h0_seed, .int h0_hasPart, .ref h0_tape, .int h0_taped, .ref h0_refused, .int h0_faultKind, .int h0_faultPlace, .int h0_size, .int h0_at, .int h0_from, .int h0_wrong, .int h0_wrongAt, .ref h0_ownLetters, .ref h0_flats, .int h0_isLaid, .ref h0_corner, .ref h0_wayX, .ref h0_wayY, .ref h0_normal, .ref h0_low, .ref h0_high, .ref h0_clear, .ref h0_ways, .ref h0_canBe, .ref h0_lain, .int h0_canTool, .ref h0_fewestBy, .ref h0_sortOf, .int h0_rows, .ref h0_seenFlange, .ref h0_seenLength])), (h0_now, .inl (g.2.1.1, 21, .inl f_h0_now)), (h0_told, .inl (g.2.1.1, 103, .inl f_h0_told)), (h0_kept, .inl (g.2.1.1, 420, .inl f_h0_kept)), (h0_read, .inl (g.2.1.1, 103, .inl f_h0_read)), (h0_readNow, .inl (g.2.1.1, 21, .inl f_h0_readNow)), (h0_tape, .inl (g.2.1.1, 1200, .inl f_h0_tape)), (h0_ownLetters, .inl (g.2.1.1, 95, .inl f_h0_ownLetters)), (h0_refused, .inl (g.2.1.1, 6, .inl f_h0_refused))] (fun (r : Int32) (u : Int32 × Int32 × Int32 × Int32 × Int32 × Int32 × Int32 × Int32 × Int32 × Int32 × Int32 × (Nat → Int32) × Int32 × (Nat → Int32) × Int32 × Int32 × (Nat → Int32) × Int32 × Int32 × (Nat → Int32) × (Nat → Int32)) => (0 ≤ u.1.toInt ∧ u.1.toInt ≤ 20) ∧ (0 ≤ u.2.1.toInt ∧ u.2.1.toInt ≤ 1) ∧ (0 ≤ u.2.2.1.toInt ∧ u.2.2.1.toInt ≤ 5) ∧ (0 ≤ u.2.2.2.2.1.toInt ∧ u.2.2.2.2.1.toInt ≤ 1200) ∧ (0 ≤ u.2.2.2.2.2.1.toInt ∧ u.2.2.2.2.2.1.toInt ≤ 1200) ∧ (0 ≤ u.2.2.2.2.2.2.1.toInt ∧ u.2.2.2.2.2.2.1.toInt ≤ 1200) ∧ (0 ≤ u.2.2.2.2.2.2.2.1.toInt ∧ u.2.2.2.2.2.2.2.1.toInt ≤ 5) ∧ (0 ≤ u.2.2.2.2.2.2.2.2.2.1.toInt ∧ u.2.2.2.2.2.2.2.2.2.1.toInt ≤ 1) ∧ (0 ≤ u.2.2.2.2.2.2.2.2.2.2.1.toInt ∧ u.2.2.2.2.2.2.2.2.2.2.1.toInt ≤ 8) ∧ (pW nB u.2.2.2.2.2.2.2.2.2.2.2.1) ∧ (0 ≤ u.2.2.2.2.2.2.2.2.2.2.2.2.1.toInt ∧ u.2.2.2.2.2.2.2.2.2.2.2.2.1.toInt ≤ 255) ∧ (cEq u.2.2.2.2.2.2.2.2.2.2.2.1 0 u.2.2.2.2.2.2.2.2.2.2.2.2.1) ∧ (pW mB u.2.2.2.2.2.2.2.2.2.2.2.2.2.1) ∧ (0 ≤ u.2.2.2.2.2.2.2.2.2.2.2.2.2.2.1.toInt ∧ u.2.2.2.2.2.2.2.2.2.2.2.2.2.2.1.toInt ≤ 9) ∧ (cEq u.2.2.2.2.2.2.2.2.2.2.2.2.2.1 3 u.2.2.2.2.2.2.2.2.2.2.2.2.2.2.1) ∧ (0 ≤ u.2.2.2.2.2.2.2.2.2.2.2.2.2.2.2.1.toInt ∧ u.2.2.2.2.2.2.2.2.2.2.2.2.2.2.2.1.toInt ≤ 8) ∧ (cEq u.2.2.2.2.2.2.2.2.2.2.2.2.2.1 4 u.2.2.2.2.2.2.2.2.2.2.2.2.2.2.2.1) ∧ (pW mB u.2.2.2.2.2.2.2.2.2.2.2.2.2.2.2.2.1) ∧ (1 ≤ u.2.2.2.2.2.2.2.2.2.2.2.2.2.2.2.2.2.1.toInt ∧ u.2.2.2.2.2.2.2.2.2.2.2.2.2.2.2.2.2.1.toInt ≤ 9) ∧ (cEq u.2.2.2.2.2.2.2.2.2.2.2.2.2.2.2.2.1 3 u.2.2.2.2.2.2.2.2.2.2.2.2.2.2.2.2.2.1) ∧ (0 ≤ u.2.2.2.2.2.2.2.2.2.2.2.2.2.2.2.2.2.2.1.toInt ∧ u.2.2.2.2.2.2.2.2.2.2.2.2.2.2.2.2.2.2.1.toInt ≤ 8) ∧ (cEq u.2.2.2.2.2.2.2.2.2.2.2.2.2.2.2.2.1 4 u.2.2.2.2.2.2.2.2.2.2.2.2.2.2.2.2.2.2.1) ∧ (pW rB u.2.2.2.2.2.2.2.2.2.2.2.2.2.2.2.2.2.2.2.1) ∧ (((u.2.1.toInt = 0 ∧ u.2.2.2.2.2.2.2.2.2.2.2.2.2.2.1.toInt = 0) ∨ (u.2.1.toInt = 1 ∧ 1 ≤ u.2.2.2.2.2.2.2.2.2.2.2.2.2.2.1.toInt))) ∧ (pA u.2.2.2.2.2.2.2.2.2.2.2.2.1 u.2.2.2.2.2.2.2.2.2.2.2.2.2.2.1) ∧ (pKp f_h0_kept u.1 u.2.2.2.2.2.2.2.2.2.2.2.2.2.2.1) ∧ (u.2.2.2.2.2.1.toInt ≤ u.2.2.2.2.1.toInt)) (fun (u : Int32 × Int32 × Int32 × Int32 × Int32 × Int32 × Int32 × Int32 × Int32 × Int32 × Int32 × (Nat → Int32) × Int32 × (Nat → Int32) × Int32 × Int32 × (Nat → Int32) × Int32 × Int32 × (Nat → Int32) × (Nat → Int32)) => [(h0, .inr (9, [.ref h0_told, .ref h0_read, .ref h0_now, .ref h0_readNow, .ref h0_kept, .int u.1, .int h0_seed, .int u.2.1, .ref h0_tape, .int 0, .ref h0_refused, .int u.2.2.1, .int u.2.2.2.1, .int u.2.2.2.2.1, .int u.2.2.2.2.2.1, .int u.2.2.2.2.2.2.1, .int u.2.2.2.2.2.2.2.1, .int u.2.2.2.2.2.2.2.2.1, .ref h0_ownLetters, .ref h0_flats, .int u.2.2.2.2.2.2.2.2.2.1, .ref h0_corner, .ref h0_wayX, .ref h0_wayY, .ref h0_normal, .ref h0_low, .ref h0_high, .ref h0_clear, .ref h0_ways, .ref h0_canBe, .ref h0_lain, .int h0_canTool, .ref h0_fewestBy, .ref h0_sortOf, .int u.2.2.2.2.2.2.2.2.2.2.1, .ref h0_seenFlange, .ref h0_seenLength])), (h0_now, .inl (g.2.1.1, 21, .inl u.2.2.2.2.2.2.2.2.2.2.2.1)), (h0_told, .inl (g.2.1.1, 103, .inl u.2.2.2.2.2.2.2.2.2.2.2.2.2.1)), (h0_kept, .inl (g.2.1.1, 420, .inl f_h0_kept)), (h0_read, .inl (g.2.1.1, 103, .inl u.2.2.2.2.2.2.2.2.2.2.2.2.2.2.2.2.1)), (h0_readNow, .inl (g.2.1.1, 21, .inl u.2.2.2.2.2.2.2.2.2.2.2.2.2.2.2.2.2.2.2.1)), (h0_tape, .inl (g.2.1.1, 1200, .inl f_h0_tape)), (h0_ownLetters, .inl (g.2.1.1, 95, .inl f_h0_ownLetters)), (h0_refused, .inl (g.2.1.1, 6, .inl u.2.2.2.2.2.2.2.2.2.2.2.2.2.2.2.2.2.2.2.2))]) := by
  refine zCi.mk2 (by decide) (Nat.le_of_ble_eq_true rfl) ?_
  intro p e s m below meth c A args Q hE hret hP hD hS ls hl
  obtain ⟨hx, hb, hr, hml, hown, hG, hlocks, hnm, hX, hA⟩ := hE
  have hown : s.vm.findClass RX9 = some m.cls := hown
  have hl : lv_has ls 3 [(0, .ref h0)] := hl
  refine lv_aload_n hx hb dX9_part_0 rfl (lv_at hl 0 rfl) ?_
  refine lv_aload_n hx hb dX9_part_1 rfl (lv_at hl 0 rfl) ?_
  refine zfi (wr := [(h0_now, .inl (g.2.1.1, 21, .inl f_h0_now)), (h0_told, .inl (g.2.1.1, 103, .inl f_h0_told)), (h0_kept, .inl (g.2.1.1, 420, .inl f_h0_kept)), (h0_read, .inl (g.2.1.1, 103, .inl f_h0_read)), (h0_readNow, .inl (g.2.1.1, 21, .inl f_h0_readNow)), (h0_tape, .inl (g.2.1.1, 1200, .inl f_h0_tape)), (h0_ownLetters, .inl (g.2.1.1, 95, .inl f_h0_ownLetters)), (h0_refused, .inl (g.2.1.1, 6, .inl f_h0_refused))]) (va_runV (As := []) (rest := [.ref h0]) ⟨hx, hb, hml, hown, hG⟩ (kX9_taken l g h0 h0_told h0_read h0_now h0_readNow h0_kept h0_undone h0_seed h0_hasPart h0_tape h0_taped h0_refused h0_faultKind h0_faultPlace h0_size h0_at h0_from h0_wrong h0_wrongAt h0_ownLetters h0_flats h0_isLaid h0_corner h0_wayX h0_wayY h0_normal h0_low h0_high h0_clear h0_ways h0_canBe h0_lain h0_canTool h0_fewestBy h0_sortOf h0_rows h0_seenFlange h0_seenLength (om_27 hy0) (om_28 hy1) (om_29 hy2) (om_32 hy3) (om_31 hy4) (om_32 hy5) (om_32 hy6) (om_32 hy7) (om_31 hy8) (om_29 hy9) (om_13 hy10) (om_33 hy11) _) ⟨callB_of 0 hG (zGood wc_X9_taken) rfl rfl rfl (hG _ wini_X9) (hG _ wm_X9_210) hX9_taken ⟨Nat.le_of_ble_eq_true rfl, Nat.le_of_ble_eq_true rfl⟩, hG _ wi_X9_taken, hG _ wse_X9_X9_taken⟩ (zpreV (va_recv hX.1 hP (ci := 9) (q0 := 0) rfl rfl) hX hP hD hS hA [0] rfl (by decide)) rfl rfl hl.1 rfl (lv_room (Nat.le_of_ble_eq_true rfl)) dX9_part_2 ⟨Nat.le_of_ble_eq_true rfl, Nat.le_of_ble_eq_true rfl⟩) hP hD hS hA [0] [1, 2, 3, 4, 5, 6, 7, 8] rfl rfl (by decide) (by decide) (fun r1 _ H locs hp hP hD hS => ?_)
  refine W.cs (cells' := 0) (slots' := 0) rfl rfl ?_
  have hq2 : r1 = h0_taped := hp
  have hq2 := Eq.symm hq2
  subst hq2
  have hP : va_P g.1 vwCl [(h0_now, .inl (g.2.1.1, 21, .inl f_h0_now)), (h0_told, .inl (g.2.1.1, 103, .inl f_h0_told)), (h0_kept, .inl (g.2.1.1, 420, .inl f_h0_kept)), (h0_read, .inl (g.2.1.1, 103, .inl f_h0_read)), (h0_readNow, .inl (g.2.1.1, 21, .inl f_h0_readNow)), (h0_tape, .inl (g.2.1.1, 1200, .inl f_h0_tape)), (h0_ownLetters, .inl (g.2.1.1, 95, .inl f_h0_ownLetters)), (h0_refused, .inl (g.2.1.1, 6, .inl f_h0_refused)), (h0, .inr (9, [.ref h0_told, .ref h0_read, .ref h0_now, .ref h0_readNow, .ref h0_kept, .int h0_undone, .int h0_seed, .int h0_hasPart, .ref h0_tape, .int 0, .ref h0_refused, .int h0_faultKind, .int h0_faultPlace, .int h0_size, .int h0_at, .int h0_from, .int h0_wrong, .int h0_wrongAt, .ref h0_ownLetters, .ref h0_flats, .int h0_isLaid, .ref h0_corner, .ref h0_wayX, .ref h0_wayY, .ref h0_normal, .ref h0_low, .ref h0_high, .ref h0_clear, .ref h0_ways, .ref h0_canBe, .ref h0_lain, .int h0_canTool, .ref h0_fewestBy, .ref h0_sortOf, .int h0_rows, .ref h0_seenFlange, .ref h0_seenLength]))] H := hP
  have hD : va_D A [(h0_now, .inl (g.2.1.1, 21, .inl f_h0_now)), (h0_told, .inl (g.2.1.1, 103, .inl f_h0_told)), (h0_kept, .inl (g.2.1.1, 420, .inl f_h0_kept)), (h0_read, .inl (g.2.1.1, 103, .inl f_h0_read)), (h0_readNow, .inl (g.2.1.1, 21, .inl f_h0_readNow)), (h0_tape, .inl (g.2.1.1, 1200, .inl f_h0_tape)), (h0_ownLetters, .inl (g.2.1.1, 95, .inl f_h0_ownLetters)), (h0_refused, .inl (g.2.1.1, 6, .inl f_h0_refused)), (h0, .inr (9, [.ref h0_told, .ref h0_read, .ref h0_now, .ref h0_readNow, .ref h0_kept, .int h0_undone, .int h0_seed, .int h0_hasPart, .ref h0_tape, .int 0, .ref h0_refused, .int h0_faultKind, .int h0_faultPlace, .int h0_size, .int h0_at, .int h0_from, .int h0_wrong, .int h0_wrongAt, .ref h0_ownLetters, .ref h0_flats, .int h0_isLaid, .ref h0_corner, .ref h0_wayX, .ref h0_wayY, .ref h0_normal, .ref h0_low, .ref h0_high, .ref h0_clear, .ref h0_ways, .ref h0_canBe, .ref h0_lain, .int h0_canTool, .ref h0_fewestBy, .ref h0_sortOf, .int h0_rows, .ref h0_seenFlange, .ref h0_seenLength]))] := hD
  refine va_put (D := g.1) (ci := 9) (v := .int h0_taped) (ty := .int) (C := RX9) (T := TX9) (N := 37) hx hb hG iX9 tyX9 tyX9_ok nmX9 hown hX.1 hP hD hS 8 rfl rfl 13 (by decide) (hG _ wf_X9_51) (fun _ h9 => h9) rfl (by decide +kernel) rfl rfl (Nat.le_of_ble_eq_true rfl) dX9_part_5 (fun H locs hP hD hS => ?_)
  have hP : va_P g.1 vwCl [(h0_now, .inl (g.2.1.1, 21, .inl f_h0_now)), (h0_told, .inl (g.2.1.1, 103, .inl f_h0_told)), (h0_kept, .inl (g.2.1.1, 420, .inl f_h0_kept)), (h0_read, .inl (g.2.1.1, 103, .inl f_h0_read)), (h0_readNow, .inl (g.2.1.1, 21, .inl f_h0_readNow)), (h0_tape, .inl (g.2.1.1, 1200, .inl f_h0_tape)), (h0_ownLetters, .inl (g.2.1.1, 95, .inl f_h0_ownLetters)), (h0_refused, .inl (g.2.1.1, 6, .inl f_h0_refused)), (h0, .inr (9, [.ref h0_told, .ref h0_read, .ref h0_now, .ref h0_readNow, .ref h0_kept, .int h0_undone, .int h0_seed, .int h0_hasPart, .ref h0_tape, .int 0, .ref h0_refused, .int h0_faultKind, .int h0_faultPlace, .int h0_taped, .int h0_at, .int h0_from, .int h0_wrong, .int h0_wrongAt, .ref h0_ownLetters, .ref h0_flats, .int h0_isLaid, .ref h0_corner, .ref h0_wayX, .ref h0_wayY, .ref h0_normal, .ref h0_low, .ref h0_high, .ref h0_clear, .ref h0_ways, .ref h0_canBe, .ref h0_lain, .int h0_canTool, .ref h0_fewestBy, .ref h0_sortOf, .int h0_rows, .ref h0_seenFlange, .ref h0_seenLength]))] H := hP
  have hD : va_D A [(h0_now, .inl (g.2.1.1, 21, .inl f_h0_now)), (h0_told, .inl (g.2.1.1, 103, .inl f_h0_told)), (h0_kept, .inl (g.2.1.1, 420, .inl f_h0_kept)), (h0_read, .inl (g.2.1.1, 103, .inl f_h0_read)), (h0_readNow, .inl (g.2.1.1, 21, .inl f_h0_readNow)), (h0_tape, .inl (g.2.1.1, 1200, .inl f_h0_tape)), (h0_ownLetters, .inl (g.2.1.1, 95, .inl f_h0_ownLetters)), (h0_refused, .inl (g.2.1.1, 6, .inl f_h0_refused)), (h0, .inr (9, [.ref h0_told, .ref h0_read, .ref h0_now, .ref h0_readNow, .ref h0_kept, .int h0_undone, .int h0_seed, .int h0_hasPart, .ref h0_tape, .int 0, .ref h0_refused, .int h0_faultKind, .int h0_faultPlace, .int h0_taped, .int h0_at, .int h0_from, .int h0_wrong, .int h0_wrongAt, .ref h0_ownLetters, .ref h0_flats, .int h0_isLaid, .ref h0_corner, .ref h0_wayX, .ref h0_wayY, .ref h0_normal, .ref h0_low, .ref h0_high, .ref h0_clear, .ref h0_ways, .ref h0_canBe, .ref h0_lain, .int h0_canTool, .ref h0_fewestBy, .ref h0_sortOf, .int h0_rows, .ref h0_seenFlange, .ref h0_seenLength]))] := hD
  refine lv_aload_n hx hb dX9_part_8 rfl (lv_at hl 0 rfl) ?_
  refine lv_iconst (v := 0) hx hb dX9_part_9 (by decide) ?_
  refine va_put (D := g.1) (ci := 9) (v := .int 0) (ty := .int) (C := RX9) (T := TX9) (N := 37) hx hb hG iX9 tyX9 tyX9_ok nmX9 hown hX.1 hP hD hS 8 rfl rfl 14 (by decide) (hG _ wf_X9_54) (fun _ h9 => h9) rfl (by decide +kernel) rfl rfl (Nat.le_of_ble_eq_true rfl) dX9_part_10 (fun H locs hP hD hS => ?_)
  have hP : va_P g.1 vwCl [(h0_now, .inl (g.2.1.1, 21, .inl f_h0_now)), (h0_told, .inl (g.2.1.1, 103, .inl f_h0_told)), (h0_kept, .inl (g.2.1.1, 420, .inl f_h0_kept)), (h0_read, .inl (g.2.1.1, 103, .inl f_h0_read)), (h0_readNow, .inl (g.2.1.1, 21, .inl f_h0_readNow)), (h0_tape, .inl (g.2.1.1, 1200, .inl f_h0_tape)), (h0_ownLetters, .inl (g.2.1.1, 95, .inl f_h0_ownLetters)), (h0_refused, .inl (g.2.1.1, 6, .inl f_h0_refused)), (h0, .inr (9, [.ref h0_told, .ref h0_read, .ref h0_now, .ref h0_readNow, .ref h0_kept, .int h0_undone, .int h0_seed, .int h0_hasPart, .ref h0_tape, .int 0, .ref h0_refused, .int h0_faultKind, .int h0_faultPlace, .int h0_taped, .int 0, .int h0_from, .int h0_wrong, .int h0_wrongAt, .ref h0_ownLetters, .ref h0_flats, .int h0_isLaid, .ref h0_corner, .ref h0_wayX, .ref h0_wayY, .ref h0_normal, .ref h0_low, .ref h0_high, .ref h0_clear, .ref h0_ways, .ref h0_canBe, .ref h0_lain, .int h0_canTool, .ref h0_fewestBy, .ref h0_sortOf, .int h0_rows, .ref h0_seenFlange, .ref h0_seenLength]))] H := hP
  have hD : va_D A [(h0_now, .inl (g.2.1.1, 21, .inl f_h0_now)), (h0_told, .inl (g.2.1.1, 103, .inl f_h0_told)), (h0_kept, .inl (g.2.1.1, 420, .inl f_h0_kept)), (h0_read, .inl (g.2.1.1, 103, .inl f_h0_read)), (h0_readNow, .inl (g.2.1.1, 21, .inl f_h0_readNow)), (h0_tape, .inl (g.2.1.1, 1200, .inl f_h0_tape)), (h0_ownLetters, .inl (g.2.1.1, 95, .inl f_h0_ownLetters)), (h0_refused, .inl (g.2.1.1, 6, .inl f_h0_refused)), (h0, .inr (9, [.ref h0_told, .ref h0_read, .ref h0_now, .ref h0_readNow, .ref h0_kept, .int h0_undone, .int h0_seed, .int h0_hasPart, .ref h0_tape, .int 0, .ref h0_refused, .int h0_faultKind, .int h0_faultPlace, .int h0_taped, .int 0, .int h0_from, .int h0_wrong, .int h0_wrongAt, .ref h0_ownLetters, .ref h0_flats, .int h0_isLaid, .ref h0_corner, .ref h0_wayX, .ref h0_wayY, .ref h0_normal, .ref h0_low, .ref h0_high, .ref h0_clear, .ref h0_ways, .ref h0_canBe, .ref h0_lain, .int h0_canTool, .ref h0_fewestBy, .ref h0_sortOf, .int h0_rows, .ref h0_seenFlange, .ref h0_seenLength]))] := hD
  refine lv_aload_n hx hb dX9_part_13 rfl (lv_at hl 0 rfl) ?_
  refine lv_iconst (v := 0) hx hb dX9_part_14 (by decide) ?_
  refine va_put (D := g.1) (ci := 9) (v := .int 0) (ty := .int) (C := RX9) (T := TX9) (N := 37) hx hb hG iX9 tyX9 tyX9_ok nmX9 hown hX.1 hP hD hS 8 rfl rfl 16 (by decide) (hG _ wf_X9_60) (fun _ h9 => h9) rfl (by decide +kernel) rfl rfl (Nat.le_of_ble_eq_true rfl) dX9_part_15 (fun H locs hP hD hS => ?_)
  have hP : va_P g.1 vwCl [(h0_now, .inl (g.2.1.1, 21, .inl f_h0_now)), (h0_told, .inl (g.2.1.1, 103, .inl f_h0_told)), (h0_kept, .inl (g.2.1.1, 420, .inl f_h0_kept)), (h0_read, .inl (g.2.1.1, 103, .inl f_h0_read)), (h0_readNow, .inl (g.2.1.1, 21, .inl f_h0_readNow)), (h0_tape, .inl (g.2.1.1, 1200, .inl f_h0_tape)), (h0_ownLetters, .inl (g.2.1.1, 95, .inl f_h0_ownLetters)), (h0_refused, .inl (g.2.1.1, 6, .inl f_h0_refused)), (h0, .inr (9, [.ref h0_told, .ref h0_read, .ref h0_now, .ref h0_readNow, .ref h0_kept, .int h0_undone, .int h0_seed, .int h0_hasPart, .ref h0_tape, .int 0, .ref h0_refused, .int h0_faultKind, .int h0_faultPlace, .int h0_taped, .int 0, .int h0_from, .int 0, .int h0_wrongAt, .ref h0_ownLetters, .ref h0_flats, .int h0_isLaid, .ref h0_corner, .ref h0_wayX, .ref h0_wayY, .ref h0_normal, .ref h0_low, .ref h0_high, .ref h0_clear, .ref h0_ways, .ref h0_canBe, .ref h0_lain, .int h0_canTool, .ref h0_fewestBy, .ref h0_sortOf, .int h0_rows, .ref h0_seenFlange, .ref h0_seenLength]))] H := hP
  have hD : va_D A [(h0_now, .inl (g.2.1.1, 21, .inl f_h0_now)), (h0_told, .inl (g.2.1.1, 103, .inl f_h0_told)), (h0_kept, .inl (g.2.1.1, 420, .inl f_h0_kept)), (h0_read, .inl (g.2.1.1, 103, .inl f_h0_read)), (h0_readNow, .inl (g.2.1.1, 21, .inl f_h0_readNow)), (h0_tape, .inl (g.2.1.1, 1200, .inl f_h0_tape)), (h0_ownLetters, .inl (g.2.1.1, 95, .inl f_h0_ownLetters)), (h0_refused, .inl (g.2.1.1, 6, .inl f_h0_refused)), (h0, .inr (9, [.ref h0_told, .ref h0_read, .ref h0_now, .ref h0_readNow, .ref h0_kept, .int h0_undone, .int h0_seed, .int h0_hasPart, .ref h0_tape, .int 0, .ref h0_refused, .int h0_faultKind, .int h0_faultPlace, .int h0_taped, .int 0, .int h0_from, .int 0, .int h0_wrongAt, .ref h0_ownLetters, .ref h0_flats, .int h0_isLaid, .ref h0_corner, .ref h0_wayX, .ref h0_wayY, .ref h0_normal, .ref h0_low, .ref h0_high, .ref h0_clear, .ref h0_ways, .ref h0_canBe, .ref h0_lain, .int h0_canTool, .ref h0_fewestBy, .ref h0_sortOf, .int h0_rows, .ref h0_seenFlange, .ref h0_seenLength]))] := hD
  refine lv_aload_n hx hb dX9_part_18 rfl (lv_at hl 0 rfl) ?_
  refine lv_iconst (v := (-1)) hx hb dX9_part_19 (by decide) ?_
  refine va_put (D := g.1) (ci := 9) (v := .int (-1)) (ty := .int) (C := RX9) (T := TX9) (N := 37) hx hb hG iX9 tyX9 tyX9_ok nmX9 hown hX.1 hP hD hS 8 rfl rfl 17 (by decide) (hG _ wf_X9_63) (fun _ h9 => h9) rfl (by decide +kernel) rfl rfl (Nat.le_of_ble_eq_true rfl) dX9_part_20 (fun H locs hP hD hS => ?_)
  have hP : va_P g.1 vwCl [(h0_now, .inl (g.2.1.1, 21, .inl f_h0_now)), (h0_told, .inl (g.2.1.1, 103, .inl f_h0_told)), (h0_kept, .inl (g.2.1.1, 420, .inl f_h0_kept)), (h0_read, .inl (g.2.1.1, 103, .inl f_h0_read)), (h0_readNow, .inl (g.2.1.1, 21, .inl f_h0_readNow)), (h0_tape, .inl (g.2.1.1, 1200, .inl f_h0_tape)), (h0_ownLetters, .inl (g.2.1.1, 95, .inl f_h0_ownLetters)), (h0_refused, .inl (g.2.1.1, 6, .inl f_h0_refused)), (h0, .inr (9, [.ref h0_told, .ref h0_read, .ref h0_now, .ref h0_readNow, .ref h0_kept, .int h0_undone, .int h0_seed, .int h0_hasPart, .ref h0_tape, .int 0, .ref h0_refused, .int h0_faultKind, .int h0_faultPlace, .int h0_taped, .int 0, .int h0_from, .int 0, .int (-1), .ref h0_ownLetters, .ref h0_flats, .int h0_isLaid, .ref h0_corner, .ref h0_wayX, .ref h0_wayY, .ref h0_normal, .ref h0_low, .ref h0_high, .ref h0_clear, .ref h0_ways, .ref h0_canBe, .ref h0_lain, .int h0_canTool, .ref h0_fewestBy, .ref h0_sortOf, .int h0_rows, .ref h0_seenFlange, .ref h0_seenLength]))] H := hP
  have hD : va_D A [(h0_now, .inl (g.2.1.1, 21, .inl f_h0_now)), (h0_told, .inl (g.2.1.1, 103, .inl f_h0_told)), (h0_kept, .inl (g.2.1.1, 420, .inl f_h0_kept)), (h0_read, .inl (g.2.1.1, 103, .inl f_h0_read)), (h0_readNow, .inl (g.2.1.1, 21, .inl f_h0_readNow)), (h0_tape, .inl (g.2.1.1, 1200, .inl f_h0_tape)), (h0_ownLetters, .inl (g.2.1.1, 95, .inl f_h0_ownLetters)), (h0_refused, .inl (g.2.1.1, 6, .inl f_h0_refused)), (h0, .inr (9, [.ref h0_told, .ref h0_read, .ref h0_now, .ref h0_readNow, .ref h0_kept, .int h0_undone, .int h0_seed, .int h0_hasPart, .ref h0_tape, .int 0, .ref h0_refused, .int h0_faultKind, .int h0_faultPlace, .int h0_taped, .int 0, .int h0_from, .int 0, .int (-1), .ref h0_ownLetters, .ref h0_flats, .int h0_isLaid, .ref h0_corner, .ref h0_wayX, .ref h0_wayY, .ref h0_normal, .ref h0_low, .ref h0_high, .ref h0_clear, .ref h0_ways, .ref h0_canBe, .ref h0_lain, .int h0_canTool, .ref h0_fewestBy, .ref h0_sortOf, .int h0_rows, .ref h0_seenFlange, .ref h0_seenLength]))] := hD
  refine lv_aload_n hx hb dX9_part_23 rfl (lv_at hl 0 rfl) ?_
  refine zfi (wr := [(h0_now, .inl (g.2.1.1, 21, .inl f_h0_now)), (h0_told, .inl (g.2.1.1, 103, .inl f_h0_told)), (h0_kept, .inl (g.2.1.1, 420, .inl f_h0_kept)), (h0_refused, .inl (g.2.1.1, 6, .inl f_h0_refused))]) (va_runV (As := []) (rest := []) ⟨hx, hb, hml, hown, hG⟩ (kX9_readsAll l g h0 h0_told h0_read h0_now h0_readNow h0_kept h0_undone h0_seed h0_hasPart h0_tape (0 : Int32) h0_refused h0_faultKind h0_faultPlace h0_taped (0 : Int32) h0_from (0 : Int32) (-1 : Int32) h0_ownLetters h0_flats h0_isLaid h0_corner h0_wayX h0_wayY h0_normal h0_low h0_high h0_clear h0_ways h0_canBe h0_lain h0_canTool h0_fewestBy h0_sortOf h0_rows h0_seenFlange h0_seenLength f_h0_read h0_read_3 h0_read_4 f_h0_readNow f_h0_tape f_h0_ownLetters (om_27 hy0) (om_28 hy1) (om_29 hy2) ((show 0 ≤ (0 : Int) ∧ (0 : Int) ≤ 1200 from by decide)) (om_31 hy4) (om_32 hy3) ((show 0 ≤ (0 : Int) ∧ (0 : Int) ≤ 1200 from by decide)) (om_32 hy7) ((show 0 ≤ (0 : Int) ∧ (0 : Int) ≤ 5 from by decide)) (om_29 hy9) (om_13 hy10) (om_33 hy11) hy21 (om_155 hy22) hy23 (om_33 hy24) hy25 hy26 hy27 trivial hy29 (om_304 hy3) _) ⟨callB_of 0 hG (zGood wc_X9_readsAll) rfl rfl rfl (hG _ wini_X9) (hG _ wm_X9_213) hX9_readsAll ⟨Nat.le_of_ble_eq_true rfl, Nat.le_of_ble_eq_true rfl⟩, hG _ wi_X9_readsAll, hG _ wse_X9_X9_readsAll⟩ (zpreV (va_recv hX.1 hP (ci := 9) (q0 := 8) rfl rfl) hX hP hD hS hA [8, 3, 4, 5, 6] rfl (by decide)) rfl rfl hl.1 rfl (lv_room (Nat.le_of_ble_eq_true rfl)) dX9_part_24 ⟨Nat.le_of_ble_eq_true rfl, Nat.le_of_ble_eq_true rfl⟩) hP hD hS hA [8, 3, 4, 5, 6] [0, 1, 2, 7] rfl rfl (by decide) (by decide) (fun r3 u4 H locs hp hP hD hS => ?_)
  refine W.cs (cells' := 0) (slots' := 0) rfl rfl ?_
  obtain ⟨v5, v6, v7, v8, f9, v10, v11, f12⟩ := u4
  obtain ⟨hq13, hq14, hq15, hq16, hq17, hq18, hq19, hq20, hq21, hq22, hq23, hq24⟩ : (0 ≤ v5.toInt ∧ v5.toInt ≤ 1200) ∧ (0 ≤ v6.toInt ∧ v6.toInt ≤ 1200) ∧ (0 ≤ v7.toInt ∧ v7.toInt ≤ 5) ∧ (pW mB f9) ∧ (1 ≤ v10.toInt ∧ v10.toInt ≤ 9) ∧ (cEq f9 3 v10) ∧ (0 ≤ v11.toInt ∧ v11.toInt ≤ 8) ∧ (cEq f9 4 v11) ∧ (pW rB f12) ∧ (1 ≤ v10.toInt) ∧ ((v5.toInt ≤ h0_taped.toInt ∧ (0 : Int) ≤ v5.toInt)) ∧ ((¬ v7.toInt = 0 ∨ (0 : Int) = 0)) := hp
  have hP : va_P g.1 vwCl [(h0_now, .inl (g.2.1.1, 21, .inl f_h0_now)), (h0_told, .inl (g.2.1.1, 103, .inl f_h0_told)), (h0_kept, .inl (g.2.1.1, 420, .inl f_h0_kept)), (h0_refused, .inl (g.2.1.1, 6, .inl f_h0_refused)), (h0, .inr (9, [.ref h0_told, .ref h0_read, .ref h0_now, .ref h0_readNow, .ref h0_kept, .int h0_undone, .int h0_seed, .int h0_hasPart, .ref h0_tape, .int 0, .ref h0_refused, .int h0_faultKind, .int h0_faultPlace, .int h0_taped, .int v5, .int v6, .int v7, .int v8, .ref h0_ownLetters, .ref h0_flats, .int h0_isLaid, .ref h0_corner, .ref h0_wayX, .ref h0_wayY, .ref h0_normal, .ref h0_low, .ref h0_high, .ref h0_clear, .ref h0_ways, .ref h0_canBe, .ref h0_lain, .int h0_canTool, .ref h0_fewestBy, .ref h0_sortOf, .int h0_rows, .ref h0_seenFlange, .ref h0_seenLength])), (h0_read, .inl (g.2.1.1, 103, .inl f9)), (h0_readNow, .inl (g.2.1.1, 21, .inl f12)), (h0_tape, .inl (g.2.1.1, 1200, .inl f_h0_tape)), (h0_ownLetters, .inl (g.2.1.1, 95, .inl f_h0_ownLetters))] H := hP
  have hD : va_D A [(h0_now, .inl (g.2.1.1, 21, .inl f_h0_now)), (h0_told, .inl (g.2.1.1, 103, .inl f_h0_told)), (h0_kept, .inl (g.2.1.1, 420, .inl f_h0_kept)), (h0_refused, .inl (g.2.1.1, 6, .inl f_h0_refused)), (h0, .inr (9, [.ref h0_told, .ref h0_read, .ref h0_now, .ref h0_readNow, .ref h0_kept, .int h0_undone, .int h0_seed, .int h0_hasPart, .ref h0_tape, .int 0, .ref h0_refused, .int h0_faultKind, .int h0_faultPlace, .int h0_taped, .int v5, .int v6, .int v7, .int v8, .ref h0_ownLetters, .ref h0_flats, .int h0_isLaid, .ref h0_corner, .ref h0_wayX, .ref h0_wayY, .ref h0_normal, .ref h0_low, .ref h0_high, .ref h0_clear, .ref h0_ways, .ref h0_canBe, .ref h0_lain, .int h0_canTool, .ref h0_fewestBy, .ref h0_sortOf, .int h0_rows, .ref h0_seenFlange, .ref h0_seenLength])), (h0_read, .inl (g.2.1.1, 103, .inl f9)), (h0_readNow, .inl (g.2.1.1, 21, .inl f12)), (h0_tape, .inl (g.2.1.1, 1200, .inl f_h0_tape)), (h0_ownLetters, .inl (g.2.1.1, 95, .inl f_h0_ownLetters))] := hD
  refine lv_istore_n (lv' := [(1, .int r3), (0, .ref h0)]) hx hb dX9_part_27 rfl hl (by decide) rfl (fun ls hl => ?_)
  refine lv_aload_n hx hb dX9_part_28 rfl (lv_at hl 1 rfl) ?_
  refine lv_aload_n hx hb dX9_part_29 rfl (lv_at hl 1 rfl) ?_
  refine va_get (D := g.1) (ci := 9) (v := .int v7) (C := RX9) (T := TX9) (N := 37) hx hb hG iX9 hown hX.1 hP 4 rfl rfl 16 (by decide) (hG _ wf_X9_60) (fun _ h9 => h9) rfl dX9_part_30 ?_
  refine va_put (D := g.1) (ci := 9) (v := .int v7) (ty := .int) (C := RX9) (T := TX9) (N := 37) hx hb hG iX9 tyX9 tyX9_ok nmX9 hown hX.1 hP hD hS 4 rfl rfl 11 (by decide) (hG _ wf_X9_45) (fun _ h9 => h9) rfl (by decide +kernel) rfl rfl (Nat.le_of_ble_eq_true rfl) dX9_part_33 (fun H locs hP hD hS => ?_)
  have hP : va_P g.1 vwCl [(h0_now, .inl (g.2.1.1, 21, .inl f_h0_now)), (h0_told, .inl (g.2.1.1, 103, .inl f_h0_told)), (h0_kept, .inl (g.2.1.1, 420, .inl f_h0_kept)), (h0_refused, .inl (g.2.1.1, 6, .inl f_h0_refused)), (h0, .inr (9, [.ref h0_told, .ref h0_read, .ref h0_now, .ref h0_readNow, .ref h0_kept, .int h0_undone, .int h0_seed, .int h0_hasPart, .ref h0_tape, .int 0, .ref h0_refused, .int v7, .int h0_faultPlace, .int h0_taped, .int v5, .int v6, .int v7, .int v8, .ref h0_ownLetters, .ref h0_flats, .int h0_isLaid, .ref h0_corner, .ref h0_wayX, .ref h0_wayY, .ref h0_normal, .ref h0_low, .ref h0_high, .ref h0_clear, .ref h0_ways, .ref h0_canBe, .ref h0_lain, .int h0_canTool, .ref h0_fewestBy, .ref h0_sortOf, .int h0_rows, .ref h0_seenFlange, .ref h0_seenLength])), (h0_read, .inl (g.2.1.1, 103, .inl f9)), (h0_readNow, .inl (g.2.1.1, 21, .inl f12)), (h0_tape, .inl (g.2.1.1, 1200, .inl f_h0_tape)), (h0_ownLetters, .inl (g.2.1.1, 95, .inl f_h0_ownLetters))] H := hP
  have hD : va_D A [(h0_now, .inl (g.2.1.1, 21, .inl f_h0_now)), (h0_told, .inl (g.2.1.1, 103, .inl f_h0_told)), (h0_kept, .inl (g.2.1.1, 420, .inl f_h0_kept)), (h0_refused, .inl (g.2.1.1, 6, .inl f_h0_refused)), (h0, .inr (9, [.ref h0_told, .ref h0_read, .ref h0_now, .ref h0_readNow, .ref h0_kept, .int h0_undone, .int h0_seed, .int h0_hasPart, .ref h0_tape, .int 0, .ref h0_refused, .int v7, .int h0_faultPlace, .int h0_taped, .int v5, .int v6, .int v7, .int v8, .ref h0_ownLetters, .ref h0_flats, .int h0_isLaid, .ref h0_corner, .ref h0_wayX, .ref h0_wayY, .ref h0_normal, .ref h0_low, .ref h0_high, .ref h0_clear, .ref h0_ways, .ref h0_canBe, .ref h0_lain, .int h0_canTool, .ref h0_fewestBy, .ref h0_sortOf, .int h0_rows, .ref h0_seenFlange, .ref h0_seenLength])), (h0_read, .inl (g.2.1.1, 103, .inl f9)), (h0_readNow, .inl (g.2.1.1, 21, .inl f12)), (h0_tape, .inl (g.2.1.1, 1200, .inl f_h0_tape)), (h0_ownLetters, .inl (g.2.1.1, 95, .inl f_h0_ownLetters))] := hD
  refine lv_aload_n hx hb dX9_part_36 rfl (lv_at hl 1 rfl) ?_
  refine lv_aload_n hx hb dX9_part_37 rfl (lv_at hl 1 rfl) ?_
  refine va_get (D := g.1) (ci := 9) (v := .int v8) (C := RX9) (T := TX9) (N := 37) hx hb hG iX9 hown hX.1 hP 4 rfl rfl 17 (by decide) (hG _ wf_X9_63) (fun _ h9 => h9) rfl dX9_part_38 ?_
  refine va_put (D := g.1) (ci := 9) (v := .int v8) (ty := .int) (C := RX9) (T := TX9) (N := 37) hx hb hG iX9 tyX9 tyX9_ok nmX9 hown hX.1 hP hD hS 4 rfl rfl 12 (by decide) (hG _ wf_X9_48) (fun _ h9 => h9) rfl (by decide +kernel) rfl rfl (Nat.le_of_ble_eq_true rfl) dX9_part_41 (fun H locs hP hD hS => ?_)
  have hP : va_P g.1 vwCl [(h0_now, .inl (g.2.1.1, 21, .inl f_h0_now)), (h0_told, .inl (g.2.1.1, 103, .inl f_h0_told)), (h0_kept, .inl (g.2.1.1, 420, .inl f_h0_kept)), (h0_refused, .inl (g.2.1.1, 6, .inl f_h0_refused)), (h0, .inr (9, [.ref h0_told, .ref h0_read, .ref h0_now, .ref h0_readNow, .ref h0_kept, .int h0_undone, .int h0_seed, .int h0_hasPart, .ref h0_tape, .int 0, .ref h0_refused, .int v7, .int v8, .int h0_taped, .int v5, .int v6, .int v7, .int v8, .ref h0_ownLetters, .ref h0_flats, .int h0_isLaid, .ref h0_corner, .ref h0_wayX, .ref h0_wayY, .ref h0_normal, .ref h0_low, .ref h0_high, .ref h0_clear, .ref h0_ways, .ref h0_canBe, .ref h0_lain, .int h0_canTool, .ref h0_fewestBy, .ref h0_sortOf, .int h0_rows, .ref h0_seenFlange, .ref h0_seenLength])), (h0_read, .inl (g.2.1.1, 103, .inl f9)), (h0_readNow, .inl (g.2.1.1, 21, .inl f12)), (h0_tape, .inl (g.2.1.1, 1200, .inl f_h0_tape)), (h0_ownLetters, .inl (g.2.1.1, 95, .inl f_h0_ownLetters))] H := hP
  have hD : va_D A [(h0_now, .inl (g.2.1.1, 21, .inl f_h0_now)), (h0_told, .inl (g.2.1.1, 103, .inl f_h0_told)), (h0_kept, .inl (g.2.1.1, 420, .inl f_h0_kept)), (h0_refused, .inl (g.2.1.1, 6, .inl f_h0_refused)), (h0, .inr (9, [.ref h0_told, .ref h0_read, .ref h0_now, .ref h0_readNow, .ref h0_kept, .int h0_undone, .int h0_seed, .int h0_hasPart, .ref h0_tape, .int 0, .ref h0_refused, .int v7, .int v8, .int h0_taped, .int v5, .int v6, .int v7, .int v8, .ref h0_ownLetters, .ref h0_flats, .int h0_isLaid, .ref h0_corner, .ref h0_wayX, .ref h0_wayY, .ref h0_normal, .ref h0_low, .ref h0_high, .ref h0_clear, .ref h0_ways, .ref h0_canBe, .ref h0_lain, .int h0_canTool, .ref h0_fewestBy, .ref h0_sortOf, .int h0_rows, .ref h0_seenFlange, .ref h0_seenLength])), (h0_read, .inl (g.2.1.1, 103, .inl f9)), (h0_readNow, .inl (g.2.1.1, 21, .inl f12)), (h0_tape, .inl (g.2.1.1, 1200, .inl f_h0_tape)), (h0_ownLetters, .inl (g.2.1.1, 95, .inl f_h0_ownLetters))] := hD
  refine lv_aload_n hx hb dX9_part_44 rfl (lv_at hl 1 rfl) ?_
  refine va_get (D := g.1) (ci := 9) (v := .int v7) (C := RX9) (T := TX9) (N := 37) hx hb hG iX9 hown hX.1 hP 4 rfl rfl 16 (by decide) (hG _ wf_X9_60) (fun _ h9 => h9) rfl dX9_part_45 ?_
  refine lv_if_eq (tgt := 57) hx hb dX9_part_48 (by decide) (fun c25 => ?_) (fun c25 => ?_)
  · skip
    have c25i : v7.toInt = (0 : Int) := (zc_eq (rfl : v7.toInt = _) (show (0 : Int32).toInt = (0 : Int) from by decide)).mp c25
    refine lv_iconst (v := 0) hx hb dX9_part_57 (by decide) ?_
    refine lv_istore_n (lv' := [(2, .int 0), (1, .int r3), (0, .ref h0)]) hx hb dX9_part_58 rfl hl (by decide) rfl (fun ls hl => ?_)
    have L568 : ∀ (n : Nat) (v413 : Int32) (fn414 : Nat → Int32) (H : Heap) (locs : List Loc) (ls : Array Slot), 0 ≤ v413.toInt ∧ v413.toInt ≤ 103 → pW mB fn414 → pP3 fn414 v413 → (104 - v413.toInt).toNat < n → va_P g.1 vwCl [(h0_now, .inl (g.2.1.1, 21, .inl f_h0_now)), (h0_told, .inl (g.2.1.1, 103, .inl fn414)), (h0_kept, .inl (g.2.1.1, 420, .inl f_h0_kept)), (h0_refused, .inl (g.2.1.1, 6, .inl f_h0_refused)), (h0, .inr (9, [.ref h0_told, .ref h0_read, .ref h0_now, .ref h0_readNow, .ref h0_kept, .int h0_undone, .int h0_seed, .int h0_hasPart, .ref h0_tape, .int 0, .ref h0_refused, .int v7, .int v8, .int h0_taped, .int v5, .int v6, .int v7, .int v8, .ref h0_ownLetters, .ref h0_flats, .int h0_isLaid, .ref h0_corner, .ref h0_wayX, .ref h0_wayY, .ref h0_normal, .ref h0_low, .ref h0_high, .ref h0_clear, .ref h0_ways, .ref h0_canBe, .ref h0_lain, .int h0_canTool, .ref h0_fewestBy, .ref h0_sortOf, .int h0_rows, .ref h0_seenFlange, .ref h0_seenLength])), (h0_read, .inl (g.2.1.1, 103, .inl f9)), (h0_readNow, .inl (g.2.1.1, 21, .inl f12)), (h0_tape, .inl (g.2.1.1, 1200, .inl f_h0_tape)), (h0_ownLetters, .inl (g.2.1.1, 95, .inl f_h0_ownLetters))] H → va_D A [(h0_now, .inl (g.2.1.1, 21, .inl f_h0_now)), (h0_told, .inl (g.2.1.1, 103, .inl fn414)), (h0_kept, .inl (g.2.1.1, 420, .inl f_h0_kept)), (h0_refused, .inl (g.2.1.1, 6, .inl f_h0_refused)), (h0, .inr (9, [.ref h0_told, .ref h0_read, .ref h0_now, .ref h0_readNow, .ref h0_kept, .int h0_undone, .int h0_seed, .int h0_hasPart, .ref h0_tape, .int 0, .ref h0_refused, .int v7, .int v8, .int h0_taped, .int v5, .int v6, .int v7, .int v8, .ref h0_ownLetters, .ref h0_flats, .int h0_isLaid, .ref h0_corner, .ref h0_wayX, .ref h0_wayY, .ref h0_normal, .ref h0_low, .ref h0_high, .ref h0_clear, .ref h0_ways, .ref h0_canBe, .ref h0_lain, .int h0_canTool, .ref h0_fewestBy, .ref h0_sortOf, .int h0_rows, .ref h0_seenFlange, .ref h0_seenLength])), (h0_read, .inl (g.2.1.1, 103, .inl f9)), (h0_readNow, .inl (g.2.1.1, 21, .inl f12)), (h0_tape, .inl (g.2.1.1, 1200, .inl f_h0_tape)), (h0_ownLetters, .inl (g.2.1.1, 95, .inl f_h0_ownLetters))] → va_S A s.heap H locs → lv_has ls 3 [(0, .ref h0), (1, .int r3), (2, .int v413)] → W p l e rm_kX9_part s m args below meth c H locs 0 0 Q (F0 m 59 ls []) := by
      intro n569
      induction n569 with
      | zero => intro v413 fn414 H locs ls i571 hf572 hc573 hm574; exact absurd hm574 (Nat.not_lt_zero _)
      | succ n569 ih570 =>
        intro v413 fn414 H locs ls i571 hf572 hc573 hm574 hP hD hS hl
        refine lv_iload_n hx hb dX9_part_59 rfl (lv_at hl 2 rfl) ?_
        refine lv_bipush (v := 103) hx hb dX9_part_60 (by decide) ?_
        refine lv_icmp_ge (tgt := 83) hx hb dX9_part_62 (by decide) (fun c575 => ?_) (fun c575 => ?_)
        · skip
          have c575i : (103 : Int) ≤ v413.toInt := (zc_le (show (103 : Int32).toInt = (103 : Int) from by decide) (rfl : v413.toInt = _)).mp c575
          obtain ⟨g576, gh577⟩ : ∃ z9 : Int32, cEq fn414 3 z9 := ⟨_, rfl⟩
          have f578 : 0 ≤ g576.toInt ∧ g576.toInt ≤ 9 := (om_305) (hf572.g gh577)
          have f579 : 1 ≤ g576.toInt := pP3.g hc573 (om_306 c575i) gh577
          obtain ⟨g580, gh581⟩ : ∃ z9 : Int32, cEq fn414 4 z9 := ⟨_, rfl⟩
          have f582 : 0 ≤ g580.toInt ∧ g580.toInt ≤ 8 := (om_280) (hf572.g gh581)
          refine lv_iconst (v := 0) hx hb dX9_part_83 (by decide) ?_
          refine lv_istore_n (lv' := [(2, .int 0), (0, .ref h0), (1, .int r3)]) hx hb dX9_part_84 rfl hl (by decide) rfl (fun ls hl => ?_)
          have L701 : ∀ (n : Nat) (v684 : Int32) (fn685 : Nat → Int32) (H : Heap) (locs : List Loc) (ls : Array Slot), 0 ≤ v684.toInt ∧ v684.toInt ≤ 21 → pW nB fn685 → pP0 fn685 v684 g576 → (22 - v684.toInt).toNat < n → va_P g.1 vwCl [(h0_now, .inl (g.2.1.1, 21, .inl fn685)), (h0_told, .inl (g.2.1.1, 103, .inl fn414)), (h0_kept, .inl (g.2.1.1, 420, .inl f_h0_kept)), (h0_refused, .inl (g.2.1.1, 6, .inl f_h0_refused)), (h0, .inr (9, [.ref h0_told, .ref h0_read, .ref h0_now, .ref h0_readNow, .ref h0_kept, .int h0_undone, .int h0_seed, .int h0_hasPart, .ref h0_tape, .int 0, .ref h0_refused, .int v7, .int v8, .int h0_taped, .int v5, .int v6, .int v7, .int v8, .ref h0_ownLetters, .ref h0_flats, .int h0_isLaid, .ref h0_corner, .ref h0_wayX, .ref h0_wayY, .ref h0_normal, .ref h0_low, .ref h0_high, .ref h0_clear, .ref h0_ways, .ref h0_canBe, .ref h0_lain, .int h0_canTool, .ref h0_fewestBy, .ref h0_sortOf, .int h0_rows, .ref h0_seenFlange, .ref h0_seenLength])), (h0_read, .inl (g.2.1.1, 103, .inl f9)), (h0_readNow, .inl (g.2.1.1, 21, .inl f12)), (h0_tape, .inl (g.2.1.1, 1200, .inl f_h0_tape)), (h0_ownLetters, .inl (g.2.1.1, 95, .inl f_h0_ownLetters))] H → va_D A [(h0_now, .inl (g.2.1.1, 21, .inl fn685)), (h0_told, .inl (g.2.1.1, 103, .inl fn414)), (h0_kept, .inl (g.2.1.1, 420, .inl f_h0_kept)), (h0_refused, .inl (g.2.1.1, 6, .inl f_h0_refused)), (h0, .inr (9, [.ref h0_told, .ref h0_read, .ref h0_now, .ref h0_readNow, .ref h0_kept, .int h0_undone, .int h0_seed, .int h0_hasPart, .ref h0_tape, .int 0, .ref h0_refused, .int v7, .int v8, .int h0_taped, .int v5, .int v6, .int v7, .int v8, .ref h0_ownLetters, .ref h0_flats, .int h0_isLaid, .ref h0_corner, .ref h0_wayX, .ref h0_wayY, .ref h0_normal, .ref h0_low, .ref h0_high, .ref h0_clear, .ref h0_ways, .ref h0_canBe, .ref h0_lain, .int h0_canTool, .ref h0_fewestBy, .ref h0_sortOf, .int h0_rows, .ref h0_seenFlange, .ref h0_seenLength])), (h0_read, .inl (g.2.1.1, 103, .inl f9)), (h0_readNow, .inl (g.2.1.1, 21, .inl f12)), (h0_tape, .inl (g.2.1.1, 1200, .inl f_h0_tape)), (h0_ownLetters, .inl (g.2.1.1, 95, .inl f_h0_ownLetters))] → va_S A s.heap H locs → lv_has ls 3 [(0, .ref h0), (1, .int r3), (2, .int v684)] → W p l e rm_kX9_part s m args below meth c H locs 0 0 Q (F0 m 85 ls []) := by
            intro n702
            induction n702 with
            | zero => intro v684 fn685 H locs ls i704 hf705 hc706 hm707; exact absurd hm707 (Nat.not_lt_zero _)
            | succ n702 ih703 =>
              intro v684 fn685 H locs ls i704 hf705 hc706 hm707 hP hD hS hl
              refine lv_iload_n hx hb dX9_part_85 rfl (lv_at hl 2 rfl) ?_
              refine lv_bipush (v := 21) hx hb dX9_part_86 (by decide) ?_
              refine lv_icmp_ge (tgt := 109) hx hb dX9_part_88 (by decide) (fun c708 => ?_) (fun c708 => ?_)
              · skip
                have c708i : (21 : Int) ≤ v684.toInt := (zc_le (show (21 : Int32).toInt = (21 : Int) from by decide) (rfl : v684.toInt = _)).mp c708
                obtain ⟨g709, gh710⟩ : ∃ z9 : Int32, cEq fn685 0 z9 := ⟨_, rfl⟩
                have f711 : 0 ≤ g709.toInt ∧ g709.toInt ≤ 255 := (om_307) (hf705.g gh710)
                have hc712 : pA g709 g576 := pP0.g hc706 (om_308 c708i) gh710
                refine lv_aload_n hx hb dX9_part_109 rfl (lv_at hl 0 rfl) ?_
                refine lv_iconst (v := 1) hx hb dX9_part_110 (by decide) ?_
                refine va_put (D := g.1) (ci := 9) (v := .int 1) (ty := .boolean) (C := RX9) (T := TX9) (N := 37) hx hb hG iX9 tyX9 tyX9_ok nmX9 hown hX.1 hP hD hS 4 rfl rfl 7 (by decide) (hG _ wf_X9_32) (fun _ h9 => h9) rfl (by decide +kernel) rfl rfl (Nat.le_of_ble_eq_true rfl) dX9_part_111 (fun H locs hP hD hS => ?_)
                have hP : va_P g.1 vwCl [(h0_now, .inl (g.2.1.1, 21, .inl fn685)), (h0_told, .inl (g.2.1.1, 103, .inl fn414)), (h0_kept, .inl (g.2.1.1, 420, .inl f_h0_kept)), (h0_refused, .inl (g.2.1.1, 6, .inl f_h0_refused)), (h0, .inr (9, [.ref h0_told, .ref h0_read, .ref h0_now, .ref h0_readNow, .ref h0_kept, .int h0_undone, .int h0_seed, .int 1, .ref h0_tape, .int 0, .ref h0_refused, .int v7, .int v8, .int h0_taped, .int v5, .int v6, .int v7, .int v8, .ref h0_ownLetters, .ref h0_flats, .int h0_isLaid, .ref h0_corner, .ref h0_wayX, .ref h0_wayY, .ref h0_normal, .ref h0_low, .ref h0_high, .ref h0_clear, .ref h0_ways, .ref h0_canBe, .ref h0_lain, .int h0_canTool, .ref h0_fewestBy, .ref h0_sortOf, .int h0_rows, .ref h0_seenFlange, .ref h0_seenLength])), (h0_read, .inl (g.2.1.1, 103, .inl f9)), (h0_readNow, .inl (g.2.1.1, 21, .inl f12)), (h0_tape, .inl (g.2.1.1, 1200, .inl f_h0_tape)), (h0_ownLetters, .inl (g.2.1.1, 95, .inl f_h0_ownLetters))] H := hP
                have hD : va_D A [(h0_now, .inl (g.2.1.1, 21, .inl fn685)), (h0_told, .inl (g.2.1.1, 103, .inl fn414)), (h0_kept, .inl (g.2.1.1, 420, .inl f_h0_kept)), (h0_refused, .inl (g.2.1.1, 6, .inl f_h0_refused)), (h0, .inr (9, [.ref h0_told, .ref h0_read, .ref h0_now, .ref h0_readNow, .ref h0_kept, .int h0_undone, .int h0_seed, .int 1, .ref h0_tape, .int 0, .ref h0_refused, .int v7, .int v8, .int h0_taped, .int v5, .int v6, .int v7, .int v8, .ref h0_ownLetters, .ref h0_flats, .int h0_isLaid, .ref h0_corner, .ref h0_wayX, .ref h0_wayY, .ref h0_normal, .ref h0_low, .ref h0_high, .ref h0_clear, .ref h0_ways, .ref h0_canBe, .ref h0_lain, .int h0_canTool, .ref h0_fewestBy, .ref h0_sortOf, .int h0_rows, .ref h0_seenFlange, .ref h0_seenLength])), (h0_read, .inl (g.2.1.1, 103, .inl f9)), (h0_readNow, .inl (g.2.1.1, 21, .inl f12)), (h0_tape, .inl (g.2.1.1, 1200, .inl f_h0_tape)), (h0_ownLetters, .inl (g.2.1.1, 95, .inl f_h0_ownLetters))] := hD
                refine lv_aload_n hx hb dX9_part_114 rfl (lv_at hl 0 rfl) ?_
                refine lv_iconst (v := 0) hx hb dX9_part_115 (by decide) ?_
                refine va_put (D := g.1) (ci := 9) (v := .int 0) (ty := .boolean) (C := RX9) (T := TX9) (N := 37) hx hb hG iX9 tyX9 tyX9_ok nmX9 hown hX.1 hP hD hS 4 rfl rfl 20 (by decide) (hG _ wf_X9_72) (fun _ h9 => h9) rfl (by decide +kernel) rfl rfl (Nat.le_of_ble_eq_true rfl) dX9_part_116 (fun H locs hP hD hS => ?_)
                have hP : va_P g.1 vwCl [(h0_now, .inl (g.2.1.1, 21, .inl fn685)), (h0_told, .inl (g.2.1.1, 103, .inl fn414)), (h0_kept, .inl (g.2.1.1, 420, .inl f_h0_kept)), (h0_refused, .inl (g.2.1.1, 6, .inl f_h0_refused)), (h0, .inr (9, [.ref h0_told, .ref h0_read, .ref h0_now, .ref h0_readNow, .ref h0_kept, .int h0_undone, .int h0_seed, .int 1, .ref h0_tape, .int 0, .ref h0_refused, .int v7, .int v8, .int h0_taped, .int v5, .int v6, .int v7, .int v8, .ref h0_ownLetters, .ref h0_flats, .int 0, .ref h0_corner, .ref h0_wayX, .ref h0_wayY, .ref h0_normal, .ref h0_low, .ref h0_high, .ref h0_clear, .ref h0_ways, .ref h0_canBe, .ref h0_lain, .int h0_canTool, .ref h0_fewestBy, .ref h0_sortOf, .int h0_rows, .ref h0_seenFlange, .ref h0_seenLength])), (h0_read, .inl (g.2.1.1, 103, .inl f9)), (h0_readNow, .inl (g.2.1.1, 21, .inl f12)), (h0_tape, .inl (g.2.1.1, 1200, .inl f_h0_tape)), (h0_ownLetters, .inl (g.2.1.1, 95, .inl f_h0_ownLetters))] H := hP
                have hD : va_D A [(h0_now, .inl (g.2.1.1, 21, .inl fn685)), (h0_told, .inl (g.2.1.1, 103, .inl fn414)), (h0_kept, .inl (g.2.1.1, 420, .inl f_h0_kept)), (h0_refused, .inl (g.2.1.1, 6, .inl f_h0_refused)), (h0, .inr (9, [.ref h0_told, .ref h0_read, .ref h0_now, .ref h0_readNow, .ref h0_kept, .int h0_undone, .int h0_seed, .int 1, .ref h0_tape, .int 0, .ref h0_refused, .int v7, .int v8, .int h0_taped, .int v5, .int v6, .int v7, .int v8, .ref h0_ownLetters, .ref h0_flats, .int 0, .ref h0_corner, .ref h0_wayX, .ref h0_wayY, .ref h0_normal, .ref h0_low, .ref h0_high, .ref h0_clear, .ref h0_ways, .ref h0_canBe, .ref h0_lain, .int h0_canTool, .ref h0_fewestBy, .ref h0_sortOf, .int h0_rows, .ref h0_seenFlange, .ref h0_seenLength])), (h0_read, .inl (g.2.1.1, 103, .inl f9)), (h0_readNow, .inl (g.2.1.1, 21, .inl f12)), (h0_tape, .inl (g.2.1.1, 1200, .inl f_h0_tape)), (h0_ownLetters, .inl (g.2.1.1, 95, .inl f_h0_ownLetters))] := hD
                refine lv_aload_n hx hb dX9_part_119 rfl (lv_at hl 0 rfl) ?_
                refine lv_iconst (v := 0) hx hb dX9_part_120 (by decide) ?_
                refine va_put (D := g.1) (ci := 9) (v := .int 0) (ty := .int) (C := RX9) (T := TX9) (N := 37) hx hb hG iX9 tyX9 tyX9_ok nmX9 hown hX.1 hP hD hS 4 rfl rfl 5 (by decide) (hG _ wf_X9_25) (fun _ h9 => h9) rfl (by decide +kernel) rfl rfl (Nat.le_of_ble_eq_true rfl) dX9_part_121 (fun H locs hP hD hS => ?_)
                have hP : va_P g.1 vwCl [(h0_now, .inl (g.2.1.1, 21, .inl fn685)), (h0_told, .inl (g.2.1.1, 103, .inl fn414)), (h0_kept, .inl (g.2.1.1, 420, .inl f_h0_kept)), (h0_refused, .inl (g.2.1.1, 6, .inl f_h0_refused)), (h0, .inr (9, [.ref h0_told, .ref h0_read, .ref h0_now, .ref h0_readNow, .ref h0_kept, .int 0, .int h0_seed, .int 1, .ref h0_tape, .int 0, .ref h0_refused, .int v7, .int v8, .int h0_taped, .int v5, .int v6, .int v7, .int v8, .ref h0_ownLetters, .ref h0_flats, .int 0, .ref h0_corner, .ref h0_wayX, .ref h0_wayY, .ref h0_normal, .ref h0_low, .ref h0_high, .ref h0_clear, .ref h0_ways, .ref h0_canBe, .ref h0_lain, .int h0_canTool, .ref h0_fewestBy, .ref h0_sortOf, .int h0_rows, .ref h0_seenFlange, .ref h0_seenLength])), (h0_read, .inl (g.2.1.1, 103, .inl f9)), (h0_readNow, .inl (g.2.1.1, 21, .inl f12)), (h0_tape, .inl (g.2.1.1, 1200, .inl f_h0_tape)), (h0_ownLetters, .inl (g.2.1.1, 95, .inl f_h0_ownLetters))] H := hP
                have hD : va_D A [(h0_now, .inl (g.2.1.1, 21, .inl fn685)), (h0_told, .inl (g.2.1.1, 103, .inl fn414)), (h0_kept, .inl (g.2.1.1, 420, .inl f_h0_kept)), (h0_refused, .inl (g.2.1.1, 6, .inl f_h0_refused)), (h0, .inr (9, [.ref h0_told, .ref h0_read, .ref h0_now, .ref h0_readNow, .ref h0_kept, .int 0, .int h0_seed, .int 1, .ref h0_tape, .int 0, .ref h0_refused, .int v7, .int v8, .int h0_taped, .int v5, .int v6, .int v7, .int v8, .ref h0_ownLetters, .ref h0_flats, .int 0, .ref h0_corner, .ref h0_wayX, .ref h0_wayY, .ref h0_normal, .ref h0_low, .ref h0_high, .ref h0_clear, .ref h0_ways, .ref h0_canBe, .ref h0_lain, .int h0_canTool, .ref h0_fewestBy, .ref h0_sortOf, .int h0_rows, .ref h0_seenFlange, .ref h0_seenLength])), (h0_read, .inl (g.2.1.1, 103, .inl f9)), (h0_readNow, .inl (g.2.1.1, 21, .inl f12)), (h0_tape, .inl (g.2.1.1, 1200, .inl f_h0_tape)), (h0_ownLetters, .inl (g.2.1.1, 95, .inl f_h0_ownLetters))] := hD
                refine lv_aload_n hx hb dX9_part_124 rfl (lv_at hl 0 rfl) ?_
                refine lv_iconst (v := 0) hx hb dX9_part_125 (by decide) ?_
                refine va_put (D := g.1) (ci := 9) (v := .int 0) (ty := .int) (C := RX9) (T := TX9) (N := 37) hx hb hG iX9 tyX9 tyX9_ok nmX9 hown hX.1 hP hD hS 4 rfl rfl 34 (by decide) (hG _ wf_X9_115) (fun _ h9 => h9) rfl (by decide +kernel) rfl rfl (Nat.le_of_ble_eq_true rfl) dX9_part_126 (fun H locs hP hD hS => ?_)
                have hP : va_P g.1 vwCl [(h0_now, .inl (g.2.1.1, 21, .inl fn685)), (h0_told, .inl (g.2.1.1, 103, .inl fn414)), (h0_kept, .inl (g.2.1.1, 420, .inl f_h0_kept)), (h0_refused, .inl (g.2.1.1, 6, .inl f_h0_refused)), (h0, .inr (9, [.ref h0_told, .ref h0_read, .ref h0_now, .ref h0_readNow, .ref h0_kept, .int 0, .int h0_seed, .int 1, .ref h0_tape, .int 0, .ref h0_refused, .int v7, .int v8, .int h0_taped, .int v5, .int v6, .int v7, .int v8, .ref h0_ownLetters, .ref h0_flats, .int 0, .ref h0_corner, .ref h0_wayX, .ref h0_wayY, .ref h0_normal, .ref h0_low, .ref h0_high, .ref h0_clear, .ref h0_ways, .ref h0_canBe, .ref h0_lain, .int h0_canTool, .ref h0_fewestBy, .ref h0_sortOf, .int 0, .ref h0_seenFlange, .ref h0_seenLength])), (h0_read, .inl (g.2.1.1, 103, .inl f9)), (h0_readNow, .inl (g.2.1.1, 21, .inl f12)), (h0_tape, .inl (g.2.1.1, 1200, .inl f_h0_tape)), (h0_ownLetters, .inl (g.2.1.1, 95, .inl f_h0_ownLetters))] H := hP
                have hD : va_D A [(h0_now, .inl (g.2.1.1, 21, .inl fn685)), (h0_told, .inl (g.2.1.1, 103, .inl fn414)), (h0_kept, .inl (g.2.1.1, 420, .inl f_h0_kept)), (h0_refused, .inl (g.2.1.1, 6, .inl f_h0_refused)), (h0, .inr (9, [.ref h0_told, .ref h0_read, .ref h0_now, .ref h0_readNow, .ref h0_kept, .int 0, .int h0_seed, .int 1, .ref h0_tape, .int 0, .ref h0_refused, .int v7, .int v8, .int h0_taped, .int v5, .int v6, .int v7, .int v8, .ref h0_ownLetters, .ref h0_flats, .int 0, .ref h0_corner, .ref h0_wayX, .ref h0_wayY, .ref h0_normal, .ref h0_low, .ref h0_high, .ref h0_clear, .ref h0_ways, .ref h0_canBe, .ref h0_lain, .int h0_canTool, .ref h0_fewestBy, .ref h0_sortOf, .int 0, .ref h0_seenFlange, .ref h0_seenLength])), (h0_read, .inl (g.2.1.1, 103, .inl f9)), (h0_readNow, .inl (g.2.1.1, 21, .inl f12)), (h0_tape, .inl (g.2.1.1, 1200, .inl f_h0_tape)), (h0_ownLetters, .inl (g.2.1.1, 95, .inl f_h0_ownLetters))] := hD
                refine lv_iload_n hx hb dX9_part_129 rfl (lv_at hl 1 rfl) ?_
                exact hret r3 ((0 : Int32), (1 : Int32), v7, v8, h0_taped, v5, v6, v7, v8, (0 : Int32), (0 : Int32), fn685, g709, fn414, g576, g580, f9, v10, v11, f12, f_h0_refused) (Nat.le_of_ble_eq_true rfl) (Nat.le_of_ble_eq_true rfl) rfl ⟨(show 0 ≤ (0 : Int) ∧ (0 : Int) ≤ 20 from by decide), (show 0 ≤ (1 : Int) ∧ (1 : Int) ≤ 1 from by decide), om_309 c25i hq15, om_32 hy3, om_32 hq13, om_32 hq14, om_309 c25i hq15, (show 0 ≤ (0 : Int) ∧ (0 : Int) ≤ 1 from by decide), (show 0 ≤ (0 : Int) ∧ (0 : Int) ≤ 8 from by decide), hf705, om_13 f711, gh710, hf572, om_310 f578 f579, gh577, om_33 f582, gh581, hq16, om_209 hq17, hq18, om_33 hq19, hq20, hq21, om_311 f579, hc712, (pKp.zero (n := (0 : Int32)) (by decide)), om_312 hq23⟩ (hP.sub [4, 0, 1, 2, 5, 6, 7, 8, 3] rfl) (hD.sub [4, 0, 1, 2, 5, 6, 7, 8, 3] (by decide) rfl) hS dX9_part_130
              · skip
                have c708i : ¬ ((21 : Int) ≤ v684.toInt) := fun q => c708 ((zc_le (show (21 : Int32).toInt = (21 : Int) from by decide) (rfl : v684.toInt = _)).mpr q)
                refine lv_aload_n hx hb dX9_part_91 rfl (lv_at hl 0 rfl) ?_
                refine va_get (D := g.1) (ci := 9) (v := .ref h0_now) (C := RX9) (T := TX9) (N := 37) hx hb hG iX9 hown hX.1 hP 4 rfl rfl 2 (by decide) (hG _ wf_X9_16) (fun _ h9 => h9) rfl dX9_part_92 ?_
                refine lv_iload_n hx hb dX9_part_95 rfl (lv_at hl 2 rfl) ?_
                refine lv_aload_n hx hb dX9_part_96 rfl (lv_at hl 0 rfl) ?_
                refine va_get (D := g.1) (ci := 9) (v := .ref h0_readNow) (C := RX9) (T := TX9) (N := 37) hx hb hG iX9 hown hX.1 hP 4 rfl rfl 3 (by decide) (hG _ wf_X9_19) (fun _ h9 => h9) rfl dX9_part_97 ?_
                refine lv_iload_n hx hb dX9_part_100 rfl (lv_at hl 2 rfl) ?_
                refine va_iald hx hb hX.1 hP 6 0 rfl rfl (zin (rfl : v684.toInt = _) (om_313 c708i i704)) dX9_part_101 ?_
                refine lv_topi (fun z713 e714 => ?_)
                have f715 : (¬ v684.toInt = 0 ∨ (0 ≤ z713.toInt ∧ z713.toInt ≤ 0)) ∧ (¬ (2 ≤ v684.toInt ∧ v684.toInt ≤ 10) ∨ (0 ≤ z713.toInt ∧ z713.toInt ≤ 1)) := hq21.at e714 (rfl : v684.toInt = _) (om_314 i704)
                refine va_iast hx hb hX.1 hP hD hS 0 0 rfl rfl (zin (rfl : v684.toInt = _) (om_313 c708i i704)) dX9_part_102 (fun H locs hP hD hS => ?_)
                obtain ⟨f716, e717⟩ : ∃ z9 : Nat → Int32, z9 = upd fn685 v684.toNatClampNeg z713 := ⟨_, rfl⟩
                rw [← e717] at hP hD
                have hf718 : pW nB f716 := hf705.up e717 (rfl : v684.toInt = _) (rfl : z713.toInt = _) (om_315 f715 i704)
                have hP : va_P g.1 vwCl [(h0_now, .inl (g.2.1.1, 21, .inl f716)), (h0_told, .inl (g.2.1.1, 103, .inl fn414)), (h0_kept, .inl (g.2.1.1, 420, .inl f_h0_kept)), (h0_refused, .inl (g.2.1.1, 6, .inl f_h0_refused)), (h0, .inr (9, [.ref h0_told, .ref h0_read, .ref h0_now, .ref h0_readNow, .ref h0_kept, .int h0_undone, .int h0_seed, .int h0_hasPart, .ref h0_tape, .int 0, .ref h0_refused, .int v7, .int v8, .int h0_taped, .int v5, .int v6, .int v7, .int v8, .ref h0_ownLetters, .ref h0_flats, .int h0_isLaid, .ref h0_corner, .ref h0_wayX, .ref h0_wayY, .ref h0_normal, .ref h0_low, .ref h0_high, .ref h0_clear, .ref h0_ways, .ref h0_canBe, .ref h0_lain, .int h0_canTool, .ref h0_fewestBy, .ref h0_sortOf, .int h0_rows, .ref h0_seenFlange, .ref h0_seenLength])), (h0_read, .inl (g.2.1.1, 103, .inl f9)), (h0_readNow, .inl (g.2.1.1, 21, .inl f12)), (h0_tape, .inl (g.2.1.1, 1200, .inl f_h0_tape)), (h0_ownLetters, .inl (g.2.1.1, 95, .inl f_h0_ownLetters))] H := hP
                have hD : va_D A [(h0_now, .inl (g.2.1.1, 21, .inl f716)), (h0_told, .inl (g.2.1.1, 103, .inl fn414)), (h0_kept, .inl (g.2.1.1, 420, .inl f_h0_kept)), (h0_refused, .inl (g.2.1.1, 6, .inl f_h0_refused)), (h0, .inr (9, [.ref h0_told, .ref h0_read, .ref h0_now, .ref h0_readNow, .ref h0_kept, .int h0_undone, .int h0_seed, .int h0_hasPart, .ref h0_tape, .int 0, .ref h0_refused, .int v7, .int v8, .int h0_taped, .int v5, .int v6, .int v7, .int v8, .ref h0_ownLetters, .ref h0_flats, .int h0_isLaid, .ref h0_corner, .ref h0_wayX, .ref h0_wayY, .ref h0_normal, .ref h0_low, .ref h0_high, .ref h0_clear, .ref h0_ways, .ref h0_canBe, .ref h0_lain, .int h0_canTool, .ref h0_fewestBy, .ref h0_sortOf, .int h0_rows, .ref h0_seenFlange, .ref h0_seenLength])), (h0_read, .inl (g.2.1.1, 103, .inl f9)), (h0_readNow, .inl (g.2.1.1, 21, .inl f12)), (h0_tape, .inl (g.2.1.1, 1200, .inl f_h0_tape)), (h0_ownLetters, .inl (g.2.1.1, 95, .inl f_h0_ownLetters))] := hD
                obtain ⟨z719, e720⟩ : ∃ y9 : Int32, y9 = v684 + 1 := ⟨_, rfl⟩
                have f721 : z719.toInt = v684.toInt + 1 := za e720 (rfl : v684.toInt = _) (show (1 : Int32).toInt = (1 : Int) from by decide) (om_316 c708i i704)
                refine lv_iinc (v := z719) (lv' := [(2, .int z719), (0, .ref h0), (1, .int r3)]) hx hb dX9_part_103 hl (k := 2) rfl (by rw [e720]; rfl) (by decide) rfl (fun ls hl => ?_)
                refine lv_goto (tgt := 85) hx hb dX9_part_106 (by decide) ?_
                exact ih703 z719 f716 H locs ls (om_317 c708i f721 i704) hf718 (pP0.step hc706 e717 (rfl : v684.toInt = _) (om_318 f721) (om_314 i704) (fun q9 => aB.zero (om_319 f578) (om_320 f715 i704 q9))) (zdec hm707 (om_293 c708i f721)) hP hD hS (lv_sub hl [1, 2, 0] rfl)
          exact L701 _ (0 : Int32) f_h0_now H locs ls ((show 0 ≤ (0 : Int) ∧ (0 : Int) ≤ 21 from by decide)) hy12 (pP0.zero (by decide)) (Nat.lt_succ_self _) hP hD hS (lv_sub hl [1, 2, 0] rfl)
        · skip
          have c575i : ¬ ((103 : Int) ≤ v413.toInt) := fun q => c575 ((zc_le (show (103 : Int32).toInt = (103 : Int) from by decide) (rfl : v413.toInt = _)).mpr q)
          refine lv_aload_n hx hb dX9_part_65 rfl (lv_at hl 0 rfl) ?_
          refine va_get (D := g.1) (ci := 9) (v := .ref h0_told) (C := RX9) (T := TX9) (N := 37) hx hb hG iX9 hown hX.1 hP 4 rfl rfl 0 (by decide) (hG _ wf_X9_7) (fun _ h9 => h9) rfl dX9_part_66 ?_
          refine lv_iload_n hx hb dX9_part_69 rfl (lv_at hl 2 rfl) ?_
          refine lv_aload_n hx hb dX9_part_70 rfl (lv_at hl 0 rfl) ?_
          refine va_get (D := g.1) (ci := 9) (v := .ref h0_read) (C := RX9) (T := TX9) (N := 37) hx hb hG iX9 hown hX.1 hP 4 rfl rfl 1 (by decide) (hG _ wf_X9_13) (fun _ h9 => h9) rfl dX9_part_71 ?_
          refine lv_iload_n hx hb dX9_part_74 rfl (lv_at hl 2 rfl) ?_
          refine va_iald hx hb hX.1 hP 5 0 rfl rfl (zin (rfl : v413.toInt = _) (om_299 c575i i571)) dX9_part_75 ?_
          refine lv_topi (fun z722 e723 => ?_)
          have f724 : (¬ v413.toInt = 3 ∨ z722.toInt = v10.toInt) := cEq.or hq18 e723 (rfl : v413.toInt = _) ((rfl : v10.toInt = _))
          have f725 : (¬ v413.toInt = 4 ∨ z722.toInt = v11.toInt) := cEq.or hq20 e723 (rfl : v413.toInt = _) ((rfl : v11.toInt = _))
          have f726 : (¬ v413.toInt = 3 ∨ (0 ≤ z722.toInt ∧ z722.toInt ≤ 9)) ∧ (¬ v413.toInt = 4 ∨ (0 ≤ z722.toInt ∧ z722.toInt ≤ 8)) ∧ (¬ (13 ≤ v413.toInt ∧ v413.toInt ≤ 21) ∨ (0 ≤ z722.toInt ∧ z722.toInt ≤ 8 ∧ (z722.toInt = 0 ∨ z722.toInt < v413.toInt - 13))) ∧ (¬ (22 ≤ v413.toInt ∧ v413.toInt ≤ 30) ∨ (0 ≤ z722.toInt ∧ z722.toInt ≤ 3)) ∧ (¬ (58 ≤ v413.toInt ∧ v413.toInt ≤ 66) ∨ (0 ≤ z722.toInt ∧ z722.toInt ≤ 9)) ∧ (¬ (67 ≤ v413.toInt ∧ v413.toInt ≤ 70) ∨ (z722.toInt = 0)) := hq16.at e723 (rfl : v413.toInt = _) (om_321 i571)
          refine va_iast hx hb hX.1 hP hD hS 1 0 rfl rfl (zin (rfl : v413.toInt = _) (om_299 c575i i571)) dX9_part_76 (fun H locs hP hD hS => ?_)
          obtain ⟨f727, e728⟩ : ∃ z9 : Nat → Int32, z9 = upd fn414 v413.toNatClampNeg z722 := ⟨_, rfl⟩
          rw [← e728] at hP hD
          have hf729 : pW mB f727 := hf572.up e728 (rfl : v413.toInt = _) (rfl : z722.toInt = _) (om_322 c575i f724 f725 f726 hq17 hq19 hq22 i571)
          have hP : va_P g.1 vwCl [(h0_now, .inl (g.2.1.1, 21, .inl f_h0_now)), (h0_told, .inl (g.2.1.1, 103, .inl f727)), (h0_kept, .inl (g.2.1.1, 420, .inl f_h0_kept)), (h0_refused, .inl (g.2.1.1, 6, .inl f_h0_refused)), (h0, .inr (9, [.ref h0_told, .ref h0_read, .ref h0_now, .ref h0_readNow, .ref h0_kept, .int h0_undone, .int h0_seed, .int h0_hasPart, .ref h0_tape, .int 0, .ref h0_refused, .int v7, .int v8, .int h0_taped, .int v5, .int v6, .int v7, .int v8, .ref h0_ownLetters, .ref h0_flats, .int h0_isLaid, .ref h0_corner, .ref h0_wayX, .ref h0_wayY, .ref h0_normal, .ref h0_low, .ref h0_high, .ref h0_clear, .ref h0_ways, .ref h0_canBe, .ref h0_lain, .int h0_canTool, .ref h0_fewestBy, .ref h0_sortOf, .int h0_rows, .ref h0_seenFlange, .ref h0_seenLength])), (h0_read, .inl (g.2.1.1, 103, .inl f9)), (h0_readNow, .inl (g.2.1.1, 21, .inl f12)), (h0_tape, .inl (g.2.1.1, 1200, .inl f_h0_tape)), (h0_ownLetters, .inl (g.2.1.1, 95, .inl f_h0_ownLetters))] H := hP
          have hD : va_D A [(h0_now, .inl (g.2.1.1, 21, .inl f_h0_now)), (h0_told, .inl (g.2.1.1, 103, .inl f727)), (h0_kept, .inl (g.2.1.1, 420, .inl f_h0_kept)), (h0_refused, .inl (g.2.1.1, 6, .inl f_h0_refused)), (h0, .inr (9, [.ref h0_told, .ref h0_read, .ref h0_now, .ref h0_readNow, .ref h0_kept, .int h0_undone, .int h0_seed, .int h0_hasPart, .ref h0_tape, .int 0, .ref h0_refused, .int v7, .int v8, .int h0_taped, .int v5, .int v6, .int v7, .int v8, .ref h0_ownLetters, .ref h0_flats, .int h0_isLaid, .ref h0_corner, .ref h0_wayX, .ref h0_wayY, .ref h0_normal, .ref h0_low, .ref h0_high, .ref h0_clear, .ref h0_ways, .ref h0_canBe, .ref h0_lain, .int h0_canTool, .ref h0_fewestBy, .ref h0_sortOf, .int h0_rows, .ref h0_seenFlange, .ref h0_seenLength])), (h0_read, .inl (g.2.1.1, 103, .inl f9)), (h0_readNow, .inl (g.2.1.1, 21, .inl f12)), (h0_tape, .inl (g.2.1.1, 1200, .inl f_h0_tape)), (h0_ownLetters, .inl (g.2.1.1, 95, .inl f_h0_ownLetters))] := hD
          obtain ⟨z730, e731⟩ : ∃ y9 : Int32, y9 = v413 + 1 := ⟨_, rfl⟩
          have f732 : z730.toInt = v413.toInt + 1 := za e731 (rfl : v413.toInt = _) (show (1 : Int32).toInt = (1 : Int) from by decide) (om_301 c575i i571)
          refine lv_iinc (v := z730) (lv' := [(2, .int z730), (0, .ref h0), (1, .int r3)]) hx hb dX9_part_77 hl (k := 2) rfl (by rw [e731]; rfl) (by decide) rfl (fun ls hl => ?_)
          refine lv_goto (tgt := 59) hx hb dX9_part_80 (by decide) ?_
          exact ih570 z730 f727 H locs ls (om_302 c575i f732 i571) hf729 (pP3.step hc573 e728 (rfl : v413.toInt = _) (om_318 f732) (rfl : z722.toInt = _) (om_323 f724 hq17 i571)) (zdec hm574 (om_303 c575i f732)) hP hD hS (lv_sub hl [1, 2, 0] rfl)
    exact L568 _ (0 : Int32) f_h0_told H locs ls ((show 0 ≤ (0 : Int) ∧ (0 : Int) ≤ 103 from by decide)) hy15 (pP3.zero (by decide)) (Nat.lt_succ_self _) hP hD hS (lv_sub hl [2, 1, 0] rfl)
  · skip
    have c25i : ¬ (v7.toInt = (0 : Int)) := fun q => c25 ((zc_eq (rfl : v7.toInt = _) (show (0 : Int32).toInt = (0 : Int) from by decide)).mpr q)
    refine lv_aload_n hx hb dX9_part_51 rfl (lv_at hl 1 rfl) ?_
    refine lv_iconst (v := 1) hx hb dX9_part_52 (by decide) ?_
    refine zfi (wr := [(h0_now, .inl (g.2.1.1, 21, .inl f_h0_now)), (h0_told, .inl (g.2.1.1, 103, .inl f_h0_told)), (h0_kept, .inl (g.2.1.1, 420, .inl f_h0_kept)), (h0_read, .inl (g.2.1.1, 103, .inl f9)), (h0_readNow, .inl (g.2.1.1, 21, .inl f12)), (h0_tape, .inl (g.2.1.1, 1200, .inl f_h0_tape)), (h0_ownLetters, .inl (g.2.1.1, 95, .inl f_h0_ownLetters))]) (va_runV (As := [.int 1]) (rest := []) ⟨hx, hb, hml, hown, hG⟩ (kX9_refuses l g h0 (1 : Int32) h0_told h0_read h0_now h0_readNow h0_kept h0_undone h0_seed h0_hasPart h0_tape (0 : Int32) h0_refused v7 v8 h0_taped v5 v6 v7 v8 h0_ownLetters h0_flats h0_isLaid h0_corner h0_wayX h0_wayY h0_normal h0_low h0_high h0_clear h0_ways h0_canBe h0_lain h0_canTool h0_fewestBy h0_sortOf h0_rows h0_seenFlange h0_seenLength f_h0_refused ((show 0 ≤ (1 : Int) ∧ (1 : Int) ≤ 5 from by decide)) (om_27 hy0) (om_28 hy1) (om_29 hy2) ((show 0 ≤ (0 : Int) ∧ (0 : Int) ≤ 1200 from by decide)) (om_31 hq15) (om_32 hy3) (om_32 hq13) (om_32 hq14) (om_31 hq15) (om_29 hy9) (om_13 hy10) (om_33 hy11) _) ⟨callB_of 1 hG (zGood wc_X9_refuses) rfl rfl rfl (hG _ wini_X9) (hG _ wm_X9_124) hX9_refuses ⟨Nat.le_of_ble_eq_true rfl, Nat.le_of_ble_eq_true rfl⟩, hG _ wi_X9_refuses, hG _ wse_X9_X9_refuses⟩ (zpreV (va_recv hX.1 hP (ci := 9) (q0 := 4) rfl rfl) hX hP hD hS hA [4, 3] rfl (by decide)) rfl rfl hl.1 rfl (lv_room (Nat.le_of_ble_eq_true rfl)) dX9_part_53 ⟨Nat.le_of_ble_eq_true rfl, Nat.le_of_ble_eq_true rfl⟩) hP hD hS hA [4, 3] [0, 1, 2, 5, 6, 7, 8] rfl rfl (by decide) (by decide) (fun r733 u734 H locs hp hP hD hS => ?_)
    refine W.cs (cells' := 0) (slots' := 0) rfl rfl ?_
    obtain ⟨f735, rfl⟩ : ∃ z9, z9 = u734 := ⟨_, rfl⟩
    have hq736 : r733 = (-1 : Int32) := hp
    subst hq736
    have hP : va_P g.1 vwCl [(h0_now, .inl (g.2.1.1, 21, .inl f_h0_now)), (h0_told, .inl (g.2.1.1, 103, .inl f_h0_told)), (h0_kept, .inl (g.2.1.1, 420, .inl f_h0_kept)), (h0_read, .inl (g.2.1.1, 103, .inl f9)), (h0_readNow, .inl (g.2.1.1, 21, .inl f12)), (h0_tape, .inl (g.2.1.1, 1200, .inl f_h0_tape)), (h0_ownLetters, .inl (g.2.1.1, 95, .inl f_h0_ownLetters)), (h0, .inr (9, [.ref h0_told, .ref h0_read, .ref h0_now, .ref h0_readNow, .ref h0_kept, .int h0_undone, .int h0_seed, .int h0_hasPart, .ref h0_tape, .int 0, .ref h0_refused, .int v7, .int v8, .int h0_taped, .int v5, .int v6, .int v7, .int v8, .ref h0_ownLetters, .ref h0_flats, .int h0_isLaid, .ref h0_corner, .ref h0_wayX, .ref h0_wayY, .ref h0_normal, .ref h0_low, .ref h0_high, .ref h0_clear, .ref h0_ways, .ref h0_canBe, .ref h0_lain, .int h0_canTool, .ref h0_fewestBy, .ref h0_sortOf, .int h0_rows, .ref h0_seenFlange, .ref h0_seenLength])), (h0_refused, .inl (g.2.1.1, 6, .inl f735))] H := hP
    have hD : va_D A [(h0_now, .inl (g.2.1.1, 21, .inl f_h0_now)), (h0_told, .inl (g.2.1.1, 103, .inl f_h0_told)), (h0_kept, .inl (g.2.1.1, 420, .inl f_h0_kept)), (h0_read, .inl (g.2.1.1, 103, .inl f9)), (h0_readNow, .inl (g.2.1.1, 21, .inl f12)), (h0_tape, .inl (g.2.1.1, 1200, .inl f_h0_tape)), (h0_ownLetters, .inl (g.2.1.1, 95, .inl f_h0_ownLetters)), (h0, .inr (9, [.ref h0_told, .ref h0_read, .ref h0_now, .ref h0_readNow, .ref h0_kept, .int h0_undone, .int h0_seed, .int h0_hasPart, .ref h0_tape, .int 0, .ref h0_refused, .int v7, .int v8, .int h0_taped, .int v5, .int v6, .int v7, .int v8, .ref h0_ownLetters, .ref h0_flats, .int h0_isLaid, .ref h0_corner, .ref h0_wayX, .ref h0_wayY, .ref h0_normal, .ref h0_low, .ref h0_high, .ref h0_clear, .ref h0_ways, .ref h0_canBe, .ref h0_lain, .int h0_canTool, .ref h0_fewestBy, .ref h0_sortOf, .int h0_rows, .ref h0_seenFlange, .ref h0_seenLength])), (h0_refused, .inl (g.2.1.1, 6, .inl f735))] := hD
    exact hret (-1 : Int32) (h0_undone, h0_hasPart, v7, v8, h0_taped, v5, v6, v7, v8, h0_isLaid, h0_rows, f_h0_now, h0_now_0, f_h0_told, h0_told_3, h0_told_4, f9, v10, v11, f12, f735) (Nat.le_of_ble_eq_true rfl) (Nat.le_of_ble_eq_true rfl) rfl ⟨om_27 hy0, om_29 hy2, om_31 hq15, om_32 hy3, om_32 hq13, om_32 hq14, om_31 hq15, om_29 hy9, om_33 hy11, hy12, om_13 hy13, hy14, hy15, om_155 hy16, hy17, om_33 hy18, hy19, hq16, om_209 hq17, hq18, om_33 hq19, hq20, hq21, om_324 hy16 hy2 hy33, hy30, hy31, om_312 hq23⟩ (hP.sub [7, 0, 1, 2, 3, 4, 5, 6, 8] rfl) (hD.sub [7, 0, 1, 2, 3, 4, 5, 6, 8] (by decide) rfl) hS dX9_part_56
theorem dX9_fault_0 : decode cX9_fault 0 = .ok (.iload_n 1, 1) := by decide +kernel
theorem dX9_fault_1 : decode cX9_fault 1 = .ok (.ifCond .ne 10, 3) := by decide +kernel
theorem dX9_fault_11 : decode cX9_fault 11 = .ok (.iload_n 1, 1) := by decide +kernel
theorem dX9_fault_12 : decode cX9_fault 12 = .ok (.iconst 1, 1) := by decide +kernel
theorem dX9_fault_13 : decode cX9_fault 13 = .ok (.if_icmp .ne 10, 3) := by decide +kernel
theorem dX9_fault_23 : decode cX9_fault 23 = .ok (.iconst (-1), 1) := by decide +kernel
theorem dX9_fault_24 : decode cX9_fault 24 = .ok (.ireturn, 1) := by decide +kernel
theorem dX9_fault_16 : decode cX9_fault 16 = .ok (.aload_n 0, 1) := by decide +kernel
theorem dX9_fault_17 : decode cX9_fault 17 = .ok (.getfield 48, 3) := by decide +kernel
theorem dX9_fault_20 : decode cX9_fault 20 = .ok (.goto 4, 3) := by decide +kernel
theorem dX9_fault_4 : decode cX9_fault 4 = .ok (.aload_n 0, 1) := by decide +kernel
theorem dX9_fault_5 : decode cX9_fault 5 = .ok (.getfield 45, 3) := by decide +kernel
theorem dX9_fault_8 : decode cX9_fault 8 = .ok (.goto 16, 3) := by decide +kernel
abbrev rm_kX9_fault : Room := { frames := 0, cells := 0, slots := 0, locals := 0 }
set_option maxHeartbeats 4000000 in
set_option maxRecDepth 100000 in
theorem kX9_fault (l : Launch) (g : zL) (h0 : Nat) (x1 : Int32) (h0_told : Nat) (h0_read : Nat) (h0_now : Nat) (h0_readNow : Nat) (h0_kept : Nat) (h0_undone : Int32) (h0_seed : Int32) (h0_hasPart : Int32) (h0_tape : Nat) (h0_taped : Int32) (h0_refused : Nat) (h0_faultKind : Int32) (h0_faultPlace : Int32) (h0_size : Int32) (h0_at : Int32) (h0_from : Int32) (h0_wrong : Int32) (h0_wrongAt : Int32) (h0_ownLetters : Nat) (h0_flats : Nat) (h0_isLaid : Int32) (h0_corner : Nat) (h0_wayX : Nat) (h0_wayY : Nat) (h0_normal : Nat) (h0_low : Nat) (h0_high : Nat) (h0_clear : Nat) (h0_ways : Nat) (h0_canBe : Nat) (h0_lain : Nat) (h0_canTool : Int32) (h0_fewestBy : Nat) (h0_sortOf : Nat) (h0_rows : Int32) (h0_seenFlange : Nat) (h0_seenLength : Nat) (hy0 : 0 ≤ h0_undone.toInt ∧ h0_undone.toInt ≤ 20) (hy1 : 0 ≤ h0_seed.toInt ∧ h0_seed.toInt ≤ 2147483647) (hy2 : 0 ≤ h0_hasPart.toInt ∧ h0_hasPart.toInt ≤ 1) (hy3 : 0 ≤ h0_taped.toInt ∧ h0_taped.toInt ≤ 1200) (hy4 : 0 ≤ h0_faultKind.toInt ∧ h0_faultKind.toInt ≤ 5) (hy5 : 0 ≤ h0_size.toInt ∧ h0_size.toInt ≤ 1200) (hy6 : 0 ≤ h0_at.toInt ∧ h0_at.toInt ≤ 1200) (hy7 : 0 ≤ h0_from.toInt ∧ h0_from.toInt ≤ 1200) (hy8 : 0 ≤ h0_wrong.toInt ∧ h0_wrong.toInt ≤ 5) (hy9 : 0 ≤ h0_isLaid.toInt ∧ h0_isLaid.toInt ≤ 1) (hy10 : 0 ≤ h0_canTool.toInt ∧ h0_canTool.toInt ≤ 255) (hy11 : 0 ≤ h0_rows.toInt ∧ h0_rows.toInt ≤ 8) : zCi l g yX9_fault cX9_fault 2 (some .int) rm_kX9_fault [.ref h0, .int x1] [(h0, .inr (9, [.ref h0_told, .ref h0_read, .ref h0_now, .ref h0_readNow, .ref h0_kept, .int h0_undone, .int h0_seed, .int h0_hasPart, .ref h0_tape, .int h0_taped, .ref h0_refused, .int h0_faultKind, .int h0_faultPlace, .int h0_size, .int h0_at, .int h0_from, .int h0_wrong, .int h0_wrongAt, .ref h0_ownLetters, .ref h0_flats, .int h0_isLaid, .ref h0_corner, .ref h0_wayX, .ref h0_wayY, .ref h0_normal, .ref h0_low, .ref h0_high, .ref h0_clear, .ref h0_ways, .ref h0_canBe, .ref h0_lain, .int h0_canTool, .ref h0_fewestBy, .ref h0_sortOf, .int h0_rows, .ref h0_seenFlange, .ref h0_seenLength]))] (fun (r : Int32) (u : Unit) => True) (fun (u : Unit) => [(h0, .inr (9, [.ref h0_told, .ref h0_read, .ref h0_now, .ref h0_readNow, .ref h0_kept, .int h0_undone, .int h0_seed, .int h0_hasPart, .ref h0_tape, .int h0_taped, .ref h0_refused, .int h0_faultKind, .int h0_faultPlace, .int h0_size, .int h0_at, .int h0_from, .int h0_wrong, .int h0_wrongAt, .ref h0_ownLetters, .ref h0_flats, .int h0_isLaid, .ref h0_corner, .ref h0_wayX, .ref h0_wayY, .ref h0_normal, .ref h0_low, .ref h0_high, .ref h0_clear, .ref h0_ways, .ref h0_canBe, .ref h0_lain, .int h0_canTool, .ref h0_fewestBy, .ref h0_sortOf, .int h0_rows, .ref h0_seenFlange, .ref h0_seenLength]))]) := by
  refine zCi.mk2 (by decide) (Nat.le_of_ble_eq_true rfl) ?_
  intro p e s m below meth c A args Q hE hret hP hD hS ls hl
  obtain ⟨hx, hb, hr, hml, hown, hG, hlocks, hnm, hX, hA⟩ := hE
  have hown : s.vm.findClass RX9 = some m.cls := hown
  have hl : lv_has ls 2 [(0, .ref h0), (1, .int x1)] := hl
  refine lv_iload_n hx hb dX9_fault_0 rfl (lv_at hl 1 rfl) ?_
  refine lv_if_ne (tgt := 11) hx hb dX9_fault_1 (by decide) (fun c1 => ?_) (fun c1 => ?_)
  · skip
    have c1i : ¬ (x1.toInt = (0 : Int)) := fun q => c1 ((zc_eq (rfl : x1.toInt = _) (show (0 : Int32).toInt = (0 : Int) from by decide)).mpr q)
    refine lv_iload_n hx hb dX9_fault_11 rfl (lv_at hl 1 rfl) ?_
    refine lv_iconst (v := 1) hx hb dX9_fault_12 (by decide) ?_
    refine lv_icmp_ne (tgt := 23) hx hb dX9_fault_13 (by decide) (fun c2 => ?_) (fun c2 => ?_)
    · skip
      have c2i : ¬ (x1.toInt = (1 : Int)) := fun q => c2 ((zc_eq (rfl : x1.toInt = _) (show (1 : Int32).toInt = (1 : Int) from by decide)).mpr q)
      refine lv_iconst (v := (-1)) hx hb dX9_fault_23 (by decide) ?_
      exact hret (-1 : Int32) () (Nat.le_of_ble_eq_true rfl) (Nat.le_of_ble_eq_true rfl) rfl trivial hP hD hS dX9_fault_24
    · skip
      have c2i : x1.toInt = (1 : Int) := (zc_eq (rfl : x1.toInt = _) (show (1 : Int32).toInt = (1 : Int) from by decide)).mp c2
      refine lv_aload_n hx hb dX9_fault_16 rfl (lv_at hl 0 rfl) ?_
      refine va_get (D := g.1) (ci := 9) (v := .int h0_faultPlace) (C := RX9) (T := TX9) (N := 37) hx hb hG iX9 hown hX.1 hP 0 rfl rfl 12 (by decide) (hG _ wf_X9_48) (fun _ h9 => h9) rfl dX9_fault_17 ?_
      refine lv_goto (tgt := 24) hx hb dX9_fault_20 (by decide) ?_
      exact hret h0_faultPlace () (Nat.le_of_ble_eq_true rfl) (Nat.le_of_ble_eq_true rfl) rfl trivial hP hD hS dX9_fault_24
  · skip
    have c1i : x1.toInt = (0 : Int) := (zc_eq (rfl : x1.toInt = _) (show (0 : Int32).toInt = (0 : Int) from by decide)).mp c1
    refine lv_aload_n hx hb dX9_fault_4 rfl (lv_at hl 0 rfl) ?_
    refine va_get (D := g.1) (ci := 9) (v := .int h0_faultKind) (C := RX9) (T := TX9) (N := 37) hx hb hG iX9 hown hX.1 hP 0 rfl rfl 11 (by decide) (hG _ wf_X9_45) (fun _ h9 => h9) rfl dX9_fault_5 ?_
    refine lv_goto (tgt := 24) hx hb dX9_fault_8 (by decide) ?_
    exact hret h0_faultKind () (Nat.le_of_ble_eq_true rfl) (Nat.le_of_ble_eq_true rfl) rfl trivial hP hD hS dX9_fault_24
theorem dX9_flangeMany_0 : decode cX9_flangeMany 0 = .ok (.aload_n 0, 1) := by decide +kernel
theorem dX9_flangeMany_1 : decode cX9_flangeMany 1 = .ok (.getfield 32, 3) := by decide +kernel
theorem dX9_flangeMany_4 : decode cX9_flangeMany 4 = .ok (.ifCond .eq 12, 3) := by decide +kernel
theorem dX9_flangeMany_16 : decode cX9_flangeMany 16 = .ok (.iconst 0, 1) := by decide +kernel
theorem dX9_flangeMany_17 : decode cX9_flangeMany 17 = .ok (.ireturn, 1) := by decide +kernel
theorem dX9_flangeMany_7 : decode cX9_flangeMany 7 = .ok (.aload_n 0, 1) := by decide +kernel
theorem dX9_flangeMany_8 : decode cX9_flangeMany 8 = .ok (.getfield 7, 3) := by decide +kernel
theorem dX9_flangeMany_11 : decode cX9_flangeMany 11 = .ok (.iconst 3, 1) := by decide +kernel
theorem dX9_flangeMany_12 : decode cX9_flangeMany 12 = .ok (.iaload, 1) := by decide +kernel
theorem dX9_flangeMany_13 : decode cX9_flangeMany 13 = .ok (.goto 4, 3) := by decide +kernel
abbrev rm_kX9_flangeMany : Room := { frames := 0, cells := 0, slots := 0, locals := 0 }
set_option maxHeartbeats 4000000 in
set_option maxRecDepth 100000 in
theorem kX9_flangeMany (l : Launch) (g : zL) (h0 : Nat) (h0_told : Nat) (h0_read : Nat) (h0_now : Nat) (h0_readNow : Nat) (h0_kept : Nat) (h0_undone : Int32) (h0_seed : Int32) (h0_hasPart : Int32) (h0_tape : Nat) (h0_taped : Int32) (h0_refused : Nat) (h0_faultKind : Int32) (h0_faultPlace : Int32) (h0_size : Int32) (h0_at : Int32) (h0_from : Int32) (h0_wrong : Int32) (h0_wrongAt : Int32) (h0_ownLetters : Nat) (h0_flats : Nat) (h0_isLaid : Int32) (h0_corner : Nat) (h0_wayX : Nat) (h0_wayY : Nat) (h0_normal : Nat) (h0_low : Nat) (h0_high : Nat) (h0_clear : Nat) (h0_ways : Nat) (h0_canBe : Nat) (h0_lain : Nat) (h0_canTool : Int32) (h0_fewestBy : Nat) (h0_sortOf : Nat) (h0_rows : Int32) (h0_seenFlange : Nat) (h0_seenLength : Nat) (f_h0_told : Nat → Int32) (h0_told_3 : Int32) (h0_told_4 : Int32) (hy0 : 0 ≤ h0_undone.toInt ∧ h0_undone.toInt ≤ 20) (hy1 : 0 ≤ h0_seed.toInt ∧ h0_seed.toInt ≤ 2147483647) (hy2 : 0 ≤ h0_hasPart.toInt ∧ h0_hasPart.toInt ≤ 1) (hy3 : 0 ≤ h0_taped.toInt ∧ h0_taped.toInt ≤ 1200) (hy4 : 0 ≤ h0_faultKind.toInt ∧ h0_faultKind.toInt ≤ 5) (hy5 : 0 ≤ h0_size.toInt ∧ h0_size.toInt ≤ 1200) (hy6 : 0 ≤ h0_at.toInt ∧ h0_at.toInt ≤ 1200) (hy7 : 0 ≤ h0_from.toInt ∧ h0_from.toInt ≤ 1200) (hy8 : 0 ≤ h0_wrong.toInt ∧ h0_wrong.toInt ≤ 5) (hy9 : 0 ≤ h0_isLaid.toInt ∧ h0_isLaid.toInt ≤ 1) (hy10 : 0 ≤ h0_canTool.toInt ∧ h0_canTool.toInt ≤ 255) (hy11 : 0 ≤ h0_rows.toInt ∧ h0_rows.toInt ≤ 8) (hy12 : pW mB f_h0_told) (hy13 : 0 ≤ h0_told_3.toInt ∧ h0_told_3.toInt ≤ 9) (hy14 : cEq f_h0_told 3 h0_told_3) (hy15 : 0 ≤ h0_told_4.toInt ∧ h0_told_4.toInt ≤ 8) (hy16 : cEq f_h0_told 4 h0_told_4) (hy17 : ((h0_hasPart.toInt = 0 ∧ h0_told_3.toInt = 0) ∨ (h0_hasPart.toInt = 1 ∧ 1 ≤ h0_told_3.toInt))) : zCi l g yX9_flangeMany cX9_flangeMany 1 (some .int) rm_kX9_flangeMany [.ref h0] [(h0, .inr (9, [.ref h0_told, .ref h0_read, .ref h0_now, .ref h0_readNow, .ref h0_kept, .int h0_undone, .int h0_seed, .int h0_hasPart, .ref h0_tape, .int h0_taped, .ref h0_refused, .int h0_faultKind, .int h0_faultPlace, .int h0_size, .int h0_at, .int h0_from, .int h0_wrong, .int h0_wrongAt, .ref h0_ownLetters, .ref h0_flats, .int h0_isLaid, .ref h0_corner, .ref h0_wayX, .ref h0_wayY, .ref h0_normal, .ref h0_low, .ref h0_high, .ref h0_clear, .ref h0_ways, .ref h0_canBe, .ref h0_lain, .int h0_canTool, .ref h0_fewestBy, .ref h0_sortOf, .int h0_rows, .ref h0_seenFlange, .ref h0_seenLength])), (h0_told, .inl (g.2.1.1, 103, .inl f_h0_told))] (fun (r : Int32) (u : Unit) => (0 ≤ r.toInt ∧ r.toInt ≤ 9) ∧ (((h0_hasPart.toInt = 0 ∧ r.toInt = 0) ∨ (h0_hasPart.toInt = 1 ∧ r.toInt = h0_told_3.toInt)))) (fun (u : Unit) => [(h0, .inr (9, [.ref h0_told, .ref h0_read, .ref h0_now, .ref h0_readNow, .ref h0_kept, .int h0_undone, .int h0_seed, .int h0_hasPart, .ref h0_tape, .int h0_taped, .ref h0_refused, .int h0_faultKind, .int h0_faultPlace, .int h0_size, .int h0_at, .int h0_from, .int h0_wrong, .int h0_wrongAt, .ref h0_ownLetters, .ref h0_flats, .int h0_isLaid, .ref h0_corner, .ref h0_wayX, .ref h0_wayY, .ref h0_normal, .ref h0_low, .ref h0_high, .ref h0_clear, .ref h0_ways, .ref h0_canBe, .ref h0_lain, .int h0_canTool, .ref h0_fewestBy, .ref h0_sortOf, .int h0_rows, .ref h0_seenFlange, .ref h0_seenLength])), (h0_told, .inl (g.2.1.1, 103, .inl f_h0_told))]) := by
  refine zCi.mk2 (by decide) (Nat.le_of_ble_eq_true rfl) ?_
  intro p e s m below meth c A args Q hE hret hP hD hS ls hl
  obtain ⟨hx, hb, hr, hml, hown, hG, hlocks, hnm, hX, hA⟩ := hE
  have hown : s.vm.findClass RX9 = some m.cls := hown
  have hl : lv_has ls 1 [(0, .ref h0)] := hl
  refine lv_aload_n hx hb dX9_flangeMany_0 rfl (lv_at hl 0 rfl) ?_
  refine va_get (D := g.1) (ci := 9) (v := .int h0_hasPart) (C := RX9) (T := TX9) (N := 37) hx hb hG iX9 hown hX.1 hP 0 rfl rfl 7 (by decide) (hG _ wf_X9_32) (fun _ h9 => h9) rfl dX9_flangeMany_1 ?_
  refine lv_if_eq (tgt := 16) hx hb dX9_flangeMany_4 (by decide) (fun c1 => ?_) (fun c1 => ?_)
  · skip
    have c1i : h0_hasPart.toInt = (0 : Int) := (zc_eq (rfl : h0_hasPart.toInt = _) (show (0 : Int32).toInt = (0 : Int) from by decide)).mp c1
    refine lv_iconst (v := 0) hx hb dX9_flangeMany_16 (by decide) ?_
    exact hret (0 : Int32) () (Nat.le_of_ble_eq_true rfl) (Nat.le_of_ble_eq_true rfl) rfl ⟨(show 0 ≤ (0 : Int) ∧ (0 : Int) ≤ 9 from by decide), om_325 c1i hy2⟩ hP hD hS dX9_flangeMany_17
  · skip
    have c1i : ¬ (h0_hasPart.toInt = (0 : Int)) := fun q => c1 ((zc_eq (rfl : h0_hasPart.toInt = _) (show (0 : Int32).toInt = (0 : Int) from by decide)).mpr q)
    refine lv_aload_n hx hb dX9_flangeMany_7 rfl (lv_at hl 0 rfl) ?_
    refine va_get (D := g.1) (ci := 9) (v := .ref h0_told) (C := RX9) (T := TX9) (N := 37) hx hb hG iX9 hown hX.1 hP 0 rfl rfl 0 (by decide) (hG _ wf_X9_7) (fun _ h9 => h9) rfl dX9_flangeMany_8 ?_
    refine lv_iconst (v := 3) hx hb dX9_flangeMany_11 (by decide) ?_
    refine va_iald hx hb hX.1 hP 1 0 rfl rfl (zin (show (3 : Int32).toInt = (3 : Int) from by decide) ((show 0 ≤ (3 : Int) ∧ (3 : Int) < 103 from by decide))) dX9_flangeMany_12 ?_
    refine zt (z := h0_told_3) (cEq.at hy14 (by decide)) ?_
    refine lv_goto (tgt := 17) hx hb dX9_flangeMany_13 (by decide) ?_
    exact hret h0_told_3 () (Nat.le_of_ble_eq_true rfl) (Nat.le_of_ble_eq_true rfl) rfl ⟨om_155 hy13, om_326 c1i hy2⟩ hP hD hS dX9_flangeMany_17
theorem dX9_bendMany_0 : decode cX9_bendMany 0 = .ok (.aload_n 0, 1) := by decide +kernel
theorem dX9_bendMany_1 : decode cX9_bendMany 1 = .ok (.getfield 32, 3) := by decide +kernel
theorem dX9_bendMany_4 : decode cX9_bendMany 4 = .ok (.ifCond .eq 14, 3) := by decide +kernel
theorem dX9_bendMany_18 : decode cX9_bendMany 18 = .ok (.iconst 0, 1) := by decide +kernel
theorem dX9_bendMany_19 : decode cX9_bendMany 19 = .ok (.ireturn, 1) := by decide +kernel
theorem dX9_bendMany_7 : decode cX9_bendMany 7 = .ok (.aload_n 0, 1) := by decide +kernel
theorem dX9_bendMany_8 : decode cX9_bendMany 8 = .ok (.getfield 7, 3) := by decide +kernel
theorem dX9_bendMany_11 : decode cX9_bendMany 11 = .ok (.iconst 3, 1) := by decide +kernel
theorem dX9_bendMany_12 : decode cX9_bendMany 12 = .ok (.iaload, 1) := by decide +kernel
theorem dX9_bendMany_13 : decode cX9_bendMany 13 = .ok (.iconst 1, 1) := by decide +kernel
theorem dX9_bendMany_14 : decode cX9_bendMany 14 = .ok (.isub, 1) := by decide +kernel
theorem dX9_bendMany_15 : decode cX9_bendMany 15 = .ok (.goto 4, 3) := by decide +kernel
abbrev rm_kX9_bendMany : Room := { frames := 0, cells := 0, slots := 0, locals := 0 }
set_option maxHeartbeats 4000000 in
set_option maxRecDepth 100000 in
theorem kX9_bendMany (l : Launch) (g : zL) (h0 : Nat) (h0_told : Nat) (h0_read : Nat) (h0_now : Nat) (h0_readNow : Nat) (h0_kept : Nat) (h0_undone : Int32) (h0_seed : Int32) (h0_hasPart : Int32) (h0_tape : Nat) (h0_taped : Int32) (h0_refused : Nat) (h0_faultKind : Int32) (h0_faultPlace : Int32) (h0_size : Int32) (h0_at : Int32) (h0_from : Int32) (h0_wrong : Int32) (h0_wrongAt : Int32) (h0_ownLetters : Nat) (h0_flats : Nat) (h0_isLaid : Int32) (h0_corner : Nat) (h0_wayX : Nat) (h0_wayY : Nat) (h0_normal : Nat) (h0_low : Nat) (h0_high : Nat) (h0_clear : Nat) (h0_ways : Nat) (h0_canBe : Nat) (h0_lain : Nat) (h0_canTool : Int32) (h0_fewestBy : Nat) (h0_sortOf : Nat) (h0_rows : Int32) (h0_seenFlange : Nat) (h0_seenLength : Nat) (f_h0_told : Nat → Int32) (h0_told_3 : Int32) (h0_told_4 : Int32) (hy0 : 0 ≤ h0_undone.toInt ∧ h0_undone.toInt ≤ 20) (hy1 : 0 ≤ h0_seed.toInt ∧ h0_seed.toInt ≤ 2147483647) (hy2 : 0 ≤ h0_hasPart.toInt ∧ h0_hasPart.toInt ≤ 1) (hy3 : 0 ≤ h0_taped.toInt ∧ h0_taped.toInt ≤ 1200) (hy4 : 0 ≤ h0_faultKind.toInt ∧ h0_faultKind.toInt ≤ 5) (hy5 : 0 ≤ h0_size.toInt ∧ h0_size.toInt ≤ 1200) (hy6 : 0 ≤ h0_at.toInt ∧ h0_at.toInt ≤ 1200) (hy7 : 0 ≤ h0_from.toInt ∧ h0_from.toInt ≤ 1200) (hy8 : 0 ≤ h0_wrong.toInt ∧ h0_wrong.toInt ≤ 5) (hy9 : 0 ≤ h0_isLaid.toInt ∧ h0_isLaid.toInt ≤ 1) (hy10 : 0 ≤ h0_canTool.toInt ∧ h0_canTool.toInt ≤ 255) (hy11 : 0 ≤ h0_rows.toInt ∧ h0_rows.toInt ≤ 8) (hy12 : pW mB f_h0_told) (hy13 : 0 ≤ h0_told_3.toInt ∧ h0_told_3.toInt ≤ 9) (hy14 : cEq f_h0_told 3 h0_told_3) (hy15 : 0 ≤ h0_told_4.toInt ∧ h0_told_4.toInt ≤ 8) (hy16 : cEq f_h0_told 4 h0_told_4) (hy17 : ((h0_hasPart.toInt = 0 ∧ h0_told_3.toInt = 0) ∨ (h0_hasPart.toInt = 1 ∧ 1 ≤ h0_told_3.toInt))) : zCi l g yX9_bendMany cX9_bendMany 1 (some .int) rm_kX9_bendMany [.ref h0] [(h0, .inr (9, [.ref h0_told, .ref h0_read, .ref h0_now, .ref h0_readNow, .ref h0_kept, .int h0_undone, .int h0_seed, .int h0_hasPart, .ref h0_tape, .int h0_taped, .ref h0_refused, .int h0_faultKind, .int h0_faultPlace, .int h0_size, .int h0_at, .int h0_from, .int h0_wrong, .int h0_wrongAt, .ref h0_ownLetters, .ref h0_flats, .int h0_isLaid, .ref h0_corner, .ref h0_wayX, .ref h0_wayY, .ref h0_normal, .ref h0_low, .ref h0_high, .ref h0_clear, .ref h0_ways, .ref h0_canBe, .ref h0_lain, .int h0_canTool, .ref h0_fewestBy, .ref h0_sortOf, .int h0_rows, .ref h0_seenFlange, .ref h0_seenLength])), (h0_told, .inl (g.2.1.1, 103, .inl f_h0_told))] (fun (r : Int32) (u : Unit) => (0 ≤ r.toInt ∧ r.toInt ≤ 8) ∧ (((h0_hasPart.toInt = 0 ∧ r.toInt = 0) ∨ (h0_hasPart.toInt = 1 ∧ r.toInt = h0_told_3.toInt - 1)))) (fun (u : Unit) => [(h0, .inr (9, [.ref h0_told, .ref h0_read, .ref h0_now, .ref h0_readNow, .ref h0_kept, .int h0_undone, .int h0_seed, .int h0_hasPart, .ref h0_tape, .int h0_taped, .ref h0_refused, .int h0_faultKind, .int h0_faultPlace, .int h0_size, .int h0_at, .int h0_from, .int h0_wrong, .int h0_wrongAt, .ref h0_ownLetters, .ref h0_flats, .int h0_isLaid, .ref h0_corner, .ref h0_wayX, .ref h0_wayY, .ref h0_normal, .ref h0_low, .ref h0_high, .ref h0_clear, .ref h0_ways, .ref h0_canBe, .ref h0_lain, .int h0_canTool, .ref h0_fewestBy, .ref h0_sortOf, .int h0_rows, .ref h0_seenFlange, .ref h0_seenLength])), (h0_told, .inl (g.2.1.1, 103, .inl f_h0_told))]) := by
  refine zCi.mk2 (by decide) (Nat.le_of_ble_eq_true rfl) ?_
  intro p e s m below meth c A args Q hE hret hP hD hS ls hl
  obtain ⟨hx, hb, hr, hml, hown, hG, hlocks, hnm, hX, hA⟩ := hE
  have hown : s.vm.findClass RX9 = some m.cls := hown
  have hl : lv_has ls 1 [(0, .ref h0)] := hl
  refine lv_aload_n hx hb dX9_bendMany_0 rfl (lv_at hl 0 rfl) ?_
  refine va_get (D := g.1) (ci := 9) (v := .int h0_hasPart) (C := RX9) (T := TX9) (N := 37) hx hb hG iX9 hown hX.1 hP 0 rfl rfl 7 (by decide) (hG _ wf_X9_32) (fun _ h9 => h9) rfl dX9_bendMany_1 ?_
  refine lv_if_eq (tgt := 18) hx hb dX9_bendMany_4 (by decide) (fun c1 => ?_) (fun c1 => ?_)
  · skip
    have c1i : h0_hasPart.toInt = (0 : Int) := (zc_eq (rfl : h0_hasPart.toInt = _) (show (0 : Int32).toInt = (0 : Int) from by decide)).mp c1
    refine lv_iconst (v := 0) hx hb dX9_bendMany_18 (by decide) ?_
    exact hret (0 : Int32) () (Nat.le_of_ble_eq_true rfl) (Nat.le_of_ble_eq_true rfl) rfl ⟨(show 0 ≤ (0 : Int) ∧ (0 : Int) ≤ 8 from by decide), om_327 c1i hy2⟩ hP hD hS dX9_bendMany_19
  · skip
    have c1i : ¬ (h0_hasPart.toInt = (0 : Int)) := fun q => c1 ((zc_eq (rfl : h0_hasPart.toInt = _) (show (0 : Int32).toInt = (0 : Int) from by decide)).mpr q)
    refine lv_aload_n hx hb dX9_bendMany_7 rfl (lv_at hl 0 rfl) ?_
    refine va_get (D := g.1) (ci := 9) (v := .ref h0_told) (C := RX9) (T := TX9) (N := 37) hx hb hG iX9 hown hX.1 hP 0 rfl rfl 0 (by decide) (hG _ wf_X9_7) (fun _ h9 => h9) rfl dX9_bendMany_8 ?_
    refine lv_iconst (v := 3) hx hb dX9_bendMany_11 (by decide) ?_
    refine va_iald hx hb hX.1 hP 1 0 rfl rfl (zin (show (3 : Int32).toInt = (3 : Int) from by decide) ((show 0 ≤ (3 : Int) ∧ (3 : Int) < 103 from by decide))) dX9_bendMany_12 ?_
    refine zt (z := h0_told_3) (cEq.at hy14 (by decide)) ?_
    refine lv_iconst (v := 1) hx hb dX9_bendMany_13 (by decide) ?_
    refine lv_isub hx hb dX9_bendMany_14 ?_
    refine lv_topi (fun z2 e3 => ?_)
    have f4 : z2.toInt = h0_told_3.toInt - (1 : Int) := zs e3 (rfl : h0_told_3.toInt = _) (show (1 : Int32).toInt = (1 : Int) from by decide) (om_328 hy13)
    refine lv_goto (tgt := 19) hx hb dX9_bendMany_15 (by decide) ?_
    exact hret z2 () (Nat.le_of_ble_eq_true rfl) (Nat.le_of_ble_eq_true rfl) rfl ⟨om_329 c1i f4 hy13 hy17 hy2, om_330 c1i f4 hy2⟩ hP hD hS dX9_bendMany_19
theorem dX9_allBends_0 : decode cX9_allBends 0 = .ok (.iconst 1, 1) := by decide +kernel
theorem dX9_allBends_1 : decode cX9_allBends 1 = .ok (.aload_n 0, 1) := by decide +kernel
theorem dX9_allBends_2 : decode cX9_allBends 2 = .ok (.invokevirtual 216, 3) := by decide +kernel
theorem dX9_allBends_5 : decode cX9_allBends 5 = .ok (.ishl, 1) := by decide +kernel
theorem dX9_allBends_6 : decode cX9_allBends 6 = .ok (.iconst 1, 1) := by decide +kernel
theorem dX9_allBends_7 : decode cX9_allBends 7 = .ok (.isub, 1) := by decide +kernel
theorem dX9_allBends_8 : decode cX9_allBends 8 = .ok (.ireturn, 1) := by decide +kernel
abbrev rm_kX9_allBends : Room := { frames := 1, cells := 0, slots := 0, locals := 20 }
set_option maxHeartbeats 4000000 in
set_option maxRecDepth 100000 in
theorem kX9_allBends (l : Launch) (g : zL) (h0 : Nat) (h0_told : Nat) (h0_read : Nat) (h0_now : Nat) (h0_readNow : Nat) (h0_kept : Nat) (h0_undone : Int32) (h0_seed : Int32) (h0_hasPart : Int32) (h0_tape : Nat) (h0_taped : Int32) (h0_refused : Nat) (h0_faultKind : Int32) (h0_faultPlace : Int32) (h0_size : Int32) (h0_at : Int32) (h0_from : Int32) (h0_wrong : Int32) (h0_wrongAt : Int32) (h0_ownLetters : Nat) (h0_flats : Nat) (h0_isLaid : Int32) (h0_corner : Nat) (h0_wayX : Nat) (h0_wayY : Nat) (h0_normal : Nat) (h0_low : Nat) (h0_high : Nat) (h0_clear : Nat) (h0_ways : Nat) (h0_canBe : Nat) (h0_lain : Nat) (h0_canTool : Int32) (h0_fewestBy : Nat) (h0_sortOf : Nat) (h0_rows : Int32) (h0_seenFlange : Nat) (h0_seenLength : Nat) (f_h0_told : Nat → Int32) (h0_told_3 : Int32) (h0_told_4 : Int32) (hy0 : 0 ≤ h0_undone.toInt ∧ h0_undone.toInt ≤ 20) (hy1 : 0 ≤ h0_seed.toInt ∧ h0_seed.toInt ≤ 2147483647) (hy2 : 0 ≤ h0_hasPart.toInt ∧ h0_hasPart.toInt ≤ 1) (hy3 : 0 ≤ h0_taped.toInt ∧ h0_taped.toInt ≤ 1200) (hy4 : 0 ≤ h0_faultKind.toInt ∧ h0_faultKind.toInt ≤ 5) (hy5 : 0 ≤ h0_size.toInt ∧ h0_size.toInt ≤ 1200) (hy6 : 0 ≤ h0_at.toInt ∧ h0_at.toInt ≤ 1200) (hy7 : 0 ≤ h0_from.toInt ∧ h0_from.toInt ≤ 1200) (hy8 : 0 ≤ h0_wrong.toInt ∧ h0_wrong.toInt ≤ 5) (hy9 : 0 ≤ h0_isLaid.toInt ∧ h0_isLaid.toInt ≤ 1) (hy10 : 0 ≤ h0_canTool.toInt ∧ h0_canTool.toInt ≤ 255) (hy11 : 0 ≤ h0_rows.toInt ∧ h0_rows.toInt ≤ 8) (hy12 : pW mB f_h0_told) (hy13 : 0 ≤ h0_told_3.toInt ∧ h0_told_3.toInt ≤ 9) (hy14 : cEq f_h0_told 3 h0_told_3) (hy15 : 0 ≤ h0_told_4.toInt ∧ h0_told_4.toInt ≤ 8) (hy16 : cEq f_h0_told 4 h0_told_4) (hy17 : ((h0_hasPart.toInt = 0 ∧ h0_told_3.toInt = 0) ∨ (h0_hasPart.toInt = 1 ∧ 1 ≤ h0_told_3.toInt))) : zCi l g yX9_allBends cX9_allBends 1 (some .int) rm_kX9_allBends [.ref h0] [(h0, .inr (9, [.ref h0_told, .ref h0_read, .ref h0_now, .ref h0_readNow, .ref h0_kept, .int h0_undone, .int h0_seed, .int h0_hasPart, .ref h0_tape, .int h0_taped, .ref h0_refused, .int h0_faultKind, .int h0_faultPlace, .int h0_size, .int h0_at, .int h0_from, .int h0_wrong, .int h0_wrongAt, .ref h0_ownLetters, .ref h0_flats, .int h0_isLaid, .ref h0_corner, .ref h0_wayX, .ref h0_wayY, .ref h0_normal, .ref h0_low, .ref h0_high, .ref h0_clear, .ref h0_ways, .ref h0_canBe, .ref h0_lain, .int h0_canTool, .ref h0_fewestBy, .ref h0_sortOf, .int h0_rows, .ref h0_seenFlange, .ref h0_seenLength])), (h0_told, .inl (g.2.1.1, 103, .inl f_h0_told))] (fun (r : Int32) (u : Unit) => (0 ≤ r.toInt ∧ r.toInt ≤ 255) ∧ (pE r h0_told_3)) (fun (u : Unit) => [(h0, .inr (9, [.ref h0_told, .ref h0_read, .ref h0_now, .ref h0_readNow, .ref h0_kept, .int h0_undone, .int h0_seed, .int h0_hasPart, .ref h0_tape, .int h0_taped, .ref h0_refused, .int h0_faultKind, .int h0_faultPlace, .int h0_size, .int h0_at, .int h0_from, .int h0_wrong, .int h0_wrongAt, .ref h0_ownLetters, .ref h0_flats, .int h0_isLaid, .ref h0_corner, .ref h0_wayX, .ref h0_wayY, .ref h0_normal, .ref h0_low, .ref h0_high, .ref h0_clear, .ref h0_ways, .ref h0_canBe, .ref h0_lain, .int h0_canTool, .ref h0_fewestBy, .ref h0_sortOf, .int h0_rows, .ref h0_seenFlange, .ref h0_seenLength])), (h0_told, .inl (g.2.1.1, 103, .inl f_h0_told))]) := by
  refine zCi.mk2 (by decide) (Nat.le_of_ble_eq_true rfl) ?_
  intro p e s m below meth c A args Q hE hret hP hD hS ls hl
  obtain ⟨hx, hb, hr, hml, hown, hG, hlocks, hnm, hX, hA⟩ := hE
  have hown : s.vm.findClass RX9 = some m.cls := hown
  have hl : lv_has ls 1 [(0, .ref h0)] := hl
  refine lv_iconst (v := 1) hx hb dX9_allBends_0 (by decide) ?_
  refine lv_aload_n hx hb dX9_allBends_1 rfl (lv_at hl 0 rfl) ?_
  refine zfi (wr := []) (va_runV (As := []) (rest := [.int 1]) ⟨hx, hb, hml, hown, hG⟩ (kX9_bendMany l g h0 h0_told h0_read h0_now h0_readNow h0_kept h0_undone h0_seed h0_hasPart h0_tape h0_taped h0_refused h0_faultKind h0_faultPlace h0_size h0_at h0_from h0_wrong h0_wrongAt h0_ownLetters h0_flats h0_isLaid h0_corner h0_wayX h0_wayY h0_normal h0_low h0_high h0_clear h0_ways h0_canBe h0_lain h0_canTool h0_fewestBy h0_sortOf h0_rows h0_seenFlange h0_seenLength f_h0_told h0_told_3 h0_told_4 (om_27 hy0) (om_28 hy1) (om_29 hy2) (om_32 hy3) (om_31 hy4) (om_32 hy5) (om_32 hy6) (om_32 hy7) (om_31 hy8) (om_29 hy9) (om_13 hy10) (om_33 hy11) hy12 (om_155 hy13) hy14 (om_33 hy15) hy16 (om_331 hy13 hy17 hy2) _) ⟨callB_of 0 hG (zGood wc_X9_bendMany) rfl rfl rfl (hG _ wini_X9) (hG _ wm_X9_216) hX9_bendMany ⟨Nat.le_of_ble_eq_true rfl, Nat.le_of_ble_eq_true rfl⟩, hG _ wi_X9_bendMany, hG _ wse_X9_X9_bendMany⟩ (zpreV (va_recv hX.1 hP (ci := 9) (q0 := 0) rfl rfl) hX hP hD hS hA [0, 1] rfl (by decide)) rfl rfl hl.1 rfl (lv_room (Nat.le_of_ble_eq_true rfl)) dX9_allBends_2 ⟨Nat.le_of_ble_eq_true rfl, Nat.le_of_ble_eq_true rfl⟩) hP hD hS hA [0, 1] [] rfl rfl (by decide) (by decide) (fun r1 _ H locs hp hP hD hS => ?_)
  refine W.cs (cells' := 0) (slots' := 0) rfl rfl ?_
  obtain ⟨hq2, hq3⟩ : (0 ≤ r1.toInt ∧ r1.toInt ≤ 8) ∧ (((h0_hasPart.toInt = 0 ∧ r1.toInt = 0) ∨ (h0_hasPart.toInt = 1 ∧ r1.toInt = h0_told_3.toInt - 1))) := hp
  have hP : va_P g.1 vwCl [(h0, .inr (9, [.ref h0_told, .ref h0_read, .ref h0_now, .ref h0_readNow, .ref h0_kept, .int h0_undone, .int h0_seed, .int h0_hasPart, .ref h0_tape, .int h0_taped, .ref h0_refused, .int h0_faultKind, .int h0_faultPlace, .int h0_size, .int h0_at, .int h0_from, .int h0_wrong, .int h0_wrongAt, .ref h0_ownLetters, .ref h0_flats, .int h0_isLaid, .ref h0_corner, .ref h0_wayX, .ref h0_wayY, .ref h0_normal, .ref h0_low, .ref h0_high, .ref h0_clear, .ref h0_ways, .ref h0_canBe, .ref h0_lain, .int h0_canTool, .ref h0_fewestBy, .ref h0_sortOf, .int h0_rows, .ref h0_seenFlange, .ref h0_seenLength])), (h0_told, .inl (g.2.1.1, 103, .inl f_h0_told))] H := hP
  have hD : va_D A [(h0, .inr (9, [.ref h0_told, .ref h0_read, .ref h0_now, .ref h0_readNow, .ref h0_kept, .int h0_undone, .int h0_seed, .int h0_hasPart, .ref h0_tape, .int h0_taped, .ref h0_refused, .int h0_faultKind, .int h0_faultPlace, .int h0_size, .int h0_at, .int h0_from, .int h0_wrong, .int h0_wrongAt, .ref h0_ownLetters, .ref h0_flats, .int h0_isLaid, .ref h0_corner, .ref h0_wayX, .ref h0_wayY, .ref h0_normal, .ref h0_low, .ref h0_high, .ref h0_clear, .ref h0_ways, .ref h0_canBe, .ref h0_lain, .int h0_canTool, .ref h0_fewestBy, .ref h0_sortOf, .int h0_rows, .ref h0_seenFlange, .ref h0_seenLength])), (h0_told, .inl (g.2.1.1, 103, .inl f_h0_told))] := hD
  refine lv_ishl hx hb dX9_allBends_5 ?_
  refine lv_topi (fun z4 e5 => ?_)
  have f6 : ((r1.toInt = 0 ∧ z4.toInt = 1) ∨ (r1.toInt = 1 ∧ z4.toInt = 2) ∨ (r1.toInt = 2 ∧ z4.toInt = 4) ∨ (r1.toInt = 3 ∧ z4.toInt = 8) ∨ (r1.toInt = 4 ∧ z4.toInt = 16) ∨ (r1.toInt = 5 ∧ z4.toInt = 32) ∨ (r1.toInt = 6 ∧ z4.toInt = 64) ∨ (r1.toInt = 7 ∧ z4.toInt = 128) ∨ (r1.toInt = 8 ∧ z4.toInt = 256)) := zshlE e5 (rfl : r1.toInt = _) (om_332 hq2)
  refine lv_iconst (v := 1) hx hb dX9_allBends_6 (by decide) ?_
  refine lv_isub hx hb dX9_allBends_7 ?_
  refine lv_topi (fun z7 e8 => ?_)
  have f9 : z7.toInt = z4.toInt - (1 : Int) := zs e8 (rfl : z4.toInt = _) (show (1 : Int32).toInt = (1 : Int) from by decide) (om_333 (zr z4) f6)
  exact hret z7 () (Nat.le_of_ble_eq_true rfl) (Nat.le_of_ble_eq_true rfl) rfl ⟨om_334 f6 f9, (pE.of e5 (om_335 f9) (rfl : r1.toInt = _) (rfl : h0_told_3.toInt = _) (om_336 hq2 hq3 hy17))⟩ hP hD hS dX9_allBends_8
theorem dX9_isFlange_0 : decode cX9_isFlange 0 = .ok (.iload_n 1, 1) := by decide +kernel
theorem dX9_isFlange_1 : decode cX9_isFlange 1 = .ok (.iconst 0, 1) := by decide +kernel
theorem dX9_isFlange_2 : decode cX9_isFlange 2 = .ok (.aload_n 0, 1) := by decide +kernel
theorem dX9_isFlange_3 : decode cX9_isFlange 3 = .ok (.invokevirtual 219, 3) := by decide +kernel
theorem dX9_isFlange_6 : decode cX9_isFlange 6 = .ok (.iconst 1, 1) := by decide +kernel
theorem dX9_isFlange_7 : decode cX9_isFlange 7 = .ok (.isub, 1) := by decide +kernel
theorem dX9_isFlange_8 : decode cX9_isFlange 8 = .ok (.invokestatic 163, 3) := by decide +kernel
theorem dX9_isFlange_11 : decode cX9_isFlange 11 = .ok (.ireturn, 1) := by decide +kernel
abbrev rm_kX9_isFlange : Room := { frames := 1, cells := 0, slots := 0, locals := 22 }
set_option maxHeartbeats 4000000 in
set_option maxRecDepth 100000 in
theorem kX9_isFlange (l : Launch) (g : zL) (h0 : Nat) (x1 : Int32) (h0_told : Nat) (h0_read : Nat) (h0_now : Nat) (h0_readNow : Nat) (h0_kept : Nat) (h0_undone : Int32) (h0_seed : Int32) (h0_hasPart : Int32) (h0_tape : Nat) (h0_taped : Int32) (h0_refused : Nat) (h0_faultKind : Int32) (h0_faultPlace : Int32) (h0_size : Int32) (h0_at : Int32) (h0_from : Int32) (h0_wrong : Int32) (h0_wrongAt : Int32) (h0_ownLetters : Nat) (h0_flats : Nat) (h0_isLaid : Int32) (h0_corner : Nat) (h0_wayX : Nat) (h0_wayY : Nat) (h0_normal : Nat) (h0_low : Nat) (h0_high : Nat) (h0_clear : Nat) (h0_ways : Nat) (h0_canBe : Nat) (h0_lain : Nat) (h0_canTool : Int32) (h0_fewestBy : Nat) (h0_sortOf : Nat) (h0_rows : Int32) (h0_seenFlange : Nat) (h0_seenLength : Nat) (f_h0_told : Nat → Int32) (h0_told_3 : Int32) (h0_told_4 : Int32) (hy0 : 0 ≤ h0_undone.toInt ∧ h0_undone.toInt ≤ 20) (hy1 : 0 ≤ h0_seed.toInt ∧ h0_seed.toInt ≤ 2147483647) (hy2 : 0 ≤ h0_hasPart.toInt ∧ h0_hasPart.toInt ≤ 1) (hy3 : 0 ≤ h0_taped.toInt ∧ h0_taped.toInt ≤ 1200) (hy4 : 0 ≤ h0_faultKind.toInt ∧ h0_faultKind.toInt ≤ 5) (hy5 : 0 ≤ h0_size.toInt ∧ h0_size.toInt ≤ 1200) (hy6 : 0 ≤ h0_at.toInt ∧ h0_at.toInt ≤ 1200) (hy7 : 0 ≤ h0_from.toInt ∧ h0_from.toInt ≤ 1200) (hy8 : 0 ≤ h0_wrong.toInt ∧ h0_wrong.toInt ≤ 5) (hy9 : 0 ≤ h0_isLaid.toInt ∧ h0_isLaid.toInt ≤ 1) (hy10 : 0 ≤ h0_canTool.toInt ∧ h0_canTool.toInt ≤ 255) (hy11 : 0 ≤ h0_rows.toInt ∧ h0_rows.toInt ≤ 8) (hy12 : pW mB f_h0_told) (hy13 : 0 ≤ h0_told_3.toInt ∧ h0_told_3.toInt ≤ 9) (hy14 : cEq f_h0_told 3 h0_told_3) (hy15 : 0 ≤ h0_told_4.toInt ∧ h0_told_4.toInt ≤ 8) (hy16 : cEq f_h0_told 4 h0_told_4) (hy17 : ((h0_hasPart.toInt = 0 ∧ h0_told_3.toInt = 0) ∨ (h0_hasPart.toInt = 1 ∧ 1 ≤ h0_told_3.toInt))) : zCi l g yX9_isFlange cX9_isFlange 2 (some .boolean) rm_kX9_isFlange [.ref h0, .int x1] [(h0, .inr (9, [.ref h0_told, .ref h0_read, .ref h0_now, .ref h0_readNow, .ref h0_kept, .int h0_undone, .int h0_seed, .int h0_hasPart, .ref h0_tape, .int h0_taped, .ref h0_refused, .int h0_faultKind, .int h0_faultPlace, .int h0_size, .int h0_at, .int h0_from, .int h0_wrong, .int h0_wrongAt, .ref h0_ownLetters, .ref h0_flats, .int h0_isLaid, .ref h0_corner, .ref h0_wayX, .ref h0_wayY, .ref h0_normal, .ref h0_low, .ref h0_high, .ref h0_clear, .ref h0_ways, .ref h0_canBe, .ref h0_lain, .int h0_canTool, .ref h0_fewestBy, .ref h0_sortOf, .int h0_rows, .ref h0_seenFlange, .ref h0_seenLength])), (h0_told, .inl (g.2.1.1, 103, .inl f_h0_told))] (fun (r : Int32) (u : Unit) => (0 ≤ r.toInt ∧ r.toInt ≤ 1) ∧ ((r.toInt = 0 ∨ (0 ≤ x1.toInt ∧ x1.toInt ≤ 8 ∧ x1.toInt < h0_told_3.toInt ∧ h0_hasPart.toInt = 1 ∧ 1 ≤ h0_told_3.toInt)))) (fun (u : Unit) => [(h0, .inr (9, [.ref h0_told, .ref h0_read, .ref h0_now, .ref h0_readNow, .ref h0_kept, .int h0_undone, .int h0_seed, .int h0_hasPart, .ref h0_tape, .int h0_taped, .ref h0_refused, .int h0_faultKind, .int h0_faultPlace, .int h0_size, .int h0_at, .int h0_from, .int h0_wrong, .int h0_wrongAt, .ref h0_ownLetters, .ref h0_flats, .int h0_isLaid, .ref h0_corner, .ref h0_wayX, .ref h0_wayY, .ref h0_normal, .ref h0_low, .ref h0_high, .ref h0_clear, .ref h0_ways, .ref h0_canBe, .ref h0_lain, .int h0_canTool, .ref h0_fewestBy, .ref h0_sortOf, .int h0_rows, .ref h0_seenFlange, .ref h0_seenLength])), (h0_told, .inl (g.2.1.1, 103, .inl f_h0_told))]) := by
  refine zCi.mk2 (by decide) (Nat.le_of_ble_eq_true rfl) ?_
  intro p e s m below meth c A args Q hE hret hP hD hS ls hl
  obtain ⟨hx, hb, hr, hml, hown, hG, hlocks, hnm, hX, hA⟩ := hE
  have hown : s.vm.findClass RX9 = some m.cls := hown
  have hl : lv_has ls 2 [(0, .ref h0), (1, .int x1)] := hl
  refine lv_iload_n hx hb dX9_isFlange_0 rfl (lv_at hl 1 rfl) ?_
  refine lv_iconst (v := 0) hx hb dX9_isFlange_1 (by decide) ?_
  refine lv_aload_n hx hb dX9_isFlange_2 rfl (lv_at hl 0 rfl) ?_
  refine zfi (wr := []) (va_runV (As := []) (rest := [.int 0, .int x1]) ⟨hx, hb, hml, hown, hG⟩ (kX9_flangeMany l g h0 h0_told h0_read h0_now h0_readNow h0_kept h0_undone h0_seed h0_hasPart h0_tape h0_taped h0_refused h0_faultKind h0_faultPlace h0_size h0_at h0_from h0_wrong h0_wrongAt h0_ownLetters h0_flats h0_isLaid h0_corner h0_wayX h0_wayY h0_normal h0_low h0_high h0_clear h0_ways h0_canBe h0_lain h0_canTool h0_fewestBy h0_sortOf h0_rows h0_seenFlange h0_seenLength f_h0_told h0_told_3 h0_told_4 (om_27 hy0) (om_28 hy1) (om_29 hy2) (om_32 hy3) (om_31 hy4) (om_32 hy5) (om_32 hy6) (om_32 hy7) (om_31 hy8) (om_29 hy9) (om_13 hy10) (om_33 hy11) hy12 (om_155 hy13) hy14 (om_33 hy15) hy16 (om_331 hy13 hy17 hy2) _) ⟨callB_of 0 hG (zGood wc_X9_flangeMany) rfl rfl rfl (hG _ wini_X9) (hG _ wm_X9_219) hX9_flangeMany ⟨Nat.le_of_ble_eq_true rfl, Nat.le_of_ble_eq_true rfl⟩, hG _ wi_X9_flangeMany, hG _ wse_X9_X9_flangeMany⟩ (zpreV (va_recv hX.1 hP (ci := 9) (q0 := 0) rfl rfl) hX hP hD hS hA [0, 1] rfl (by decide)) rfl rfl hl.1 rfl (lv_room (Nat.le_of_ble_eq_true rfl)) dX9_isFlange_3 ⟨Nat.le_of_ble_eq_true rfl, Nat.le_of_ble_eq_true rfl⟩) hP hD hS hA [0, 1] [] rfl rfl (by decide) (by decide) (fun r1 _ H locs hp hP hD hS => ?_)
  refine W.cs (cells' := 0) (slots' := 0) rfl rfl ?_
  obtain ⟨hq2, hq3⟩ : (0 ≤ r1.toInt ∧ r1.toInt ≤ 9) ∧ (((h0_hasPart.toInt = 0 ∧ r1.toInt = 0) ∨ (h0_hasPart.toInt = 1 ∧ r1.toInt = h0_told_3.toInt))) := hp
  have hP : va_P g.1 vwCl [(h0, .inr (9, [.ref h0_told, .ref h0_read, .ref h0_now, .ref h0_readNow, .ref h0_kept, .int h0_undone, .int h0_seed, .int h0_hasPart, .ref h0_tape, .int h0_taped, .ref h0_refused, .int h0_faultKind, .int h0_faultPlace, .int h0_size, .int h0_at, .int h0_from, .int h0_wrong, .int h0_wrongAt, .ref h0_ownLetters, .ref h0_flats, .int h0_isLaid, .ref h0_corner, .ref h0_wayX, .ref h0_wayY, .ref h0_normal, .ref h0_low, .ref h0_high, .ref h0_clear, .ref h0_ways, .ref h0_canBe, .ref h0_lain, .int h0_canTool, .ref h0_fewestBy, .ref h0_sortOf, .int h0_rows, .ref h0_seenFlange, .ref h0_seenLength])), (h0_told, .inl (g.2.1.1, 103, .inl f_h0_told))] H := hP
  have hD : va_D A [(h0, .inr (9, [.ref h0_told, .ref h0_read, .ref h0_now, .ref h0_readNow, .ref h0_kept, .int h0_undone, .int h0_seed, .int h0_hasPart, .ref h0_tape, .int h0_taped, .ref h0_refused, .int h0_faultKind, .int h0_faultPlace, .int h0_size, .int h0_at, .int h0_from, .int h0_wrong, .int h0_wrongAt, .ref h0_ownLetters, .ref h0_flats, .int h0_isLaid, .ref h0_corner, .ref h0_wayX, .ref h0_wayY, .ref h0_normal, .ref h0_low, .ref h0_high, .ref h0_clear, .ref h0_ways, .ref h0_canBe, .ref h0_lain, .int h0_canTool, .ref h0_fewestBy, .ref h0_sortOf, .int h0_rows, .ref h0_seenFlange, .ref h0_seenLength])), (h0_told, .inl (g.2.1.1, 103, .inl f_h0_told))] := hD
  refine lv_iconst (v := 1) hx hb dX9_isFlange_6 (by decide) ?_
  refine lv_isub hx hb dX9_isFlange_7 ?_
  refine lv_topi (fun z4 e5 => ?_)
  have f6 : z4.toInt = r1.toInt - (1 : Int) := zs e5 (rfl : r1.toInt = _) (show (1 : Int32).toInt = (1 : Int) from by decide) (om_328 hq2)
  refine zfi (wr := [(h0, .inr (9, [.ref h0_told, .ref h0_read, .ref h0_now, .ref h0_readNow, .ref h0_kept, .int h0_undone, .int h0_seed, .int h0_hasPart, .ref h0_tape, .int h0_taped, .ref h0_refused, .int h0_faultKind, .int h0_faultPlace, .int h0_size, .int h0_at, .int h0_from, .int h0_wrong, .int h0_wrongAt, .ref h0_ownLetters, .ref h0_flats, .int h0_isLaid, .ref h0_corner, .ref h0_wayX, .ref h0_wayY, .ref h0_normal, .ref h0_low, .ref h0_high, .ref h0_clear, .ref h0_ways, .ref h0_canBe, .ref h0_lain, .int h0_canTool, .ref h0_fewestBy, .ref h0_sortOf, .int h0_rows, .ref h0_seenFlange, .ref h0_seenLength])), (h0_told, .inl (g.2.1.1, 103, .inl f_h0_told))]) (va_runS (As := [.int x1, .int 0, .int z4]) (rest := []) ⟨hx, hb, hml, hown, hG⟩ (kX9_isIn l g x1 (0 : Int32) z4 _) ⟨callB_of 3 hG (zGood wc_X9_isIn) rfl rfl rfl (hG _ wini_X9) (hG _ wm_X9_163) hX9_isIn ⟨Nat.le_of_ble_eq_true rfl, Nat.le_of_ble_eq_true rfl⟩, hG _ ws_X9_isIn⟩ (zpreS hX hP hD hS hA [] rfl (by decide)) rfl rfl hl.1 rfl (lv_room (Nat.le_of_ble_eq_true rfl)) dX9_isFlange_8 ⟨Nat.le_of_ble_eq_true rfl, Nat.le_of_ble_eq_true rfl⟩) hP hD hS hA [] [0, 1] rfl rfl (by decide) (by decide) (fun r7 _ H locs hp hP hD hS => ?_)
  refine W.cs (cells' := 0) (slots' := 0) rfl rfl ?_
  obtain ⟨hq8, hq9, hq10⟩ : (0 ≤ r7.toInt ∧ r7.toInt ≤ 1) ∧ ((r7.toInt = 0 ∨ ((0 : Int) ≤ x1.toInt ∧ x1.toInt ≤ z4.toInt))) ∧ ((r7.toInt = 1 ∨ ¬ ((0 : Int) ≤ x1.toInt ∧ x1.toInt ≤ z4.toInt))) := hp
  have hP : va_P g.1 vwCl [(h0, .inr (9, [.ref h0_told, .ref h0_read, .ref h0_now, .ref h0_readNow, .ref h0_kept, .int h0_undone, .int h0_seed, .int h0_hasPart, .ref h0_tape, .int h0_taped, .ref h0_refused, .int h0_faultKind, .int h0_faultPlace, .int h0_size, .int h0_at, .int h0_from, .int h0_wrong, .int h0_wrongAt, .ref h0_ownLetters, .ref h0_flats, .int h0_isLaid, .ref h0_corner, .ref h0_wayX, .ref h0_wayY, .ref h0_normal, .ref h0_low, .ref h0_high, .ref h0_clear, .ref h0_ways, .ref h0_canBe, .ref h0_lain, .int h0_canTool, .ref h0_fewestBy, .ref h0_sortOf, .int h0_rows, .ref h0_seenFlange, .ref h0_seenLength])), (h0_told, .inl (g.2.1.1, 103, .inl f_h0_told))] H := hP
  have hD : va_D A [(h0, .inr (9, [.ref h0_told, .ref h0_read, .ref h0_now, .ref h0_readNow, .ref h0_kept, .int h0_undone, .int h0_seed, .int h0_hasPart, .ref h0_tape, .int h0_taped, .ref h0_refused, .int h0_faultKind, .int h0_faultPlace, .int h0_size, .int h0_at, .int h0_from, .int h0_wrong, .int h0_wrongAt, .ref h0_ownLetters, .ref h0_flats, .int h0_isLaid, .ref h0_corner, .ref h0_wayX, .ref h0_wayY, .ref h0_normal, .ref h0_low, .ref h0_high, .ref h0_clear, .ref h0_ways, .ref h0_canBe, .ref h0_lain, .int h0_canTool, .ref h0_fewestBy, .ref h0_sortOf, .int h0_rows, .ref h0_seenFlange, .ref h0_seenLength])), (h0_told, .inl (g.2.1.1, 103, .inl f_h0_told))] := hD
  exact hret r7 () (Nat.le_of_ble_eq_true rfl) (Nat.le_of_ble_eq_true rfl) (z01 (rfl : r7.toInt = _) (om_29 hq8)) ⟨om_29 hq8, om_337 f6 hq2 hq3 hq8 hq9 hy2⟩ hP hD hS dX9_isFlange_11
theorem dX9_isBend_0 : decode cX9_isBend 0 = .ok (.iload_n 1, 1) := by decide +kernel
theorem dX9_isBend_1 : decode cX9_isBend 1 = .ok (.iconst 1, 1) := by decide +kernel
theorem dX9_isBend_2 : decode cX9_isBend 2 = .ok (.aload_n 0, 1) := by decide +kernel
theorem dX9_isBend_3 : decode cX9_isBend 3 = .ok (.invokevirtual 216, 3) := by decide +kernel
theorem dX9_isBend_6 : decode cX9_isBend 6 = .ok (.invokestatic 163, 3) := by decide +kernel
theorem dX9_isBend_9 : decode cX9_isBend 9 = .ok (.ireturn, 1) := by decide +kernel
abbrev rm_kX9_isBend : Room := { frames := 1, cells := 0, slots := 0, locals := 22 }
set_option maxHeartbeats 4000000 in
set_option maxRecDepth 100000 in
theorem kX9_isBend (l : Launch) (g : zL) (h0 : Nat) (x1 : Int32) (h0_told : Nat) (h0_read : Nat) (h0_now : Nat) (h0_readNow : Nat) (h0_kept : Nat) (h0_undone : Int32) (h0_seed : Int32) (h0_hasPart : Int32) (h0_tape : Nat) (h0_taped : Int32) (h0_refused : Nat) (h0_faultKind : Int32) (h0_faultPlace : Int32) (h0_size : Int32) (h0_at : Int32) (h0_from : Int32) (h0_wrong : Int32) (h0_wrongAt : Int32) (h0_ownLetters : Nat) (h0_flats : Nat) (h0_isLaid : Int32) (h0_corner : Nat) (h0_wayX : Nat) (h0_wayY : Nat) (h0_normal : Nat) (h0_low : Nat) (h0_high : Nat) (h0_clear : Nat) (h0_ways : Nat) (h0_canBe : Nat) (h0_lain : Nat) (h0_canTool : Int32) (h0_fewestBy : Nat) (h0_sortOf : Nat) (h0_rows : Int32) (h0_seenFlange : Nat) (h0_seenLength : Nat) (f_h0_told : Nat → Int32) (h0_told_3 : Int32) (h0_told_4 : Int32) (hy0 : 0 ≤ h0_undone.toInt ∧ h0_undone.toInt ≤ 20) (hy1 : 0 ≤ h0_seed.toInt ∧ h0_seed.toInt ≤ 2147483647) (hy2 : 0 ≤ h0_hasPart.toInt ∧ h0_hasPart.toInt ≤ 1) (hy3 : 0 ≤ h0_taped.toInt ∧ h0_taped.toInt ≤ 1200) (hy4 : 0 ≤ h0_faultKind.toInt ∧ h0_faultKind.toInt ≤ 5) (hy5 : 0 ≤ h0_size.toInt ∧ h0_size.toInt ≤ 1200) (hy6 : 0 ≤ h0_at.toInt ∧ h0_at.toInt ≤ 1200) (hy7 : 0 ≤ h0_from.toInt ∧ h0_from.toInt ≤ 1200) (hy8 : 0 ≤ h0_wrong.toInt ∧ h0_wrong.toInt ≤ 5) (hy9 : 0 ≤ h0_isLaid.toInt ∧ h0_isLaid.toInt ≤ 1) (hy10 : 0 ≤ h0_canTool.toInt ∧ h0_canTool.toInt ≤ 255) (hy11 : 0 ≤ h0_rows.toInt ∧ h0_rows.toInt ≤ 8) (hy12 : pW mB f_h0_told) (hy13 : 0 ≤ h0_told_3.toInt ∧ h0_told_3.toInt ≤ 9) (hy14 : cEq f_h0_told 3 h0_told_3) (hy15 : 0 ≤ h0_told_4.toInt ∧ h0_told_4.toInt ≤ 8) (hy16 : cEq f_h0_told 4 h0_told_4) (hy17 : ((h0_hasPart.toInt = 0 ∧ h0_told_3.toInt = 0) ∨ (h0_hasPart.toInt = 1 ∧ 1 ≤ h0_told_3.toInt))) : zCi l g yX9_isBend cX9_isBend 2 (some .boolean) rm_kX9_isBend [.ref h0, .int x1] [(h0, .inr (9, [.ref h0_told, .ref h0_read, .ref h0_now, .ref h0_readNow, .ref h0_kept, .int h0_undone, .int h0_seed, .int h0_hasPart, .ref h0_tape, .int h0_taped, .ref h0_refused, .int h0_faultKind, .int h0_faultPlace, .int h0_size, .int h0_at, .int h0_from, .int h0_wrong, .int h0_wrongAt, .ref h0_ownLetters, .ref h0_flats, .int h0_isLaid, .ref h0_corner, .ref h0_wayX, .ref h0_wayY, .ref h0_normal, .ref h0_low, .ref h0_high, .ref h0_clear, .ref h0_ways, .ref h0_canBe, .ref h0_lain, .int h0_canTool, .ref h0_fewestBy, .ref h0_sortOf, .int h0_rows, .ref h0_seenFlange, .ref h0_seenLength])), (h0_told, .inl (g.2.1.1, 103, .inl f_h0_told))] (fun (r : Int32) (u : Unit) => (0 ≤ r.toInt ∧ r.toInt ≤ 1) ∧ ((r.toInt = 0 ∨ (1 ≤ x1.toInt ∧ x1.toInt ≤ 8 ∧ x1.toInt < h0_told_3.toInt ∧ h0_hasPart.toInt = 1 ∧ 2 ≤ h0_told_3.toInt)))) (fun (u : Unit) => [(h0, .inr (9, [.ref h0_told, .ref h0_read, .ref h0_now, .ref h0_readNow, .ref h0_kept, .int h0_undone, .int h0_seed, .int h0_hasPart, .ref h0_tape, .int h0_taped, .ref h0_refused, .int h0_faultKind, .int h0_faultPlace, .int h0_size, .int h0_at, .int h0_from, .int h0_wrong, .int h0_wrongAt, .ref h0_ownLetters, .ref h0_flats, .int h0_isLaid, .ref h0_corner, .ref h0_wayX, .ref h0_wayY, .ref h0_normal, .ref h0_low, .ref h0_high, .ref h0_clear, .ref h0_ways, .ref h0_canBe, .ref h0_lain, .int h0_canTool, .ref h0_fewestBy, .ref h0_sortOf, .int h0_rows, .ref h0_seenFlange, .ref h0_seenLength])), (h0_told, .inl (g.2.1.1, 103, .inl f_h0_told))]) := by
  refine zCi.mk2 (by decide) (Nat.le_of_ble_eq_true rfl) ?_
  intro p e s m below meth c A args Q hE hret hP hD hS ls hl
  obtain ⟨hx, hb, hr, hml, hown, hG, hlocks, hnm, hX, hA⟩ := hE
  have hown : s.vm.findClass RX9 = some m.cls := hown
  have hl : lv_has ls 2 [(0, .ref h0), (1, .int x1)] := hl
  refine lv_iload_n hx hb dX9_isBend_0 rfl (lv_at hl 1 rfl) ?_
  refine lv_iconst (v := 1) hx hb dX9_isBend_1 (by decide) ?_
  refine lv_aload_n hx hb dX9_isBend_2 rfl (lv_at hl 0 rfl) ?_
  refine zfi (wr := []) (va_runV (As := []) (rest := [.int 1, .int x1]) ⟨hx, hb, hml, hown, hG⟩ (kX9_bendMany l g h0 h0_told h0_read h0_now h0_readNow h0_kept h0_undone h0_seed h0_hasPart h0_tape h0_taped h0_refused h0_faultKind h0_faultPlace h0_size h0_at h0_from h0_wrong h0_wrongAt h0_ownLetters h0_flats h0_isLaid h0_corner h0_wayX h0_wayY h0_normal h0_low h0_high h0_clear h0_ways h0_canBe h0_lain h0_canTool h0_fewestBy h0_sortOf h0_rows h0_seenFlange h0_seenLength f_h0_told h0_told_3 h0_told_4 (om_27 hy0) (om_28 hy1) (om_29 hy2) (om_32 hy3) (om_31 hy4) (om_32 hy5) (om_32 hy6) (om_32 hy7) (om_31 hy8) (om_29 hy9) (om_13 hy10) (om_33 hy11) hy12 (om_155 hy13) hy14 (om_33 hy15) hy16 (om_331 hy13 hy17 hy2) _) ⟨callB_of 0 hG (zGood wc_X9_bendMany) rfl rfl rfl (hG _ wini_X9) (hG _ wm_X9_216) hX9_bendMany ⟨Nat.le_of_ble_eq_true rfl, Nat.le_of_ble_eq_true rfl⟩, hG _ wi_X9_bendMany, hG _ wse_X9_X9_bendMany⟩ (zpreV (va_recv hX.1 hP (ci := 9) (q0 := 0) rfl rfl) hX hP hD hS hA [0, 1] rfl (by decide)) rfl rfl hl.1 rfl (lv_room (Nat.le_of_ble_eq_true rfl)) dX9_isBend_3 ⟨Nat.le_of_ble_eq_true rfl, Nat.le_of_ble_eq_true rfl⟩) hP hD hS hA [0, 1] [] rfl rfl (by decide) (by decide) (fun r1 _ H locs hp hP hD hS => ?_)
  refine W.cs (cells' := 0) (slots' := 0) rfl rfl ?_
  obtain ⟨hq2, hq3⟩ : (0 ≤ r1.toInt ∧ r1.toInt ≤ 8) ∧ (((h0_hasPart.toInt = 0 ∧ r1.toInt = 0) ∨ (h0_hasPart.toInt = 1 ∧ r1.toInt = h0_told_3.toInt - 1))) := hp
  have hP : va_P g.1 vwCl [(h0, .inr (9, [.ref h0_told, .ref h0_read, .ref h0_now, .ref h0_readNow, .ref h0_kept, .int h0_undone, .int h0_seed, .int h0_hasPart, .ref h0_tape, .int h0_taped, .ref h0_refused, .int h0_faultKind, .int h0_faultPlace, .int h0_size, .int h0_at, .int h0_from, .int h0_wrong, .int h0_wrongAt, .ref h0_ownLetters, .ref h0_flats, .int h0_isLaid, .ref h0_corner, .ref h0_wayX, .ref h0_wayY, .ref h0_normal, .ref h0_low, .ref h0_high, .ref h0_clear, .ref h0_ways, .ref h0_canBe, .ref h0_lain, .int h0_canTool, .ref h0_fewestBy, .ref h0_sortOf, .int h0_rows, .ref h0_seenFlange, .ref h0_seenLength])), (h0_told, .inl (g.2.1.1, 103, .inl f_h0_told))] H := hP
  have hD : va_D A [(h0, .inr (9, [.ref h0_told, .ref h0_read, .ref h0_now, .ref h0_readNow, .ref h0_kept, .int h0_undone, .int h0_seed, .int h0_hasPart, .ref h0_tape, .int h0_taped, .ref h0_refused, .int h0_faultKind, .int h0_faultPlace, .int h0_size, .int h0_at, .int h0_from, .int h0_wrong, .int h0_wrongAt, .ref h0_ownLetters, .ref h0_flats, .int h0_isLaid, .ref h0_corner, .ref h0_wayX, .ref h0_wayY, .ref h0_normal, .ref h0_low, .ref h0_high, .ref h0_clear, .ref h0_ways, .ref h0_canBe, .ref h0_lain, .int h0_canTool, .ref h0_fewestBy, .ref h0_sortOf, .int h0_rows, .ref h0_seenFlange, .ref h0_seenLength])), (h0_told, .inl (g.2.1.1, 103, .inl f_h0_told))] := hD
  refine zfi (wr := [(h0, .inr (9, [.ref h0_told, .ref h0_read, .ref h0_now, .ref h0_readNow, .ref h0_kept, .int h0_undone, .int h0_seed, .int h0_hasPart, .ref h0_tape, .int h0_taped, .ref h0_refused, .int h0_faultKind, .int h0_faultPlace, .int h0_size, .int h0_at, .int h0_from, .int h0_wrong, .int h0_wrongAt, .ref h0_ownLetters, .ref h0_flats, .int h0_isLaid, .ref h0_corner, .ref h0_wayX, .ref h0_wayY, .ref h0_normal, .ref h0_low, .ref h0_high, .ref h0_clear, .ref h0_ways, .ref h0_canBe, .ref h0_lain, .int h0_canTool, .ref h0_fewestBy, .ref h0_sortOf, .int h0_rows, .ref h0_seenFlange, .ref h0_seenLength])), (h0_told, .inl (g.2.1.1, 103, .inl f_h0_told))]) (va_runS (As := [.int x1, .int 1, .int r1]) (rest := []) ⟨hx, hb, hml, hown, hG⟩ (kX9_isIn l g x1 (1 : Int32) r1 _) ⟨callB_of 3 hG (zGood wc_X9_isIn) rfl rfl rfl (hG _ wini_X9) (hG _ wm_X9_163) hX9_isIn ⟨Nat.le_of_ble_eq_true rfl, Nat.le_of_ble_eq_true rfl⟩, hG _ ws_X9_isIn⟩ (zpreS hX hP hD hS hA [] rfl (by decide)) rfl rfl hl.1 rfl (lv_room (Nat.le_of_ble_eq_true rfl)) dX9_isBend_6 ⟨Nat.le_of_ble_eq_true rfl, Nat.le_of_ble_eq_true rfl⟩) hP hD hS hA [] [0, 1] rfl rfl (by decide) (by decide) (fun r4 _ H locs hp hP hD hS => ?_)
  refine W.cs (cells' := 0) (slots' := 0) rfl rfl ?_
  obtain ⟨hq5, hq6, hq7⟩ : (0 ≤ r4.toInt ∧ r4.toInt ≤ 1) ∧ ((r4.toInt = 0 ∨ ((1 : Int) ≤ x1.toInt ∧ x1.toInt ≤ r1.toInt))) ∧ ((r4.toInt = 1 ∨ ¬ ((1 : Int) ≤ x1.toInt ∧ x1.toInt ≤ r1.toInt))) := hp
  have hP : va_P g.1 vwCl [(h0, .inr (9, [.ref h0_told, .ref h0_read, .ref h0_now, .ref h0_readNow, .ref h0_kept, .int h0_undone, .int h0_seed, .int h0_hasPart, .ref h0_tape, .int h0_taped, .ref h0_refused, .int h0_faultKind, .int h0_faultPlace, .int h0_size, .int h0_at, .int h0_from, .int h0_wrong, .int h0_wrongAt, .ref h0_ownLetters, .ref h0_flats, .int h0_isLaid, .ref h0_corner, .ref h0_wayX, .ref h0_wayY, .ref h0_normal, .ref h0_low, .ref h0_high, .ref h0_clear, .ref h0_ways, .ref h0_canBe, .ref h0_lain, .int h0_canTool, .ref h0_fewestBy, .ref h0_sortOf, .int h0_rows, .ref h0_seenFlange, .ref h0_seenLength])), (h0_told, .inl (g.2.1.1, 103, .inl f_h0_told))] H := hP
  have hD : va_D A [(h0, .inr (9, [.ref h0_told, .ref h0_read, .ref h0_now, .ref h0_readNow, .ref h0_kept, .int h0_undone, .int h0_seed, .int h0_hasPart, .ref h0_tape, .int h0_taped, .ref h0_refused, .int h0_faultKind, .int h0_faultPlace, .int h0_size, .int h0_at, .int h0_from, .int h0_wrong, .int h0_wrongAt, .ref h0_ownLetters, .ref h0_flats, .int h0_isLaid, .ref h0_corner, .ref h0_wayX, .ref h0_wayY, .ref h0_normal, .ref h0_low, .ref h0_high, .ref h0_clear, .ref h0_ways, .ref h0_canBe, .ref h0_lain, .int h0_canTool, .ref h0_fewestBy, .ref h0_sortOf, .int h0_rows, .ref h0_seenFlange, .ref h0_seenLength])), (h0_told, .inl (g.2.1.1, 103, .inl f_h0_told))] := hD
  exact hret r4 () (Nat.le_of_ble_eq_true rfl) (Nat.le_of_ble_eq_true rfl) (z01 (rfl : r4.toInt = _) (om_29 hq5)) ⟨om_29 hq5, om_338 hq2 hq3 hq5 hq6 hy2⟩ hP hD hS dX9_isBend_9
theorem dX9_isState_0 : decode cX9_isState 0 = .ok (.aload_n 0, 1) := by decide +kernel
theorem dX9_isState_1 : decode cX9_isState 1 = .ok (.getfield 32, 3) := by decide +kernel
theorem dX9_isState_4 : decode cX9_isState 4 = .ok (.ifCond .eq 19, 3) := by decide +kernel
theorem dX9_isState_23 : decode cX9_isState 23 = .ok (.iconst 0, 1) := by decide +kernel
theorem dX9_isState_24 : decode cX9_isState 24 = .ok (.ireturn, 1) := by decide +kernel
theorem dX9_isState_7 : decode cX9_isState 7 = .ok (.iload_n 1, 1) := by decide +kernel
theorem dX9_isState_8 : decode cX9_isState 8 = .ok (.iconst 0, 1) := by decide +kernel
theorem dX9_isState_9 : decode cX9_isState 9 = .ok (.aload_n 0, 1) := by decide +kernel
theorem dX9_isState_10 : decode cX9_isState 10 = .ok (.invokevirtual 222, 3) := by decide +kernel
theorem dX9_isState_13 : decode cX9_isState 13 = .ok (.invokestatic 163, 3) := by decide +kernel
theorem dX9_isState_16 : decode cX9_isState 16 = .ok (.ifCond .eq 7, 3) := by decide +kernel
theorem dX9_isState_19 : decode cX9_isState 19 = .ok (.iconst 1, 1) := by decide +kernel
theorem dX9_isState_20 : decode cX9_isState 20 = .ok (.goto 4, 3) := by decide +kernel
abbrev rm_kX9_isState : Room := { frames := 2, cells := 0, slots := 0, locals := 40 }
set_option maxHeartbeats 4000000 in
set_option maxRecDepth 100000 in
theorem kX9_isState (l : Launch) (g : zL) (h0 : Nat) (x1 : Int32) (h0_told : Nat) (h0_read : Nat) (h0_now : Nat) (h0_readNow : Nat) (h0_kept : Nat) (h0_undone : Int32) (h0_seed : Int32) (h0_hasPart : Int32) (h0_tape : Nat) (h0_taped : Int32) (h0_refused : Nat) (h0_faultKind : Int32) (h0_faultPlace : Int32) (h0_size : Int32) (h0_at : Int32) (h0_from : Int32) (h0_wrong : Int32) (h0_wrongAt : Int32) (h0_ownLetters : Nat) (h0_flats : Nat) (h0_isLaid : Int32) (h0_corner : Nat) (h0_wayX : Nat) (h0_wayY : Nat) (h0_normal : Nat) (h0_low : Nat) (h0_high : Nat) (h0_clear : Nat) (h0_ways : Nat) (h0_canBe : Nat) (h0_lain : Nat) (h0_canTool : Int32) (h0_fewestBy : Nat) (h0_sortOf : Nat) (h0_rows : Int32) (h0_seenFlange : Nat) (h0_seenLength : Nat) (f_h0_told : Nat → Int32) (h0_told_3 : Int32) (h0_told_4 : Int32) (hy0 : 0 ≤ h0_undone.toInt ∧ h0_undone.toInt ≤ 20) (hy1 : 0 ≤ h0_seed.toInt ∧ h0_seed.toInt ≤ 2147483647) (hy2 : 0 ≤ h0_hasPart.toInt ∧ h0_hasPart.toInt ≤ 1) (hy3 : 0 ≤ h0_taped.toInt ∧ h0_taped.toInt ≤ 1200) (hy4 : 0 ≤ h0_faultKind.toInt ∧ h0_faultKind.toInt ≤ 5) (hy5 : 0 ≤ h0_size.toInt ∧ h0_size.toInt ≤ 1200) (hy6 : 0 ≤ h0_at.toInt ∧ h0_at.toInt ≤ 1200) (hy7 : 0 ≤ h0_from.toInt ∧ h0_from.toInt ≤ 1200) (hy8 : 0 ≤ h0_wrong.toInt ∧ h0_wrong.toInt ≤ 5) (hy9 : 0 ≤ h0_isLaid.toInt ∧ h0_isLaid.toInt ≤ 1) (hy10 : 0 ≤ h0_canTool.toInt ∧ h0_canTool.toInt ≤ 255) (hy11 : 0 ≤ h0_rows.toInt ∧ h0_rows.toInt ≤ 8) (hy12 : pW mB f_h0_told) (hy13 : 0 ≤ h0_told_3.toInt ∧ h0_told_3.toInt ≤ 9) (hy14 : cEq f_h0_told 3 h0_told_3) (hy15 : 0 ≤ h0_told_4.toInt ∧ h0_told_4.toInt ≤ 8) (hy16 : cEq f_h0_told 4 h0_told_4) (hy17 : ((h0_hasPart.toInt = 0 ∧ h0_told_3.toInt = 0) ∨ (h0_hasPart.toInt = 1 ∧ 1 ≤ h0_told_3.toInt))) : zCi l g yX9_isState cX9_isState 2 (some .boolean) rm_kX9_isState [.ref h0, .int x1] [(h0, .inr (9, [.ref h0_told, .ref h0_read, .ref h0_now, .ref h0_readNow, .ref h0_kept, .int h0_undone, .int h0_seed, .int h0_hasPart, .ref h0_tape, .int h0_taped, .ref h0_refused, .int h0_faultKind, .int h0_faultPlace, .int h0_size, .int h0_at, .int h0_from, .int h0_wrong, .int h0_wrongAt, .ref h0_ownLetters, .ref h0_flats, .int h0_isLaid, .ref h0_corner, .ref h0_wayX, .ref h0_wayY, .ref h0_normal, .ref h0_low, .ref h0_high, .ref h0_clear, .ref h0_ways, .ref h0_canBe, .ref h0_lain, .int h0_canTool, .ref h0_fewestBy, .ref h0_sortOf, .int h0_rows, .ref h0_seenFlange, .ref h0_seenLength])), (h0_told, .inl (g.2.1.1, 103, .inl f_h0_told))] (fun (r : Int32) (u : Unit) => (0 ≤ r.toInt ∧ r.toInt ≤ 1) ∧ ((r.toInt = 0 ∨ (0 ≤ x1.toInt ∧ x1.toInt ≤ 255 ∧ h0_hasPart.toInt = 1 ∧ 1 ≤ h0_told_3.toInt))) ∧ (pAc r x1 h0_told_3)) (fun (u : Unit) => [(h0, .inr (9, [.ref h0_told, .ref h0_read, .ref h0_now, .ref h0_readNow, .ref h0_kept, .int h0_undone, .int h0_seed, .int h0_hasPart, .ref h0_tape, .int h0_taped, .ref h0_refused, .int h0_faultKind, .int h0_faultPlace, .int h0_size, .int h0_at, .int h0_from, .int h0_wrong, .int h0_wrongAt, .ref h0_ownLetters, .ref h0_flats, .int h0_isLaid, .ref h0_corner, .ref h0_wayX, .ref h0_wayY, .ref h0_normal, .ref h0_low, .ref h0_high, .ref h0_clear, .ref h0_ways, .ref h0_canBe, .ref h0_lain, .int h0_canTool, .ref h0_fewestBy, .ref h0_sortOf, .int h0_rows, .ref h0_seenFlange, .ref h0_seenLength])), (h0_told, .inl (g.2.1.1, 103, .inl f_h0_told))]) := by
  refine zCi.mk2 (by decide) (Nat.le_of_ble_eq_true rfl) ?_
  intro p e s m below meth c A args Q hE hret hP hD hS ls hl
  obtain ⟨hx, hb, hr, hml, hown, hG, hlocks, hnm, hX, hA⟩ := hE
  have hown : s.vm.findClass RX9 = some m.cls := hown
  have hl : lv_has ls 2 [(0, .ref h0), (1, .int x1)] := hl
  refine lv_aload_n hx hb dX9_isState_0 rfl (lv_at hl 0 rfl) ?_
  refine va_get (D := g.1) (ci := 9) (v := .int h0_hasPart) (C := RX9) (T := TX9) (N := 37) hx hb hG iX9 hown hX.1 hP 0 rfl rfl 7 (by decide) (hG _ wf_X9_32) (fun _ h9 => h9) rfl dX9_isState_1 ?_
  refine lv_if_eq (tgt := 23) hx hb dX9_isState_4 (by decide) (fun c1 => ?_) (fun c1 => ?_)
  · skip
    have c1i : h0_hasPart.toInt = (0 : Int) := (zc_eq (rfl : h0_hasPart.toInt = _) (show (0 : Int32).toInt = (0 : Int) from by decide)).mp c1
    refine lv_iconst (v := 0) hx hb dX9_isState_23 (by decide) ?_
    exact hret (0 : Int32) () (Nat.le_of_ble_eq_true rfl) (Nat.le_of_ble_eq_true rfl) rfl ⟨(show 0 ≤ (0 : Int) ∧ (0 : Int) ≤ 1 from by decide), om_339, (pAc.no (by decide))⟩ hP hD hS dX9_isState_24
  · skip
    have c1i : ¬ (h0_hasPart.toInt = (0 : Int)) := fun q => c1 ((zc_eq (rfl : h0_hasPart.toInt = _) (show (0 : Int32).toInt = (0 : Int) from by decide)).mpr q)
    refine lv_iload_n hx hb dX9_isState_7 rfl (lv_at hl 1 rfl) ?_
    refine lv_iconst (v := 0) hx hb dX9_isState_8 (by decide) ?_
    refine lv_aload_n hx hb dX9_isState_9 rfl (lv_at hl 0 rfl) ?_
    refine zfi (wr := []) (va_runV (As := []) (rest := [.int 0, .int x1]) ⟨hx, hb, hml, hown, hG⟩ (kX9_allBends l g h0 h0_told h0_read h0_now h0_readNow h0_kept h0_undone h0_seed h0_hasPart h0_tape h0_taped h0_refused h0_faultKind h0_faultPlace h0_size h0_at h0_from h0_wrong h0_wrongAt h0_ownLetters h0_flats h0_isLaid h0_corner h0_wayX h0_wayY h0_normal h0_low h0_high h0_clear h0_ways h0_canBe h0_lain h0_canTool h0_fewestBy h0_sortOf h0_rows h0_seenFlange h0_seenLength f_h0_told h0_told_3 h0_told_4 (om_27 hy0) (om_28 hy1) (om_29 hy2) (om_32 hy3) (om_31 hy4) (om_32 hy5) (om_32 hy6) (om_32 hy7) (om_31 hy8) (om_29 hy9) (om_13 hy10) (om_33 hy11) hy12 (om_155 hy13) hy14 (om_33 hy15) hy16 (om_340 c1i hy17 hy2) _) ⟨callB_of 0 hG (zGood wc_X9_allBends) rfl rfl rfl (hG _ wini_X9) (hG _ wm_X9_222) hX9_allBends ⟨Nat.le_of_ble_eq_true rfl, Nat.le_of_ble_eq_true rfl⟩, hG _ wi_X9_allBends, hG _ wse_X9_X9_allBends⟩ (zpreV (va_recv hX.1 hP (ci := 9) (q0 := 0) rfl rfl) hX hP hD hS hA [0, 1] rfl (by decide)) rfl rfl hl.1 rfl (lv_room (Nat.le_of_ble_eq_true rfl)) dX9_isState_10 ⟨Nat.le_of_ble_eq_true rfl, Nat.le_of_ble_eq_true rfl⟩) hP hD hS hA [0, 1] [] rfl rfl (by decide) (by decide) (fun r2 _ H locs hp hP hD hS => ?_)
    refine W.cs (cells' := 0) (slots' := 0) rfl rfl ?_
    obtain ⟨hq3, hq4⟩ : (0 ≤ r2.toInt ∧ r2.toInt ≤ 255) ∧ (pE r2 h0_told_3) := hp
    have hP : va_P g.1 vwCl [(h0, .inr (9, [.ref h0_told, .ref h0_read, .ref h0_now, .ref h0_readNow, .ref h0_kept, .int h0_undone, .int h0_seed, .int h0_hasPart, .ref h0_tape, .int h0_taped, .ref h0_refused, .int h0_faultKind, .int h0_faultPlace, .int h0_size, .int h0_at, .int h0_from, .int h0_wrong, .int h0_wrongAt, .ref h0_ownLetters, .ref h0_flats, .int h0_isLaid, .ref h0_corner, .ref h0_wayX, .ref h0_wayY, .ref h0_normal, .ref h0_low, .ref h0_high, .ref h0_clear, .ref h0_ways, .ref h0_canBe, .ref h0_lain, .int h0_canTool, .ref h0_fewestBy, .ref h0_sortOf, .int h0_rows, .ref h0_seenFlange, .ref h0_seenLength])), (h0_told, .inl (g.2.1.1, 103, .inl f_h0_told))] H := hP
    have hD : va_D A [(h0, .inr (9, [.ref h0_told, .ref h0_read, .ref h0_now, .ref h0_readNow, .ref h0_kept, .int h0_undone, .int h0_seed, .int h0_hasPart, .ref h0_tape, .int h0_taped, .ref h0_refused, .int h0_faultKind, .int h0_faultPlace, .int h0_size, .int h0_at, .int h0_from, .int h0_wrong, .int h0_wrongAt, .ref h0_ownLetters, .ref h0_flats, .int h0_isLaid, .ref h0_corner, .ref h0_wayX, .ref h0_wayY, .ref h0_normal, .ref h0_low, .ref h0_high, .ref h0_clear, .ref h0_ways, .ref h0_canBe, .ref h0_lain, .int h0_canTool, .ref h0_fewestBy, .ref h0_sortOf, .int h0_rows, .ref h0_seenFlange, .ref h0_seenLength])), (h0_told, .inl (g.2.1.1, 103, .inl f_h0_told))] := hD
    refine zfi (wr := [(h0, .inr (9, [.ref h0_told, .ref h0_read, .ref h0_now, .ref h0_readNow, .ref h0_kept, .int h0_undone, .int h0_seed, .int h0_hasPart, .ref h0_tape, .int h0_taped, .ref h0_refused, .int h0_faultKind, .int h0_faultPlace, .int h0_size, .int h0_at, .int h0_from, .int h0_wrong, .int h0_wrongAt, .ref h0_ownLetters, .ref h0_flats, .int h0_isLaid, .ref h0_corner, .ref h0_wayX, .ref h0_wayY, .ref h0_normal, .ref h0_low, .ref h0_high, .ref h0_clear, .ref h0_ways, .ref h0_canBe, .ref h0_lain, .int h0_canTool, .ref h0_fewestBy, .ref h0_sortOf, .int h0_rows, .ref h0_seenFlange, .ref h0_seenLength])), (h0_told, .inl (g.2.1.1, 103, .inl f_h0_told))]) (va_runS (As := [.int x1, .int 0, .int r2]) (rest := []) ⟨hx, hb, hml, hown, hG⟩ (kX9_isIn l g x1 (0 : Int32) r2 _) ⟨callB_of 3 hG (zGood wc_X9_isIn) rfl rfl rfl (hG _ wini_X9) (hG _ wm_X9_163) hX9_isIn ⟨Nat.le_of_ble_eq_true rfl, Nat.le_of_ble_eq_true rfl⟩, hG _ ws_X9_isIn⟩ (zpreS hX hP hD hS hA [] rfl (by decide)) rfl rfl hl.1 rfl (lv_room (Nat.le_of_ble_eq_true rfl)) dX9_isState_13 ⟨Nat.le_of_ble_eq_true rfl, Nat.le_of_ble_eq_true rfl⟩) hP hD hS hA [] [0, 1] rfl rfl (by decide) (by decide) (fun r5 _ H locs hp hP hD hS => ?_)
    refine W.cs (cells' := 0) (slots' := 0) rfl rfl ?_
    obtain ⟨hq6, hq7, hq8⟩ : (0 ≤ r5.toInt ∧ r5.toInt ≤ 1) ∧ ((r5.toInt = 0 ∨ ((0 : Int) ≤ x1.toInt ∧ x1.toInt ≤ r2.toInt))) ∧ ((r5.toInt = 1 ∨ ¬ ((0 : Int) ≤ x1.toInt ∧ x1.toInt ≤ r2.toInt))) := hp
    have hP : va_P g.1 vwCl [(h0, .inr (9, [.ref h0_told, .ref h0_read, .ref h0_now, .ref h0_readNow, .ref h0_kept, .int h0_undone, .int h0_seed, .int h0_hasPart, .ref h0_tape, .int h0_taped, .ref h0_refused, .int h0_faultKind, .int h0_faultPlace, .int h0_size, .int h0_at, .int h0_from, .int h0_wrong, .int h0_wrongAt, .ref h0_ownLetters, .ref h0_flats, .int h0_isLaid, .ref h0_corner, .ref h0_wayX, .ref h0_wayY, .ref h0_normal, .ref h0_low, .ref h0_high, .ref h0_clear, .ref h0_ways, .ref h0_canBe, .ref h0_lain, .int h0_canTool, .ref h0_fewestBy, .ref h0_sortOf, .int h0_rows, .ref h0_seenFlange, .ref h0_seenLength])), (h0_told, .inl (g.2.1.1, 103, .inl f_h0_told))] H := hP
    have hD : va_D A [(h0, .inr (9, [.ref h0_told, .ref h0_read, .ref h0_now, .ref h0_readNow, .ref h0_kept, .int h0_undone, .int h0_seed, .int h0_hasPart, .ref h0_tape, .int h0_taped, .ref h0_refused, .int h0_faultKind, .int h0_faultPlace, .int h0_size, .int h0_at, .int h0_from, .int h0_wrong, .int h0_wrongAt, .ref h0_ownLetters, .ref h0_flats, .int h0_isLaid, .ref h0_corner, .ref h0_wayX, .ref h0_wayY, .ref h0_normal, .ref h0_low, .ref h0_high, .ref h0_clear, .ref h0_ways, .ref h0_canBe, .ref h0_lain, .int h0_canTool, .ref h0_fewestBy, .ref h0_sortOf, .int h0_rows, .ref h0_seenFlange, .ref h0_seenLength])), (h0_told, .inl (g.2.1.1, 103, .inl f_h0_told))] := hD
    refine lv_if_eq (tgt := 23) hx hb dX9_isState_16 (by decide) (fun c9 => ?_) (fun c9 => ?_)
    · skip
      have c9i : r5.toInt = (0 : Int) := (zc_eq (rfl : r5.toInt = _) (show (0 : Int32).toInt = (0 : Int) from by decide)).mp c9
      refine lv_iconst (v := 0) hx hb dX9_isState_23 (by decide) ?_
      exact hret (0 : Int32) () (Nat.le_of_ble_eq_true rfl) (Nat.le_of_ble_eq_true rfl) rfl ⟨(show 0 ≤ (0 : Int) ∧ (0 : Int) ≤ 1 from by decide), om_339, (pAc.no (by decide))⟩ hP hD hS dX9_isState_24
    · skip
      have c9i : ¬ (r5.toInt = (0 : Int)) := fun q => c9 ((zc_eq (rfl : r5.toInt = _) (show (0 : Int32).toInt = (0 : Int) from by decide)).mpr q)
      refine lv_iconst (v := 1) hx hb dX9_isState_19 (by decide) ?_
      refine lv_goto (tgt := 24) hx hb dX9_isState_20 (by decide) ?_
      exact hret (1 : Int32) () (Nat.le_of_ble_eq_true rfl) (Nat.le_of_ble_eq_true rfl) rfl ⟨(show 0 ≤ (1 : Int) ∧ (1 : Int) ≤ 1 from by decide), om_341 c1i c9i hq3 hq6 hq7 hy17 hy2, (pAc.mk hq4 (rfl : x1.toInt = _) (rfl : r2.toInt = _) (om_342 c9i hq6 hq7))⟩ hP hD hS dX9_isState_24
theorem dX9_isMade_0 : decode cX9_isMade 0 = .ok (.aload_n 0, 1) := by decide +kernel
theorem dX9_isMade_1 : decode cX9_isMade 1 = .ok (.getfield 16, 3) := by decide +kernel
theorem dX9_isMade_4 : decode cX9_isMade 4 = .ok (.iconst 0, 1) := by decide +kernel
theorem dX9_isMade_5 : decode cX9_isMade 5 = .ok (.iaload, 1) := by decide +kernel
theorem dX9_isMade_6 : decode cX9_isMade 6 = .ok (.iload_n 1, 1) := by decide +kernel
theorem dX9_isMade_7 : decode cX9_isMade 7 = .ok (.iconst 1, 1) := by decide +kernel
theorem dX9_isMade_8 : decode cX9_isMade 8 = .ok (.isub, 1) := by decide +kernel
theorem dX9_isMade_9 : decode cX9_isMade 9 = .ok (.invokestatic 225, 3) := by decide +kernel
theorem dX9_isMade_12 : decode cX9_isMade 12 = .ok (.ireturn, 1) := by decide +kernel
abbrev rm_kX9_isMade : Room := { frames := 1, cells := 0, slots := 0, locals := 21 }
set_option maxHeartbeats 4000000 in
set_option maxRecDepth 100000 in
theorem kX9_isMade (l : Launch) (g : zL) (h0 : Nat) (x1 : Int32) (h0_told : Nat) (h0_read : Nat) (h0_now : Nat) (h0_readNow : Nat) (h0_kept : Nat) (h0_undone : Int32) (h0_seed : Int32) (h0_hasPart : Int32) (h0_tape : Nat) (h0_taped : Int32) (h0_refused : Nat) (h0_faultKind : Int32) (h0_faultPlace : Int32) (h0_size : Int32) (h0_at : Int32) (h0_from : Int32) (h0_wrong : Int32) (h0_wrongAt : Int32) (h0_ownLetters : Nat) (h0_flats : Nat) (h0_isLaid : Int32) (h0_corner : Nat) (h0_wayX : Nat) (h0_wayY : Nat) (h0_normal : Nat) (h0_low : Nat) (h0_high : Nat) (h0_clear : Nat) (h0_ways : Nat) (h0_canBe : Nat) (h0_lain : Nat) (h0_canTool : Int32) (h0_fewestBy : Nat) (h0_sortOf : Nat) (h0_rows : Int32) (h0_seenFlange : Nat) (h0_seenLength : Nat) (f_h0_now : Nat → Int32) (h0_now_0 : Int32) (hy0 : 0 ≤ h0_undone.toInt ∧ h0_undone.toInt ≤ 20) (hy1 : 0 ≤ h0_seed.toInt ∧ h0_seed.toInt ≤ 2147483647) (hy2 : 0 ≤ h0_hasPart.toInt ∧ h0_hasPart.toInt ≤ 1) (hy3 : 0 ≤ h0_taped.toInt ∧ h0_taped.toInt ≤ 1200) (hy4 : 0 ≤ h0_faultKind.toInt ∧ h0_faultKind.toInt ≤ 5) (hy5 : 0 ≤ h0_size.toInt ∧ h0_size.toInt ≤ 1200) (hy6 : 0 ≤ h0_at.toInt ∧ h0_at.toInt ≤ 1200) (hy7 : 0 ≤ h0_from.toInt ∧ h0_from.toInt ≤ 1200) (hy8 : 0 ≤ h0_wrong.toInt ∧ h0_wrong.toInt ≤ 5) (hy9 : 0 ≤ h0_isLaid.toInt ∧ h0_isLaid.toInt ≤ 1) (hy10 : 0 ≤ h0_canTool.toInt ∧ h0_canTool.toInt ≤ 255) (hy11 : 0 ≤ h0_rows.toInt ∧ h0_rows.toInt ≤ 8) (hy12 : pW nB f_h0_now) (hy13 : 0 ≤ h0_now_0.toInt ∧ h0_now_0.toInt ≤ 255) (hy14 : cEq f_h0_now 0 h0_now_0) : zCi l g yX9_isMade cX9_isMade 2 (some .boolean) rm_kX9_isMade [.ref h0, .int x1] [(h0, .inr (9, [.ref h0_told, .ref h0_read, .ref h0_now, .ref h0_readNow, .ref h0_kept, .int h0_undone, .int h0_seed, .int h0_hasPart, .ref h0_tape, .int h0_taped, .ref h0_refused, .int h0_faultKind, .int h0_faultPlace, .int h0_size, .int h0_at, .int h0_from, .int h0_wrong, .int h0_wrongAt, .ref h0_ownLetters, .ref h0_flats, .int h0_isLaid, .ref h0_corner, .ref h0_wayX, .ref h0_wayY, .ref h0_normal, .ref h0_low, .ref h0_high, .ref h0_clear, .ref h0_ways, .ref h0_canBe, .ref h0_lain, .int h0_canTool, .ref h0_fewestBy, .ref h0_sortOf, .int h0_rows, .ref h0_seenFlange, .ref h0_seenLength])), (h0_now, .inl (g.2.1.1, 21, .inl f_h0_now))] (fun (r : Int32) (u : Unit) => (0 ≤ r.toInt ∧ r.toInt ≤ 1)) (fun (u : Unit) => [(h0, .inr (9, [.ref h0_told, .ref h0_read, .ref h0_now, .ref h0_readNow, .ref h0_kept, .int h0_undone, .int h0_seed, .int h0_hasPart, .ref h0_tape, .int h0_taped, .ref h0_refused, .int h0_faultKind, .int h0_faultPlace, .int h0_size, .int h0_at, .int h0_from, .int h0_wrong, .int h0_wrongAt, .ref h0_ownLetters, .ref h0_flats, .int h0_isLaid, .ref h0_corner, .ref h0_wayX, .ref h0_wayY, .ref h0_normal, .ref h0_low, .ref h0_high, .ref h0_clear, .ref h0_ways, .ref h0_canBe, .ref h0_lain, .int h0_canTool, .ref h0_fewestBy, .ref h0_sortOf, .int h0_rows, .ref h0_seenFlange, .ref h0_seenLength])), (h0_now, .inl (g.2.1.1, 21, .inl f_h0_now))]) := by
  refine zCi.mk2 (by decide) (Nat.le_of_ble_eq_true rfl) ?_
  intro p e s m below meth c A args Q hE hret hP hD hS ls hl
  obtain ⟨hx, hb, hr, hml, hown, hG, hlocks, hnm, hX, hA⟩ := hE
  have hown : s.vm.findClass RX9 = some m.cls := hown
  have hl : lv_has ls 2 [(0, .ref h0), (1, .int x1)] := hl
  refine lv_aload_n hx hb dX9_isMade_0 rfl (lv_at hl 0 rfl) ?_
  refine va_get (D := g.1) (ci := 9) (v := .ref h0_now) (C := RX9) (T := TX9) (N := 37) hx hb hG iX9 hown hX.1 hP 0 rfl rfl 2 (by decide) (hG _ wf_X9_16) (fun _ h9 => h9) rfl dX9_isMade_1 ?_
  refine lv_iconst (v := 0) hx hb dX9_isMade_4 (by decide) ?_
  refine va_iald hx hb hX.1 hP 1 0 rfl rfl (zin (show (0 : Int32).toInt = (0 : Int) from by decide) ((show 0 ≤ (0 : Int) ∧ (0 : Int) < 21 from by decide))) dX9_isMade_5 ?_
  refine zt (z := h0_now_0) (cEq.at hy14 (by decide)) ?_
  refine lv_iload_n hx hb dX9_isMade_6 rfl (lv_at hl 1 rfl) ?_
  refine lv_iconst (v := 1) hx hb dX9_isMade_7 (by decide) ?_
  refine lv_isub hx hb dX9_isMade_8 ?_
  refine lv_topi (fun z1 e2 => ?_)
  have f3 : (z1.toInt = x1.toInt - (1 : Int) ∨ z1.toInt = x1.toInt - (1 : Int) + 4294967296) := zs_w e2 (rfl : x1.toInt = _) (show (1 : Int32).toInt = (1 : Int) from by decide) (by decide)
  refine zfi (wr := [(h0, .inr (9, [.ref h0_told, .ref h0_read, .ref h0_now, .ref h0_readNow, .ref h0_kept, .int h0_undone, .int h0_seed, .int h0_hasPart, .ref h0_tape, .int h0_taped, .ref h0_refused, .int h0_faultKind, .int h0_faultPlace, .int h0_size, .int h0_at, .int h0_from, .int h0_wrong, .int h0_wrongAt, .ref h0_ownLetters, .ref h0_flats, .int h0_isLaid, .ref h0_corner, .ref h0_wayX, .ref h0_wayY, .ref h0_normal, .ref h0_low, .ref h0_high, .ref h0_clear, .ref h0_ways, .ref h0_canBe, .ref h0_lain, .int h0_canTool, .ref h0_fewestBy, .ref h0_sortOf, .int h0_rows, .ref h0_seenFlange, .ref h0_seenLength])), (h0_now, .inl (g.2.1.1, 21, .inl f_h0_now))]) (va_runS (As := [.int h0_now_0, .int z1]) (rest := []) ⟨hx, hb, hml, hown, hG⟩ (kX9_isOf l g h0_now_0 z1 _) ⟨callB_of 2 hG (zGood wc_X9_isOf) rfl rfl rfl (hG _ wini_X9) (hG _ wm_X9_225) hX9_isOf ⟨Nat.le_of_ble_eq_true rfl, Nat.le_of_ble_eq_true rfl⟩, hG _ ws_X9_isOf⟩ (zpreS hX hP hD hS hA [] rfl (by decide)) rfl rfl hl.1 rfl (lv_room (Nat.le_of_ble_eq_true rfl)) dX9_isMade_9 ⟨Nat.le_of_ble_eq_true rfl, Nat.le_of_ble_eq_true rfl⟩) hP hD hS hA [] [0, 1] rfl rfl (by decide) (by decide) (fun r4 _ H locs hp hP hD hS => ?_)
  refine W.cs (cells' := 0) (slots' := 0) rfl rfl ?_
  have hq5 : 0 ≤ r4.toInt ∧ r4.toInt ≤ 1 := hp
  have hP : va_P g.1 vwCl [(h0, .inr (9, [.ref h0_told, .ref h0_read, .ref h0_now, .ref h0_readNow, .ref h0_kept, .int h0_undone, .int h0_seed, .int h0_hasPart, .ref h0_tape, .int h0_taped, .ref h0_refused, .int h0_faultKind, .int h0_faultPlace, .int h0_size, .int h0_at, .int h0_from, .int h0_wrong, .int h0_wrongAt, .ref h0_ownLetters, .ref h0_flats, .int h0_isLaid, .ref h0_corner, .ref h0_wayX, .ref h0_wayY, .ref h0_normal, .ref h0_low, .ref h0_high, .ref h0_clear, .ref h0_ways, .ref h0_canBe, .ref h0_lain, .int h0_canTool, .ref h0_fewestBy, .ref h0_sortOf, .int h0_rows, .ref h0_seenFlange, .ref h0_seenLength])), (h0_now, .inl (g.2.1.1, 21, .inl f_h0_now))] H := hP
  have hD : va_D A [(h0, .inr (9, [.ref h0_told, .ref h0_read, .ref h0_now, .ref h0_readNow, .ref h0_kept, .int h0_undone, .int h0_seed, .int h0_hasPart, .ref h0_tape, .int h0_taped, .ref h0_refused, .int h0_faultKind, .int h0_faultPlace, .int h0_size, .int h0_at, .int h0_from, .int h0_wrong, .int h0_wrongAt, .ref h0_ownLetters, .ref h0_flats, .int h0_isLaid, .ref h0_corner, .ref h0_wayX, .ref h0_wayY, .ref h0_normal, .ref h0_low, .ref h0_high, .ref h0_clear, .ref h0_ways, .ref h0_canBe, .ref h0_lain, .int h0_canTool, .ref h0_fewestBy, .ref h0_sortOf, .int h0_rows, .ref h0_seenFlange, .ref h0_seenLength])), (h0_now, .inl (g.2.1.1, 21, .inl f_h0_now))] := hD
  exact hret r4 () (Nat.le_of_ble_eq_true rfl) (Nat.le_of_ble_eq_true rfl) (z01 (rfl : r4.toInt = _) (om_29 hq5)) (om_29 hq5) hP hD hS dX9_isMade_12
theorem dX9_has_0 : decode cX9_has 0 = .ok (.iload_n 1, 1) := by decide +kernel
theorem dX9_has_1 : decode cX9_has 1 = .ok (.bipush 7, 2) := by decide +kernel
theorem dX9_has_3 : decode cX9_has 3 = .ok (.if_icmp .ne 8, 3) := by decide +kernel
theorem dX9_has_11 : decode cX9_has 11 = .ok (.aload_n 0, 1) := by decide +kernel
theorem dX9_has_12 : decode cX9_has 12 = .ok (.getfield 32, 3) := by decide +kernel
theorem dX9_has_15 : decode cX9_has 15 = .ok (.ifCond .ne 19, 3) := by decide +kernel
theorem dX9_has_34 : decode cX9_has 34 = .ok (.iload_n 1, 1) := by decide +kernel
theorem dX9_has_35 : decode cX9_has 35 = .ok (.tableswitch 86 0 6 #[41, 48, 55, 62, 69, 76, 81], 41) := by decide +kernel
theorem dX9_has_76 : decode cX9_has 76 = .ok (.aload_n 0, 1) := by decide +kernel
theorem dX9_has_77 : decode cX9_has 77 = .ok (.getfield 7, 3) := by decide +kernel
theorem dX9_has_80 : decode cX9_has 80 = .ok (.iconst 3, 1) := by decide +kernel
theorem dX9_has_81 : decode cX9_has 81 = .ok (.iaload, 1) := by decide +kernel
theorem dX9_has_82 : decode cX9_has 82 = .ok (.ireturn, 1) := by decide +kernel
theorem dX9_has_83 : decode cX9_has 83 = .ok (.aload_n 0, 1) := by decide +kernel
theorem dX9_has_84 : decode cX9_has 84 = .ok (.getfield 7, 3) := by decide +kernel
theorem dX9_has_87 : decode cX9_has 87 = .ok (.iconst 4, 1) := by decide +kernel
theorem dX9_has_88 : decode cX9_has 88 = .ok (.iaload, 1) := by decide +kernel
theorem dX9_has_89 : decode cX9_has 89 = .ok (.ireturn, 1) := by decide +kernel
theorem dX9_has_90 : decode cX9_has 90 = .ok (.aload_n 0, 1) := by decide +kernel
theorem dX9_has_91 : decode cX9_has 91 = .ok (.getfield 7, 3) := by decide +kernel
theorem dX9_has_94 : decode cX9_has 94 = .ok (.iconst 0, 1) := by decide +kernel
theorem dX9_has_95 : decode cX9_has 95 = .ok (.iaload, 1) := by decide +kernel
theorem dX9_has_96 : decode cX9_has 96 = .ok (.ireturn, 1) := by decide +kernel
theorem dX9_has_97 : decode cX9_has 97 = .ok (.aload_n 0, 1) := by decide +kernel
theorem dX9_has_98 : decode cX9_has 98 = .ok (.getfield 16, 3) := by decide +kernel
theorem dX9_has_101 : decode cX9_has 101 = .ok (.iconst 1, 1) := by decide +kernel
theorem dX9_has_102 : decode cX9_has 102 = .ok (.iaload, 1) := by decide +kernel
theorem dX9_has_103 : decode cX9_has 103 = .ok (.ireturn, 1) := by decide +kernel
theorem dX9_has_104 : decode cX9_has 104 = .ok (.aload_n 0, 1) := by decide +kernel
theorem dX9_has_105 : decode cX9_has 105 = .ok (.getfield 16, 3) := by decide +kernel
theorem dX9_has_108 : decode cX9_has 108 = .ok (.iconst 0, 1) := by decide +kernel
theorem dX9_has_109 : decode cX9_has 109 = .ok (.iaload, 1) := by decide +kernel
theorem dX9_has_110 : decode cX9_has 110 = .ok (.ireturn, 1) := by decide +kernel
theorem dX9_has_111 : decode cX9_has 111 = .ok (.aload_n 0, 1) := by decide +kernel
theorem dX9_has_112 : decode cX9_has 112 = .ok (.getfield 115, 3) := by decide +kernel
theorem dX9_has_115 : decode cX9_has 115 = .ok (.ireturn, 1) := by decide +kernel
theorem dX9_has_116 : decode cX9_has 116 = .ok (.aload_n 0, 1) := by decide +kernel
theorem dX9_has_117 : decode cX9_has 117 = .ok (.getfield 25, 3) := by decide +kernel
theorem dX9_has_120 : decode cX9_has 120 = .ok (.ireturn, 1) := by decide +kernel
theorem dX9_has_121 : decode cX9_has 121 = .ok (.iconst (-1), 1) := by decide +kernel
theorem dX9_has_122 : decode cX9_has 122 = .ok (.ireturn, 1) := by decide +kernel
theorem dX9_has_18 : decode cX9_has 18 = .ok (.iload_n 1, 1) := by decide +kernel
theorem dX9_has_19 : decode cX9_has 19 = .ok (.iconst 0, 1) := by decide +kernel
theorem dX9_has_20 : decode cX9_has 20 = .ok (.bipush 6, 2) := by decide +kernel
theorem dX9_has_22 : decode cX9_has 22 = .ok (.invokestatic 163, 3) := by decide +kernel
theorem dX9_has_25 : decode cX9_has 25 = .ok (.ifCond .eq 7, 3) := by decide +kernel
theorem dX9_has_32 : decode cX9_has 32 = .ok (.iconst (-1), 1) := by decide +kernel
theorem dX9_has_33 : decode cX9_has 33 = .ok (.ireturn, 1) := by decide +kernel
theorem dX9_has_28 : decode cX9_has 28 = .ok (.iconst 0, 1) := by decide +kernel
theorem dX9_has_29 : decode cX9_has 29 = .ok (.goto 4, 3) := by decide +kernel
theorem dX9_has_6 : decode cX9_has 6 = .ok (.aload_n 0, 1) := by decide +kernel
theorem dX9_has_7 : decode cX9_has 7 = .ok (.getfield 29, 3) := by decide +kernel
theorem dX9_has_10 : decode cX9_has 10 = .ok (.ireturn, 1) := by decide +kernel
abbrev rm_kX9_has : Room := { frames := 1, cells := 0, slots := 0, locals := 22 }
set_option maxHeartbeats 4000000 in
set_option maxRecDepth 100000 in
theorem kX9_has (l : Launch) (g : zL) (h0 : Nat) (x1 : Int32) (h0_told : Nat) (h0_read : Nat) (h0_now : Nat) (h0_readNow : Nat) (h0_kept : Nat) (h0_undone : Int32) (h0_seed : Int32) (h0_hasPart : Int32) (h0_tape : Nat) (h0_taped : Int32) (h0_refused : Nat) (h0_faultKind : Int32) (h0_faultPlace : Int32) (h0_size : Int32) (h0_at : Int32) (h0_from : Int32) (h0_wrong : Int32) (h0_wrongAt : Int32) (h0_ownLetters : Nat) (h0_flats : Nat) (h0_isLaid : Int32) (h0_corner : Nat) (h0_wayX : Nat) (h0_wayY : Nat) (h0_normal : Nat) (h0_low : Nat) (h0_high : Nat) (h0_clear : Nat) (h0_ways : Nat) (h0_canBe : Nat) (h0_lain : Nat) (h0_canTool : Int32) (h0_fewestBy : Nat) (h0_sortOf : Nat) (h0_rows : Int32) (h0_seenFlange : Nat) (h0_seenLength : Nat) (f_h0_told : Nat → Int32) (h0_told_3 : Int32) (h0_told_4 : Int32) (f_h0_now : Nat → Int32) (h0_now_0 : Int32) (hy0 : 0 ≤ h0_undone.toInt ∧ h0_undone.toInt ≤ 20) (hy1 : 0 ≤ h0_seed.toInt ∧ h0_seed.toInt ≤ 2147483647) (hy2 : 0 ≤ h0_hasPart.toInt ∧ h0_hasPart.toInt ≤ 1) (hy3 : 0 ≤ h0_taped.toInt ∧ h0_taped.toInt ≤ 1200) (hy4 : 0 ≤ h0_faultKind.toInt ∧ h0_faultKind.toInt ≤ 5) (hy5 : 0 ≤ h0_size.toInt ∧ h0_size.toInt ≤ 1200) (hy6 : 0 ≤ h0_at.toInt ∧ h0_at.toInt ≤ 1200) (hy7 : 0 ≤ h0_from.toInt ∧ h0_from.toInt ≤ 1200) (hy8 : 0 ≤ h0_wrong.toInt ∧ h0_wrong.toInt ≤ 5) (hy9 : 0 ≤ h0_isLaid.toInt ∧ h0_isLaid.toInt ≤ 1) (hy10 : 0 ≤ h0_canTool.toInt ∧ h0_canTool.toInt ≤ 255) (hy11 : 0 ≤ h0_rows.toInt ∧ h0_rows.toInt ≤ 8) (hy12 : pW mB f_h0_told) (hy13 : 0 ≤ h0_told_3.toInt ∧ h0_told_3.toInt ≤ 9) (hy14 : cEq f_h0_told 3 h0_told_3) (hy15 : 0 ≤ h0_told_4.toInt ∧ h0_told_4.toInt ≤ 8) (hy16 : cEq f_h0_told 4 h0_told_4) (hy17 : pW nB f_h0_now) (hy18 : 0 ≤ h0_now_0.toInt ∧ h0_now_0.toInt ≤ 255) (hy19 : cEq f_h0_now 0 h0_now_0) (hy20 : ((h0_hasPart.toInt = 0 ∧ h0_told_3.toInt = 0) ∨ (h0_hasPart.toInt = 1 ∧ 1 ≤ h0_told_3.toInt))) : zCi l g yX9_has cX9_has 2 (some .int) rm_kX9_has [.ref h0, .int x1] [(h0, .inr (9, [.ref h0_told, .ref h0_read, .ref h0_now, .ref h0_readNow, .ref h0_kept, .int h0_undone, .int h0_seed, .int h0_hasPart, .ref h0_tape, .int h0_taped, .ref h0_refused, .int h0_faultKind, .int h0_faultPlace, .int h0_size, .int h0_at, .int h0_from, .int h0_wrong, .int h0_wrongAt, .ref h0_ownLetters, .ref h0_flats, .int h0_isLaid, .ref h0_corner, .ref h0_wayX, .ref h0_wayY, .ref h0_normal, .ref h0_low, .ref h0_high, .ref h0_clear, .ref h0_ways, .ref h0_canBe, .ref h0_lain, .int h0_canTool, .ref h0_fewestBy, .ref h0_sortOf, .int h0_rows, .ref h0_seenFlange, .ref h0_seenLength])), (h0_told, .inl (g.2.1.1, 103, .inl f_h0_told)), (h0_now, .inl (g.2.1.1, 21, .inl f_h0_now))] (fun (r : Int32) (u : Unit) => True) (fun (u : Unit) => [(h0, .inr (9, [.ref h0_told, .ref h0_read, .ref h0_now, .ref h0_readNow, .ref h0_kept, .int h0_undone, .int h0_seed, .int h0_hasPart, .ref h0_tape, .int h0_taped, .ref h0_refused, .int h0_faultKind, .int h0_faultPlace, .int h0_size, .int h0_at, .int h0_from, .int h0_wrong, .int h0_wrongAt, .ref h0_ownLetters, .ref h0_flats, .int h0_isLaid, .ref h0_corner, .ref h0_wayX, .ref h0_wayY, .ref h0_normal, .ref h0_low, .ref h0_high, .ref h0_clear, .ref h0_ways, .ref h0_canBe, .ref h0_lain, .int h0_canTool, .ref h0_fewestBy, .ref h0_sortOf, .int h0_rows, .ref h0_seenFlange, .ref h0_seenLength])), (h0_told, .inl (g.2.1.1, 103, .inl f_h0_told)), (h0_now, .inl (g.2.1.1, 21, .inl f_h0_now))]) := by
  refine zCi.mk2 (by decide) (Nat.le_of_ble_eq_true rfl) ?_
  intro p e s m below meth c A args Q hE hret hP hD hS ls hl
  obtain ⟨hx, hb, hr, hml, hown, hG, hlocks, hnm, hX, hA⟩ := hE
  have hown : s.vm.findClass RX9 = some m.cls := hown
  have hl : lv_has ls 2 [(0, .ref h0), (1, .int x1)] := hl
  refine lv_iload_n hx hb dX9_has_0 rfl (lv_at hl 1 rfl) ?_
  refine lv_bipush (v := 7) hx hb dX9_has_1 (by decide) ?_
  refine lv_icmp_ne (tgt := 11) hx hb dX9_has_3 (by decide) (fun c1 => ?_) (fun c1 => ?_)
  · skip
    have c1i : ¬ (x1.toInt = (7 : Int)) := fun q => c1 ((zc_eq (rfl : x1.toInt = _) (show (7 : Int32).toInt = (7 : Int) from by decide)).mpr q)
    refine lv_aload_n hx hb dX9_has_11 rfl (lv_at hl 0 rfl) ?_
    refine va_get (D := g.1) (ci := 9) (v := .int h0_hasPart) (C := RX9) (T := TX9) (N := 37) hx hb hG iX9 hown hX.1 hP 0 rfl rfl 7 (by decide) (hG _ wf_X9_32) (fun _ h9 => h9) rfl dX9_has_12 ?_
    refine lv_if_ne (tgt := 34) hx hb dX9_has_15 (by decide) (fun c2 => ?_) (fun c2 => ?_)
    · skip
      have c2i : ¬ (h0_hasPart.toInt = (0 : Int)) := fun q => c2 ((zc_eq (rfl : h0_hasPart.toInt = _) (show (0 : Int32).toInt = (0 : Int) from by decide)).mpr q)
      refine lv_iload_n hx hb dX9_has_34 rfl (lv_at hl 1 rfl) ?_
      rcases (show x1.toInt = 0 ∨ x1.toInt = 1 ∨ x1.toInt = 2 ∨ x1.toInt = 3 ∨ x1.toInt = 4 ∨ x1.toInt = 5 ∨ x1.toInt = 6 ∨ (x1.toInt < 0 ∨ 6 < x1.toInt) by omega) with c3 | c3 | c3 | c3 | c3 | c3 | c3 | c3
      · refine lv_tableIn (off := 41) (tgt := 76) hx hb dX9_has_35 (by rw [c3]; decide) (by rw [c3]; decide) (by rw [c3]; rfl) (by decide) ?_
        refine lv_aload_n hx hb dX9_has_76 rfl (lv_at hl 0 rfl) ?_
        refine va_get (D := g.1) (ci := 9) (v := .ref h0_told) (C := RX9) (T := TX9) (N := 37) hx hb hG iX9 hown hX.1 hP 0 rfl rfl 0 (by decide) (hG _ wf_X9_7) (fun _ h9 => h9) rfl dX9_has_77 ?_
        refine lv_iconst (v := 3) hx hb dX9_has_80 (by decide) ?_
        refine va_iald hx hb hX.1 hP 1 0 rfl rfl (zin (show (3 : Int32).toInt = (3 : Int) from by decide) ((show 0 ≤ (3 : Int) ∧ (3 : Int) < 103 from by decide))) dX9_has_81 ?_
        refine zt (z := h0_told_3) (cEq.at hy14 (by decide)) ?_
        exact hret h0_told_3 () (Nat.le_of_ble_eq_true rfl) (Nat.le_of_ble_eq_true rfl) rfl trivial hP hD hS dX9_has_82
      · refine lv_tableIn (off := 48) (tgt := 83) hx hb dX9_has_35 (by rw [c3]; decide) (by rw [c3]; decide) (by rw [c3]; rfl) (by decide) ?_
        refine lv_aload_n hx hb dX9_has_83 rfl (lv_at hl 0 rfl) ?_
        refine va_get (D := g.1) (ci := 9) (v := .ref h0_told) (C := RX9) (T := TX9) (N := 37) hx hb hG iX9 hown hX.1 hP 0 rfl rfl 0 (by decide) (hG _ wf_X9_7) (fun _ h9 => h9) rfl dX9_has_84 ?_
        refine lv_iconst (v := 4) hx hb dX9_has_87 (by decide) ?_
        refine va_iald hx hb hX.1 hP 1 0 rfl rfl (zin (show (4 : Int32).toInt = (4 : Int) from by decide) ((show 0 ≤ (4 : Int) ∧ (4 : Int) < 103 from by decide))) dX9_has_88 ?_
        refine zt (z := h0_told_4) (cEq.at hy16 (by decide)) ?_
        exact hret h0_told_4 () (Nat.le_of_ble_eq_true rfl) (Nat.le_of_ble_eq_true rfl) rfl trivial hP hD hS dX9_has_89
      · refine lv_tableIn (off := 55) (tgt := 90) hx hb dX9_has_35 (by rw [c3]; decide) (by rw [c3]; decide) (by rw [c3]; rfl) (by decide) ?_
        refine lv_aload_n hx hb dX9_has_90 rfl (lv_at hl 0 rfl) ?_
        refine va_get (D := g.1) (ci := 9) (v := .ref h0_told) (C := RX9) (T := TX9) (N := 37) hx hb hG iX9 hown hX.1 hP 0 rfl rfl 0 (by decide) (hG _ wf_X9_7) (fun _ h9 => h9) rfl dX9_has_91 ?_
        refine lv_iconst (v := 0) hx hb dX9_has_94 (by decide) ?_
        refine va_iald hx hb hX.1 hP 1 0 rfl rfl (zin (show (0 : Int32).toInt = (0 : Int) from by decide) ((show 0 ≤ (0 : Int) ∧ (0 : Int) < 103 from by decide))) dX9_has_95 ?_
        refine lv_topi (fun z4 e5 => ?_)
        exact hret z4 () (Nat.le_of_ble_eq_true rfl) (Nat.le_of_ble_eq_true rfl) rfl trivial hP hD hS dX9_has_96
      · refine lv_tableIn (off := 62) (tgt := 97) hx hb dX9_has_35 (by rw [c3]; decide) (by rw [c3]; decide) (by rw [c3]; rfl) (by decide) ?_
        refine lv_aload_n hx hb dX9_has_97 rfl (lv_at hl 0 rfl) ?_
        refine va_get (D := g.1) (ci := 9) (v := .ref h0_now) (C := RX9) (T := TX9) (N := 37) hx hb hG iX9 hown hX.1 hP 0 rfl rfl 2 (by decide) (hG _ wf_X9_16) (fun _ h9 => h9) rfl dX9_has_98 ?_
        refine lv_iconst (v := 1) hx hb dX9_has_101 (by decide) ?_
        refine va_iald hx hb hX.1 hP 2 0 rfl rfl (zin (show (1 : Int32).toInt = (1 : Int) from by decide) ((show 0 ≤ (1 : Int) ∧ (1 : Int) < 21 from by decide))) dX9_has_102 ?_
        refine lv_topi (fun z6 e7 => ?_)
        exact hret z6 () (Nat.le_of_ble_eq_true rfl) (Nat.le_of_ble_eq_true rfl) rfl trivial hP hD hS dX9_has_103
      · refine lv_tableIn (off := 69) (tgt := 104) hx hb dX9_has_35 (by rw [c3]; decide) (by rw [c3]; decide) (by rw [c3]; rfl) (by decide) ?_
        refine lv_aload_n hx hb dX9_has_104 rfl (lv_at hl 0 rfl) ?_
        refine va_get (D := g.1) (ci := 9) (v := .ref h0_now) (C := RX9) (T := TX9) (N := 37) hx hb hG iX9 hown hX.1 hP 0 rfl rfl 2 (by decide) (hG _ wf_X9_16) (fun _ h9 => h9) rfl dX9_has_105 ?_
        refine lv_iconst (v := 0) hx hb dX9_has_108 (by decide) ?_
        refine va_iald hx hb hX.1 hP 2 0 rfl rfl (zin (show (0 : Int32).toInt = (0 : Int) from by decide) ((show 0 ≤ (0 : Int) ∧ (0 : Int) < 21 from by decide))) dX9_has_109 ?_
        refine zt (z := h0_now_0) (cEq.at hy19 (by decide)) ?_
        exact hret h0_now_0 () (Nat.le_of_ble_eq_true rfl) (Nat.le_of_ble_eq_true rfl) rfl trivial hP hD hS dX9_has_110
      · refine lv_tableIn (off := 76) (tgt := 111) hx hb dX9_has_35 (by rw [c3]; decide) (by rw [c3]; decide) (by rw [c3]; rfl) (by decide) ?_
        refine lv_aload_n hx hb dX9_has_111 rfl (lv_at hl 0 rfl) ?_
        refine va_get (D := g.1) (ci := 9) (v := .int h0_rows) (C := RX9) (T := TX9) (N := 37) hx hb hG iX9 hown hX.1 hP 0 rfl rfl 34 (by decide) (hG _ wf_X9_115) (fun _ h9 => h9) rfl dX9_has_112 ?_
        exact hret h0_rows () (Nat.le_of_ble_eq_true rfl) (Nat.le_of_ble_eq_true rfl) rfl trivial hP hD hS dX9_has_115
      · refine lv_tableIn (off := 81) (tgt := 116) hx hb dX9_has_35 (by rw [c3]; decide) (by rw [c3]; decide) (by rw [c3]; rfl) (by decide) ?_
        refine lv_aload_n hx hb dX9_has_116 rfl (lv_at hl 0 rfl) ?_
        refine va_get (D := g.1) (ci := 9) (v := .int h0_undone) (C := RX9) (T := TX9) (N := 37) hx hb hG iX9 hown hX.1 hP 0 rfl rfl 5 (by decide) (hG _ wf_X9_25) (fun _ h9 => h9) rfl dX9_has_117 ?_
        exact hret h0_undone () (Nat.le_of_ble_eq_true rfl) (Nat.le_of_ble_eq_true rfl) rfl trivial hP hD hS dX9_has_120
      · refine lv_tableOut (tgt := 121) hx hb dX9_has_35 c3 (by decide) ?_
        refine lv_iconst (v := (-1)) hx hb dX9_has_121 (by decide) ?_
        exact hret (-1 : Int32) () (Nat.le_of_ble_eq_true rfl) (Nat.le_of_ble_eq_true rfl) rfl trivial hP hD hS dX9_has_122
    · skip
      have c2i : h0_hasPart.toInt = (0 : Int) := (zc_eq (rfl : h0_hasPart.toInt = _) (show (0 : Int32).toInt = (0 : Int) from by decide)).mp c2
      refine lv_iload_n hx hb dX9_has_18 rfl (lv_at hl 1 rfl) ?_
      refine lv_iconst (v := 0) hx hb dX9_has_19 (by decide) ?_
      refine lv_bipush (v := 6) hx hb dX9_has_20 (by decide) ?_
      refine zfi (wr := [(h0, .inr (9, [.ref h0_told, .ref h0_read, .ref h0_now, .ref h0_readNow, .ref h0_kept, .int h0_undone, .int h0_seed, .int h0_hasPart, .ref h0_tape, .int h0_taped, .ref h0_refused, .int h0_faultKind, .int h0_faultPlace, .int h0_size, .int h0_at, .int h0_from, .int h0_wrong, .int h0_wrongAt, .ref h0_ownLetters, .ref h0_flats, .int h0_isLaid, .ref h0_corner, .ref h0_wayX, .ref h0_wayY, .ref h0_normal, .ref h0_low, .ref h0_high, .ref h0_clear, .ref h0_ways, .ref h0_canBe, .ref h0_lain, .int h0_canTool, .ref h0_fewestBy, .ref h0_sortOf, .int h0_rows, .ref h0_seenFlange, .ref h0_seenLength])), (h0_told, .inl (g.2.1.1, 103, .inl f_h0_told)), (h0_now, .inl (g.2.1.1, 21, .inl f_h0_now))]) (va_runS (As := [.int x1, .int 0, .int 6]) (rest := []) ⟨hx, hb, hml, hown, hG⟩ (kX9_isIn l g x1 (0 : Int32) (6 : Int32) _) ⟨callB_of 3 hG (zGood wc_X9_isIn) rfl rfl rfl (hG _ wini_X9) (hG _ wm_X9_163) hX9_isIn ⟨Nat.le_of_ble_eq_true rfl, Nat.le_of_ble_eq_true rfl⟩, hG _ ws_X9_isIn⟩ (zpreS hX hP hD hS hA [] rfl (by decide)) rfl rfl hl.1 rfl (lv_room (Nat.le_of_ble_eq_true rfl)) dX9_has_22 ⟨Nat.le_of_ble_eq_true rfl, Nat.le_of_ble_eq_true rfl⟩) hP hD hS hA [] [0, 1, 2] rfl rfl (by decide) (by decide) (fun r8 _ H locs hp hP hD hS => ?_)
      refine W.cs (cells' := 0) (slots' := 0) rfl rfl ?_
      obtain ⟨hq9, hq10, hq11⟩ : (0 ≤ r8.toInt ∧ r8.toInt ≤ 1) ∧ ((r8.toInt = 0 ∨ ((0 : Int) ≤ x1.toInt ∧ x1.toInt ≤ (6 : Int)))) ∧ ((r8.toInt = 1 ∨ ¬ ((0 : Int) ≤ x1.toInt ∧ x1.toInt ≤ (6 : Int)))) := hp
      have hP : va_P g.1 vwCl [(h0, .inr (9, [.ref h0_told, .ref h0_read, .ref h0_now, .ref h0_readNow, .ref h0_kept, .int h0_undone, .int h0_seed, .int h0_hasPart, .ref h0_tape, .int h0_taped, .ref h0_refused, .int h0_faultKind, .int h0_faultPlace, .int h0_size, .int h0_at, .int h0_from, .int h0_wrong, .int h0_wrongAt, .ref h0_ownLetters, .ref h0_flats, .int h0_isLaid, .ref h0_corner, .ref h0_wayX, .ref h0_wayY, .ref h0_normal, .ref h0_low, .ref h0_high, .ref h0_clear, .ref h0_ways, .ref h0_canBe, .ref h0_lain, .int h0_canTool, .ref h0_fewestBy, .ref h0_sortOf, .int h0_rows, .ref h0_seenFlange, .ref h0_seenLength])), (h0_told, .inl (g.2.1.1, 103, .inl f_h0_told)), (h0_now, .inl (g.2.1.1, 21, .inl f_h0_now))] H := hP
      have hD : va_D A [(h0, .inr (9, [.ref h0_told, .ref h0_read, .ref h0_now, .ref h0_readNow, .ref h0_kept, .int h0_undone, .int h0_seed, .int h0_hasPart, .ref h0_tape, .int h0_taped, .ref h0_refused, .int h0_faultKind, .int h0_faultPlace, .int h0_size, .int h0_at, .int h0_from, .int h0_wrong, .int h0_wrongAt, .ref h0_ownLetters, .ref h0_flats, .int h0_isLaid, .ref h0_corner, .ref h0_wayX, .ref h0_wayY, .ref h0_normal, .ref h0_low, .ref h0_high, .ref h0_clear, .ref h0_ways, .ref h0_canBe, .ref h0_lain, .int h0_canTool, .ref h0_fewestBy, .ref h0_sortOf, .int h0_rows, .ref h0_seenFlange, .ref h0_seenLength])), (h0_told, .inl (g.2.1.1, 103, .inl f_h0_told)), (h0_now, .inl (g.2.1.1, 21, .inl f_h0_now))] := hD
      refine lv_if_eq (tgt := 32) hx hb dX9_has_25 (by decide) (fun c12 => ?_) (fun c12 => ?_)
      · skip
        have c12i : r8.toInt = (0 : Int) := (zc_eq (rfl : r8.toInt = _) (show (0 : Int32).toInt = (0 : Int) from by decide)).mp c12
        refine lv_iconst (v := (-1)) hx hb dX9_has_32 (by decide) ?_
        exact hret (-1 : Int32) () (Nat.le_of_ble_eq_true rfl) (Nat.le_of_ble_eq_true rfl) rfl trivial hP hD hS dX9_has_33
      · skip
        have c12i : ¬ (r8.toInt = (0 : Int)) := fun q => c12 ((zc_eq (rfl : r8.toInt = _) (show (0 : Int32).toInt = (0 : Int) from by decide)).mpr q)
        refine lv_iconst (v := 0) hx hb dX9_has_28 (by decide) ?_
        refine lv_goto (tgt := 33) hx hb dX9_has_29 (by decide) ?_
        exact hret (0 : Int32) () (Nat.le_of_ble_eq_true rfl) (Nat.le_of_ble_eq_true rfl) rfl trivial hP hD hS dX9_has_33
  · skip
    have c1i : x1.toInt = (7 : Int) := (zc_eq (rfl : x1.toInt = _) (show (7 : Int32).toInt = (7 : Int) from by decide)).mp c1
    refine lv_aload_n hx hb dX9_has_6 rfl (lv_at hl 0 rfl) ?_
    refine va_get (D := g.1) (ci := 9) (v := .int h0_seed) (C := RX9) (T := TX9) (N := 37) hx hb hG iX9 hown hX.1 hP 0 rfl rfl 6 (by decide) (hG _ wf_X9_29) (fun _ h9 => h9) rfl dX9_has_7 ?_
    exact hret h0_seed () (Nat.le_of_ble_eq_true rfl) (Nat.le_of_ble_eq_true rfl) rfl trivial hP hD hS dX9_has_10
theorem dX9_letter_0 : decode cX9_letter 0 = .ok (.aload_n 0, 1) := by decide +kernel
theorem dX9_letter_1 : decode cX9_letter 1 = .ok (.iload_n 1, 1) := by decide +kernel
theorem dX9_letter_2 : decode cX9_letter 2 = .ok (.invokevirtual 229, 3) := by decide +kernel
theorem dX9_letter_5 : decode cX9_letter 5 = .ok (.ifCond .eq 28, 3) := by decide +kernel
theorem dX9_letter_33 : decode cX9_letter 33 = .ok (.iconst (-1), 1) := by decide +kernel
theorem dX9_letter_34 : decode cX9_letter 34 = .ok (.ireturn, 1) := by decide +kernel
theorem dX9_letter_8 : decode cX9_letter 8 = .ok (.iload_n 2, 1) := by decide +kernel
theorem dX9_letter_9 : decode cX9_letter 9 = .ok (.iconst 0, 1) := by decide +kernel
theorem dX9_letter_10 : decode cX9_letter 10 = .ok (.iconst 3, 1) := by decide +kernel
theorem dX9_letter_11 : decode cX9_letter 11 = .ok (.invokestatic 163, 3) := by decide +kernel
theorem dX9_letter_14 : decode cX9_letter 14 = .ok (.ifCond .eq 19, 3) := by decide +kernel
theorem dX9_letter_17 : decode cX9_letter 17 = .ok (.aload_n 0, 1) := by decide +kernel
theorem dX9_letter_18 : decode cX9_letter 18 = .ok (.getfield 7, 3) := by decide +kernel
theorem dX9_letter_21 : decode cX9_letter 21 = .ok (.bipush 67, 2) := by decide +kernel
theorem dX9_letter_23 : decode cX9_letter 23 = .ok (.iconst 4, 1) := by decide +kernel
theorem dX9_letter_24 : decode cX9_letter 24 = .ok (.iload_n 1, 1) := by decide +kernel
theorem dX9_letter_25 : decode cX9_letter 25 = .ok (.imul, 1) := by decide +kernel
theorem dX9_letter_26 : decode cX9_letter 26 = .ok (.iadd, 1) := by decide +kernel
theorem dX9_letter_27 : decode cX9_letter 27 = .ok (.iload_n 2, 1) := by decide +kernel
theorem dX9_letter_28 : decode cX9_letter 28 = .ok (.iadd, 1) := by decide +kernel
theorem dX9_letter_29 : decode cX9_letter 29 = .ok (.iaload, 1) := by decide +kernel
theorem dX9_letter_30 : decode cX9_letter 30 = .ok (.goto 4, 3) := by decide +kernel
abbrev rm_kX9_letter : Room := { frames := 2, cells := 0, slots := 0, locals := 43 }
set_option maxHeartbeats 4000000 in
set_option maxRecDepth 100000 in
theorem kX9_letter (l : Launch) (g : zL) (h0 : Nat) (x1 : Int32) (x2 : Int32) (h0_told : Nat) (h0_read : Nat) (h0_now : Nat) (h0_readNow : Nat) (h0_kept : Nat) (h0_undone : Int32) (h0_seed : Int32) (h0_hasPart : Int32) (h0_tape : Nat) (h0_taped : Int32) (h0_refused : Nat) (h0_faultKind : Int32) (h0_faultPlace : Int32) (h0_size : Int32) (h0_at : Int32) (h0_from : Int32) (h0_wrong : Int32) (h0_wrongAt : Int32) (h0_ownLetters : Nat) (h0_flats : Nat) (h0_isLaid : Int32) (h0_corner : Nat) (h0_wayX : Nat) (h0_wayY : Nat) (h0_normal : Nat) (h0_low : Nat) (h0_high : Nat) (h0_clear : Nat) (h0_ways : Nat) (h0_canBe : Nat) (h0_lain : Nat) (h0_canTool : Int32) (h0_fewestBy : Nat) (h0_sortOf : Nat) (h0_rows : Int32) (h0_seenFlange : Nat) (h0_seenLength : Nat) (f_h0_told : Nat → Int32) (h0_told_3 : Int32) (h0_told_4 : Int32) (hy0 : 0 ≤ h0_undone.toInt ∧ h0_undone.toInt ≤ 20) (hy1 : 0 ≤ h0_seed.toInt ∧ h0_seed.toInt ≤ 2147483647) (hy2 : 0 ≤ h0_hasPart.toInt ∧ h0_hasPart.toInt ≤ 1) (hy3 : 0 ≤ h0_taped.toInt ∧ h0_taped.toInt ≤ 1200) (hy4 : 0 ≤ h0_faultKind.toInt ∧ h0_faultKind.toInt ≤ 5) (hy5 : 0 ≤ h0_size.toInt ∧ h0_size.toInt ≤ 1200) (hy6 : 0 ≤ h0_at.toInt ∧ h0_at.toInt ≤ 1200) (hy7 : 0 ≤ h0_from.toInt ∧ h0_from.toInt ≤ 1200) (hy8 : 0 ≤ h0_wrong.toInt ∧ h0_wrong.toInt ≤ 5) (hy9 : 0 ≤ h0_isLaid.toInt ∧ h0_isLaid.toInt ≤ 1) (hy10 : 0 ≤ h0_canTool.toInt ∧ h0_canTool.toInt ≤ 255) (hy11 : 0 ≤ h0_rows.toInt ∧ h0_rows.toInt ≤ 8) (hy12 : pW mB f_h0_told) (hy13 : 0 ≤ h0_told_3.toInt ∧ h0_told_3.toInt ≤ 9) (hy14 : cEq f_h0_told 3 h0_told_3) (hy15 : 0 ≤ h0_told_4.toInt ∧ h0_told_4.toInt ≤ 8) (hy16 : cEq f_h0_told 4 h0_told_4) (hy17 : ((h0_hasPart.toInt = 0 ∧ h0_told_3.toInt = 0) ∨ (h0_hasPart.toInt = 1 ∧ 1 ≤ h0_told_3.toInt))) : zCi l g yX9_letter cX9_letter 3 (some .int) rm_kX9_letter [.ref h0, .int x1, .int x2] [(h0, .inr (9, [.ref h0_told, .ref h0_read, .ref h0_now, .ref h0_readNow, .ref h0_kept, .int h0_undone, .int h0_seed, .int h0_hasPart, .ref h0_tape, .int h0_taped, .ref h0_refused, .int h0_faultKind, .int h0_faultPlace, .int h0_size, .int h0_at, .int h0_from, .int h0_wrong, .int h0_wrongAt, .ref h0_ownLetters, .ref h0_flats, .int h0_isLaid, .ref h0_corner, .ref h0_wayX, .ref h0_wayY, .ref h0_normal, .ref h0_low, .ref h0_high, .ref h0_clear, .ref h0_ways, .ref h0_canBe, .ref h0_lain, .int h0_canTool, .ref h0_fewestBy, .ref h0_sortOf, .int h0_rows, .ref h0_seenFlange, .ref h0_seenLength])), (h0_told, .inl (g.2.1.1, 103, .inl f_h0_told))] (fun (r : Int32) (u : Unit) => True) (fun (u : Unit) => [(h0, .inr (9, [.ref h0_told, .ref h0_read, .ref h0_now, .ref h0_readNow, .ref h0_kept, .int h0_undone, .int h0_seed, .int h0_hasPart, .ref h0_tape, .int h0_taped, .ref h0_refused, .int h0_faultKind, .int h0_faultPlace, .int h0_size, .int h0_at, .int h0_from, .int h0_wrong, .int h0_wrongAt, .ref h0_ownLetters, .ref h0_flats, .int h0_isLaid, .ref h0_corner, .ref h0_wayX, .ref h0_wayY, .ref h0_normal, .ref h0_low, .ref h0_high, .ref h0_clear, .ref h0_ways, .ref h0_canBe, .ref h0_lain, .int h0_canTool, .ref h0_fewestBy, .ref h0_sortOf, .int h0_rows, .ref h0_seenFlange, .ref h0_seenLength])), (h0_told, .inl (g.2.1.1, 103, .inl f_h0_told))]) := by
  refine zCi.mk2 (by decide) (Nat.le_of_ble_eq_true rfl) ?_
  intro p e s m below meth c A args Q hE hret hP hD hS ls hl
  obtain ⟨hx, hb, hr, hml, hown, hG, hlocks, hnm, hX, hA⟩ := hE
  have hown : s.vm.findClass RX9 = some m.cls := hown
  have hl : lv_has ls 3 [(0, .ref h0), (1, .int x1), (2, .int x2)] := hl
  refine lv_aload_n hx hb dX9_letter_0 rfl (lv_at hl 0 rfl) ?_
  refine lv_iload_n hx hb dX9_letter_1 rfl (lv_at hl 1 rfl) ?_
  refine zfi (wr := []) (va_runV (As := [.int x1]) (rest := []) ⟨hx, hb, hml, hown, hG⟩ (kX9_isFlange l g h0 x1 h0_told h0_read h0_now h0_readNow h0_kept h0_undone h0_seed h0_hasPart h0_tape h0_taped h0_refused h0_faultKind h0_faultPlace h0_size h0_at h0_from h0_wrong h0_wrongAt h0_ownLetters h0_flats h0_isLaid h0_corner h0_wayX h0_wayY h0_normal h0_low h0_high h0_clear h0_ways h0_canBe h0_lain h0_canTool h0_fewestBy h0_sortOf h0_rows h0_seenFlange h0_seenLength f_h0_told h0_told_3 h0_told_4 (om_27 hy0) (om_28 hy1) (om_29 hy2) (om_32 hy3) (om_31 hy4) (om_32 hy5) (om_32 hy6) (om_32 hy7) (om_31 hy8) (om_29 hy9) (om_13 hy10) (om_33 hy11) hy12 (om_155 hy13) hy14 (om_33 hy15) hy16 (om_331 hy13 hy17 hy2) _) ⟨callB_of 1 hG (zGood wc_X9_isFlange) rfl rfl rfl (hG _ wini_X9) (hG _ wm_X9_229) hX9_isFlange ⟨Nat.le_of_ble_eq_true rfl, Nat.le_of_ble_eq_true rfl⟩, hG _ wi_X9_isFlange, hG _ wse_X9_X9_isFlange⟩ (zpreV (va_recv hX.1 hP (ci := 9) (q0 := 0) rfl rfl) hX hP hD hS hA [0, 1] rfl (by decide)) rfl rfl hl.1 rfl (lv_room (Nat.le_of_ble_eq_true rfl)) dX9_letter_2 ⟨Nat.le_of_ble_eq_true rfl, Nat.le_of_ble_eq_true rfl⟩) hP hD hS hA [0, 1] [] rfl rfl (by decide) (by decide) (fun r1 _ H locs hp hP hD hS => ?_)
  refine W.cs (cells' := 0) (slots' := 0) rfl rfl ?_
  obtain ⟨hq2, hq3⟩ : (0 ≤ r1.toInt ∧ r1.toInt ≤ 1) ∧ ((r1.toInt = 0 ∨ (0 ≤ x1.toInt ∧ x1.toInt ≤ 8 ∧ x1.toInt < h0_told_3.toInt ∧ h0_hasPart.toInt = 1 ∧ 1 ≤ h0_told_3.toInt))) := hp
  have hP : va_P g.1 vwCl [(h0, .inr (9, [.ref h0_told, .ref h0_read, .ref h0_now, .ref h0_readNow, .ref h0_kept, .int h0_undone, .int h0_seed, .int h0_hasPart, .ref h0_tape, .int h0_taped, .ref h0_refused, .int h0_faultKind, .int h0_faultPlace, .int h0_size, .int h0_at, .int h0_from, .int h0_wrong, .int h0_wrongAt, .ref h0_ownLetters, .ref h0_flats, .int h0_isLaid, .ref h0_corner, .ref h0_wayX, .ref h0_wayY, .ref h0_normal, .ref h0_low, .ref h0_high, .ref h0_clear, .ref h0_ways, .ref h0_canBe, .ref h0_lain, .int h0_canTool, .ref h0_fewestBy, .ref h0_sortOf, .int h0_rows, .ref h0_seenFlange, .ref h0_seenLength])), (h0_told, .inl (g.2.1.1, 103, .inl f_h0_told))] H := hP
  have hD : va_D A [(h0, .inr (9, [.ref h0_told, .ref h0_read, .ref h0_now, .ref h0_readNow, .ref h0_kept, .int h0_undone, .int h0_seed, .int h0_hasPart, .ref h0_tape, .int h0_taped, .ref h0_refused, .int h0_faultKind, .int h0_faultPlace, .int h0_size, .int h0_at, .int h0_from, .int h0_wrong, .int h0_wrongAt, .ref h0_ownLetters, .ref h0_flats, .int h0_isLaid, .ref h0_corner, .ref h0_wayX, .ref h0_wayY, .ref h0_normal, .ref h0_low, .ref h0_high, .ref h0_clear, .ref h0_ways, .ref h0_canBe, .ref h0_lain, .int h0_canTool, .ref h0_fewestBy, .ref h0_sortOf, .int h0_rows, .ref h0_seenFlange, .ref h0_seenLength])), (h0_told, .inl (g.2.1.1, 103, .inl f_h0_told))] := hD
  refine lv_if_eq (tgt := 33) hx hb dX9_letter_5 (by decide) (fun c4 => ?_) (fun c4 => ?_)
  · skip
    have c4i : r1.toInt = (0 : Int) := (zc_eq (rfl : r1.toInt = _) (show (0 : Int32).toInt = (0 : Int) from by decide)).mp c4
    refine lv_iconst (v := (-1)) hx hb dX9_letter_33 (by decide) ?_
    exact hret (-1 : Int32) () (Nat.le_of_ble_eq_true rfl) (Nat.le_of_ble_eq_true rfl) rfl trivial hP hD hS dX9_letter_34
  · skip
    have c4i : ¬ (r1.toInt = (0 : Int)) := fun q => c4 ((zc_eq (rfl : r1.toInt = _) (show (0 : Int32).toInt = (0 : Int) from by decide)).mpr q)
    refine lv_iload_n hx hb dX9_letter_8 rfl (lv_at hl 2 rfl) ?_
    refine lv_iconst (v := 0) hx hb dX9_letter_9 (by decide) ?_
    refine lv_iconst (v := 3) hx hb dX9_letter_10 (by decide) ?_
    refine zfi (wr := [(h0, .inr (9, [.ref h0_told, .ref h0_read, .ref h0_now, .ref h0_readNow, .ref h0_kept, .int h0_undone, .int h0_seed, .int h0_hasPart, .ref h0_tape, .int h0_taped, .ref h0_refused, .int h0_faultKind, .int h0_faultPlace, .int h0_size, .int h0_at, .int h0_from, .int h0_wrong, .int h0_wrongAt, .ref h0_ownLetters, .ref h0_flats, .int h0_isLaid, .ref h0_corner, .ref h0_wayX, .ref h0_wayY, .ref h0_normal, .ref h0_low, .ref h0_high, .ref h0_clear, .ref h0_ways, .ref h0_canBe, .ref h0_lain, .int h0_canTool, .ref h0_fewestBy, .ref h0_sortOf, .int h0_rows, .ref h0_seenFlange, .ref h0_seenLength])), (h0_told, .inl (g.2.1.1, 103, .inl f_h0_told))]) (va_runS (As := [.int x2, .int 0, .int 3]) (rest := []) ⟨hx, hb, hml, hown, hG⟩ (kX9_isIn l g x2 (0 : Int32) (3 : Int32) _) ⟨callB_of 3 hG (zGood wc_X9_isIn) rfl rfl rfl (hG _ wini_X9) (hG _ wm_X9_163) hX9_isIn ⟨Nat.le_of_ble_eq_true rfl, Nat.le_of_ble_eq_true rfl⟩, hG _ ws_X9_isIn⟩ (zpreS hX hP hD hS hA [] rfl (by decide)) rfl rfl hl.1 rfl (lv_room (Nat.le_of_ble_eq_true rfl)) dX9_letter_11 ⟨Nat.le_of_ble_eq_true rfl, Nat.le_of_ble_eq_true rfl⟩) hP hD hS hA [] [0, 1] rfl rfl (by decide) (by decide) (fun r5 _ H locs hp hP hD hS => ?_)
    refine W.cs (cells' := 0) (slots' := 0) rfl rfl ?_
    obtain ⟨hq6, hq7, hq8⟩ : (0 ≤ r5.toInt ∧ r5.toInt ≤ 1) ∧ ((r5.toInt = 0 ∨ ((0 : Int) ≤ x2.toInt ∧ x2.toInt ≤ (3 : Int)))) ∧ ((r5.toInt = 1 ∨ ¬ ((0 : Int) ≤ x2.toInt ∧ x2.toInt ≤ (3 : Int)))) := hp
    have hP : va_P g.1 vwCl [(h0, .inr (9, [.ref h0_told, .ref h0_read, .ref h0_now, .ref h0_readNow, .ref h0_kept, .int h0_undone, .int h0_seed, .int h0_hasPart, .ref h0_tape, .int h0_taped, .ref h0_refused, .int h0_faultKind, .int h0_faultPlace, .int h0_size, .int h0_at, .int h0_from, .int h0_wrong, .int h0_wrongAt, .ref h0_ownLetters, .ref h0_flats, .int h0_isLaid, .ref h0_corner, .ref h0_wayX, .ref h0_wayY, .ref h0_normal, .ref h0_low, .ref h0_high, .ref h0_clear, .ref h0_ways, .ref h0_canBe, .ref h0_lain, .int h0_canTool, .ref h0_fewestBy, .ref h0_sortOf, .int h0_rows, .ref h0_seenFlange, .ref h0_seenLength])), (h0_told, .inl (g.2.1.1, 103, .inl f_h0_told))] H := hP
    have hD : va_D A [(h0, .inr (9, [.ref h0_told, .ref h0_read, .ref h0_now, .ref h0_readNow, .ref h0_kept, .int h0_undone, .int h0_seed, .int h0_hasPart, .ref h0_tape, .int h0_taped, .ref h0_refused, .int h0_faultKind, .int h0_faultPlace, .int h0_size, .int h0_at, .int h0_from, .int h0_wrong, .int h0_wrongAt, .ref h0_ownLetters, .ref h0_flats, .int h0_isLaid, .ref h0_corner, .ref h0_wayX, .ref h0_wayY, .ref h0_normal, .ref h0_low, .ref h0_high, .ref h0_clear, .ref h0_ways, .ref h0_canBe, .ref h0_lain, .int h0_canTool, .ref h0_fewestBy, .ref h0_sortOf, .int h0_rows, .ref h0_seenFlange, .ref h0_seenLength])), (h0_told, .inl (g.2.1.1, 103, .inl f_h0_told))] := hD
    refine lv_if_eq (tgt := 33) hx hb dX9_letter_14 (by decide) (fun c9 => ?_) (fun c9 => ?_)
    · skip
      have c9i : r5.toInt = (0 : Int) := (zc_eq (rfl : r5.toInt = _) (show (0 : Int32).toInt = (0 : Int) from by decide)).mp c9
      refine lv_iconst (v := (-1)) hx hb dX9_letter_33 (by decide) ?_
      exact hret (-1 : Int32) () (Nat.le_of_ble_eq_true rfl) (Nat.le_of_ble_eq_true rfl) rfl trivial hP hD hS dX9_letter_34
    · skip
      have c9i : ¬ (r5.toInt = (0 : Int)) := fun q => c9 ((zc_eq (rfl : r5.toInt = _) (show (0 : Int32).toInt = (0 : Int) from by decide)).mpr q)
      refine lv_aload_n hx hb dX9_letter_17 rfl (lv_at hl 0 rfl) ?_
      refine va_get (D := g.1) (ci := 9) (v := .ref h0_told) (C := RX9) (T := TX9) (N := 37) hx hb hG iX9 hown hX.1 hP 0 rfl rfl 0 (by decide) (hG _ wf_X9_7) (fun _ h9 => h9) rfl dX9_letter_18 ?_
      refine lv_bipush (v := 67) hx hb dX9_letter_21 (by decide) ?_
      refine lv_iconst (v := 4) hx hb dX9_letter_23 (by decide) ?_
      refine lv_iload_n hx hb dX9_letter_24 rfl (lv_at hl 1 rfl) ?_
      refine lv_imul hx hb dX9_letter_25 ?_
      refine lv_topi (fun z10 e11 => ?_)
      have f12 : z10.toInt = (4 : Int) * x1.toInt := zm e11 (show (4 : Int32).toInt = (4 : Int) from by decide) (rfl : x1.toInt = _) (om_343 c4i hq2 hq3)
      refine lv_iadd hx hb dX9_letter_26 ?_
      refine lv_topi (fun z13 e14 => ?_)
      have f15 : z13.toInt = (67 : Int) + z10.toInt := za e14 (show (67 : Int32).toInt = (67 : Int) from by decide) (rfl : z10.toInt = _) (om_344 (zr z10) c4i f12 hq2 hq3)
      refine lv_iload_n hx hb dX9_letter_27 rfl (lv_at hl 2 rfl) ?_
      refine lv_iadd hx hb dX9_letter_28 ?_
      refine lv_topi (fun z16 e17 => ?_)
      have f18 : z16.toInt = z13.toInt + x2.toInt := za e17 (rfl : z13.toInt = _) (rfl : x2.toInt = _) (om_345 c4i c9i f12 f15 hq2 hq3 hq6 hq7)
      refine va_iald hx hb hX.1 hP 1 0 rfl rfl (zin (rfl : z16.toInt = _) (om_346 c4i c9i f12 f15 f18 hq2 hq3 hq6 hq7)) dX9_letter_29 ?_
      refine lv_topi (fun z19 e20 => ?_)
      have f21 : (¬ z16.toInt = 3 ∨ (0 ≤ z19.toInt ∧ z19.toInt ≤ 9)) ∧ (¬ z16.toInt = 4 ∨ (0 ≤ z19.toInt ∧ z19.toInt ≤ 8)) ∧ (¬ (13 ≤ z16.toInt ∧ z16.toInt ≤ 21) ∨ (0 ≤ z19.toInt ∧ z19.toInt ≤ 8 ∧ (z19.toInt = 0 ∨ z19.toInt < z16.toInt - 13))) ∧ (¬ (22 ≤ z16.toInt ∧ z16.toInt ≤ 30) ∨ (0 ≤ z19.toInt ∧ z19.toInt ≤ 3)) ∧ (¬ (58 ≤ z16.toInt ∧ z16.toInt ≤ 66) ∨ (0 ≤ z19.toInt ∧ z19.toInt ≤ 9)) ∧ (¬ (67 ≤ z16.toInt ∧ z16.toInt ≤ 70) ∨ (z19.toInt = 0)) := hy12.at e20 (rfl : z16.toInt = _) (om_347 c4i c9i f12 f15 f18 hq2 hq3 hq6 hq7)
      refine lv_goto (tgt := 34) hx hb dX9_letter_30 (by decide) ?_
      exact hret z19 () (Nat.le_of_ble_eq_true rfl) (Nat.le_of_ble_eq_true rfl) rfl trivial hP hD hS dX9_letter_34
theorem dX9_allowanceOf_0 : decode cX9_allowanceOf 0 = .ok (.aload_n 0, 1) := by decide +kernel
theorem dX9_allowanceOf_1 : decode cX9_allowanceOf 1 = .ok (.getfield 16, 3) := by decide +kernel
theorem dX9_allowanceOf_4 : decode cX9_allowanceOf 4 = .ok (.bipush 11, 2) := by decide +kernel
theorem dX9_allowanceOf_6 : decode cX9_allowanceOf 6 = .ok (.iload_n 1, 1) := by decide +kernel
theorem dX9_allowanceOf_7 : decode cX9_allowanceOf 7 = .ok (.iadd, 1) := by decide +kernel
theorem dX9_allowanceOf_8 : decode cX9_allowanceOf 8 = .ok (.iaload, 1) := by decide +kernel
theorem dX9_allowanceOf_9 : decode cX9_allowanceOf 9 = .ok (.iconst (-1), 1) := by decide +kernel
theorem dX9_allowanceOf_10 : decode cX9_allowanceOf 10 = .ok (.if_icmp .eq 15, 3) := by decide +kernel
theorem dX9_allowanceOf_25 : decode cX9_allowanceOf 25 = .ok (.bipush 11, 2) := by decide +kernel
theorem dX9_allowanceOf_27 : decode cX9_allowanceOf 27 = .ok (.iconst 2, 1) := by decide +kernel
theorem dX9_allowanceOf_28 : decode cX9_allowanceOf 28 = .ok (.iload_n 1, 1) := by decide +kernel
theorem dX9_allowanceOf_29 : decode cX9_allowanceOf 29 = .ok (.imul, 1) := by decide +kernel
theorem dX9_allowanceOf_30 : decode cX9_allowanceOf 30 = .ok (.aload_n 0, 1) := by decide +kernel
theorem dX9_allowanceOf_31 : decode cX9_allowanceOf 31 = .ok (.getfield 7, 3) := by decide +kernel
theorem dX9_allowanceOf_34 : decode cX9_allowanceOf 34 = .ok (.iconst 0, 1) := by decide +kernel
theorem dX9_allowanceOf_35 : decode cX9_allowanceOf 35 = .ok (.iaload, 1) := by decide +kernel
theorem dX9_allowanceOf_36 : decode cX9_allowanceOf 36 = .ok (.iadd, 1) := by decide +kernel
theorem dX9_allowanceOf_37 : decode cX9_allowanceOf 37 = .ok (.imul, 1) := by decide +kernel
theorem dX9_allowanceOf_38 : decode cX9_allowanceOf 38 = .ok (.bipush 14, 2) := by decide +kernel
theorem dX9_allowanceOf_40 : decode cX9_allowanceOf 40 = .ok (.idiv, 1) := by decide +kernel
theorem dX9_allowanceOf_41 : decode cX9_allowanceOf 41 = .ok (.ireturn, 1) := by decide +kernel
theorem dX9_allowanceOf_13 : decode cX9_allowanceOf 13 = .ok (.aload_n 0, 1) := by decide +kernel
theorem dX9_allowanceOf_14 : decode cX9_allowanceOf 14 = .ok (.getfield 16, 3) := by decide +kernel
theorem dX9_allowanceOf_17 : decode cX9_allowanceOf 17 = .ok (.bipush 11, 2) := by decide +kernel
theorem dX9_allowanceOf_19 : decode cX9_allowanceOf 19 = .ok (.iload_n 1, 1) := by decide +kernel
theorem dX9_allowanceOf_20 : decode cX9_allowanceOf 20 = .ok (.iadd, 1) := by decide +kernel
theorem dX9_allowanceOf_21 : decode cX9_allowanceOf 21 = .ok (.iaload, 1) := by decide +kernel
theorem dX9_allowanceOf_22 : decode cX9_allowanceOf 22 = .ok (.goto 19, 3) := by decide +kernel
abbrev rm_kX9_allowanceOf : Room := { frames := 0, cells := 0, slots := 0, locals := 0 }
set_option maxHeartbeats 4000000 in
set_option maxRecDepth 100000 in
theorem kX9_allowanceOf (l : Launch) (g : zL) (h0 : Nat) (x1 : Int32) (h0_told : Nat) (h0_read : Nat) (h0_now : Nat) (h0_readNow : Nat) (h0_kept : Nat) (h0_undone : Int32) (h0_seed : Int32) (h0_hasPart : Int32) (h0_tape : Nat) (h0_taped : Int32) (h0_refused : Nat) (h0_faultKind : Int32) (h0_faultPlace : Int32) (h0_size : Int32) (h0_at : Int32) (h0_from : Int32) (h0_wrong : Int32) (h0_wrongAt : Int32) (h0_ownLetters : Nat) (h0_flats : Nat) (h0_isLaid : Int32) (h0_corner : Nat) (h0_wayX : Nat) (h0_wayY : Nat) (h0_normal : Nat) (h0_low : Nat) (h0_high : Nat) (h0_clear : Nat) (h0_ways : Nat) (h0_canBe : Nat) (h0_lain : Nat) (h0_canTool : Int32) (h0_fewestBy : Nat) (h0_sortOf : Nat) (h0_rows : Int32) (h0_seenFlange : Nat) (h0_seenLength : Nat) (f_h0_now : Nat → Int32) (h0_now_0 : Int32) (f_h0_told : Nat → Int32) (h0_told_3 : Int32) (h0_told_4 : Int32) (hy0 : 0 ≤ x1.toInt ∧ x1.toInt ≤ 9) (hy1 : 0 ≤ h0_undone.toInt ∧ h0_undone.toInt ≤ 20) (hy2 : 0 ≤ h0_seed.toInt ∧ h0_seed.toInt ≤ 2147483647) (hy3 : 0 ≤ h0_hasPart.toInt ∧ h0_hasPart.toInt ≤ 1) (hy4 : 0 ≤ h0_taped.toInt ∧ h0_taped.toInt ≤ 1200) (hy5 : 0 ≤ h0_faultKind.toInt ∧ h0_faultKind.toInt ≤ 5) (hy6 : 0 ≤ h0_size.toInt ∧ h0_size.toInt ≤ 1200) (hy7 : 0 ≤ h0_at.toInt ∧ h0_at.toInt ≤ 1200) (hy8 : 0 ≤ h0_from.toInt ∧ h0_from.toInt ≤ 1200) (hy9 : 0 ≤ h0_wrong.toInt ∧ h0_wrong.toInt ≤ 5) (hy10 : 0 ≤ h0_isLaid.toInt ∧ h0_isLaid.toInt ≤ 1) (hy11 : 0 ≤ h0_canTool.toInt ∧ h0_canTool.toInt ≤ 255) (hy12 : 0 ≤ h0_rows.toInt ∧ h0_rows.toInt ≤ 8) (hy13 : pW nB f_h0_now) (hy14 : 0 ≤ h0_now_0.toInt ∧ h0_now_0.toInt ≤ 255) (hy15 : cEq f_h0_now 0 h0_now_0) (hy16 : pW mB f_h0_told) (hy17 : 0 ≤ h0_told_3.toInt ∧ h0_told_3.toInt ≤ 9) (hy18 : cEq f_h0_told 3 h0_told_3) (hy19 : 0 ≤ h0_told_4.toInt ∧ h0_told_4.toInt ≤ 8) (hy20 : cEq f_h0_told 4 h0_told_4) (hy21 : ((h0_hasPart.toInt = 0 ∧ h0_told_3.toInt = 0) ∨ (h0_hasPart.toInt = 1 ∧ 1 ≤ h0_told_3.toInt))) : zCi l g yX9_allowanceOf cX9_allowanceOf 2 (some .int) rm_kX9_allowanceOf [.ref h0, .int x1] [(h0, .inr (9, [.ref h0_told, .ref h0_read, .ref h0_now, .ref h0_readNow, .ref h0_kept, .int h0_undone, .int h0_seed, .int h0_hasPart, .ref h0_tape, .int h0_taped, .ref h0_refused, .int h0_faultKind, .int h0_faultPlace, .int h0_size, .int h0_at, .int h0_from, .int h0_wrong, .int h0_wrongAt, .ref h0_ownLetters, .ref h0_flats, .int h0_isLaid, .ref h0_corner, .ref h0_wayX, .ref h0_wayY, .ref h0_normal, .ref h0_low, .ref h0_high, .ref h0_clear, .ref h0_ways, .ref h0_canBe, .ref h0_lain, .int h0_canTool, .ref h0_fewestBy, .ref h0_sortOf, .int h0_rows, .ref h0_seenFlange, .ref h0_seenLength])), (h0_now, .inl (g.2.1.1, 21, .inl f_h0_now)), (h0_told, .inl (g.2.1.1, 103, .inl f_h0_told))] (fun (r : Int32) (u : Unit) => True) (fun (u : Unit) => [(h0, .inr (9, [.ref h0_told, .ref h0_read, .ref h0_now, .ref h0_readNow, .ref h0_kept, .int h0_undone, .int h0_seed, .int h0_hasPart, .ref h0_tape, .int h0_taped, .ref h0_refused, .int h0_faultKind, .int h0_faultPlace, .int h0_size, .int h0_at, .int h0_from, .int h0_wrong, .int h0_wrongAt, .ref h0_ownLetters, .ref h0_flats, .int h0_isLaid, .ref h0_corner, .ref h0_wayX, .ref h0_wayY, .ref h0_normal, .ref h0_low, .ref h0_high, .ref h0_clear, .ref h0_ways, .ref h0_canBe, .ref h0_lain, .int h0_canTool, .ref h0_fewestBy, .ref h0_sortOf, .int h0_rows, .ref h0_seenFlange, .ref h0_seenLength])), (h0_now, .inl (g.2.1.1, 21, .inl f_h0_now)), (h0_told, .inl (g.2.1.1, 103, .inl f_h0_told))]) := by
  refine zCi.mk2 (by decide) (Nat.le_of_ble_eq_true rfl) ?_
  intro p e s m below meth c A args Q hE hret hP hD hS ls hl
  obtain ⟨hx, hb, hr, hml, hown, hG, hlocks, hnm, hX, hA⟩ := hE
  have hown : s.vm.findClass RX9 = some m.cls := hown
  have hl : lv_has ls 2 [(0, .ref h0), (1, .int x1)] := hl
  refine lv_aload_n hx hb dX9_allowanceOf_0 rfl (lv_at hl 0 rfl) ?_
  refine va_get (D := g.1) (ci := 9) (v := .ref h0_now) (C := RX9) (T := TX9) (N := 37) hx hb hG iX9 hown hX.1 hP 0 rfl rfl 2 (by decide) (hG _ wf_X9_16) (fun _ h9 => h9) rfl dX9_allowanceOf_1 ?_
  refine lv_bipush (v := 11) hx hb dX9_allowanceOf_4 (by decide) ?_
  refine lv_iload_n hx hb dX9_allowanceOf_6 rfl (lv_at hl 1 rfl) ?_
  refine lv_iadd hx hb dX9_allowanceOf_7 ?_
  refine lv_topi (fun z1 e2 => ?_)
  have f3 : z1.toInt = (11 : Int) + x1.toInt := za e2 (show (11 : Int32).toInt = (11 : Int) from by decide) (rfl : x1.toInt = _) (om_348 hy0)
  refine va_iald hx hb hX.1 hP 1 0 rfl rfl (zin (rfl : z1.toInt = _) (om_349 f3 hy0)) dX9_allowanceOf_8 ?_
  refine lv_topi (fun z4 e5 => ?_)
  refine lv_iconst (v := (-1)) hx hb dX9_allowanceOf_9 (by decide) ?_
  refine lv_icmp_eq (tgt := 25) hx hb dX9_allowanceOf_10 (by decide) (fun c6 => ?_) (fun c6 => ?_)
  · skip
    have c6i : z4.toInt = (-1 : Int) := (zc_eq (rfl : z4.toInt = _) (show (-1 : Int32).toInt = (-1 : Int) from by decide)).mp c6
    refine lv_bipush (v := 11) hx hb dX9_allowanceOf_25 (by decide) ?_
    refine lv_iconst (v := 2) hx hb dX9_allowanceOf_27 (by decide) ?_
    refine lv_iload_n hx hb dX9_allowanceOf_28 rfl (lv_at hl 1 rfl) ?_
    refine lv_imul hx hb dX9_allowanceOf_29 ?_
    refine lv_topi (fun z7 e8 => ?_)
    have f9 : z7.toInt = (2 : Int) * x1.toInt := zm e8 (show (2 : Int32).toInt = (2 : Int) from by decide) (rfl : x1.toInt = _) (om_351 hy0)
    refine lv_aload_n hx hb dX9_allowanceOf_30 rfl (lv_at hl 0 rfl) ?_
    refine va_get (D := g.1) (ci := 9) (v := .ref h0_told) (C := RX9) (T := TX9) (N := 37) hx hb hG iX9 hown hX.1 hP 0 rfl rfl 0 (by decide) (hG _ wf_X9_7) (fun _ h9 => h9) rfl dX9_allowanceOf_31 ?_
    refine lv_iconst (v := 0) hx hb dX9_allowanceOf_34 (by decide) ?_
    refine va_iald hx hb hX.1 hP 2 0 rfl rfl (zin (show (0 : Int32).toInt = (0 : Int) from by decide) ((show 0 ≤ (0 : Int) ∧ (0 : Int) < 103 from by decide))) dX9_allowanceOf_35 ?_
    refine lv_topi (fun z10 e11 => ?_)
    refine lv_iadd hx hb dX9_allowanceOf_36 ?_
    refine lv_topi (fun z12 e13 => ?_)
    refine lv_imul hx hb dX9_allowanceOf_37 ?_
    refine lv_topi (fun z14 e15 => ?_)
    refine lv_bipush (v := 14) hx hb dX9_allowanceOf_38 (by decide) ?_
    refine lv_idiv hx hb dX9_allowanceOf_40 (zne0 (show (14 : Int32).toInt = (14 : Int) from by decide) ((show ¬ (14 : Int) = 0 from by decide))) ?_
    refine lv_topi (fun z16 e17 => ?_)
    exact hret z16 () (Nat.le_of_ble_eq_true rfl) (Nat.le_of_ble_eq_true rfl) rfl trivial hP hD hS dX9_allowanceOf_41
  · skip
    have c6i : ¬ (z4.toInt = (-1 : Int)) := fun q => c6 ((zc_eq (rfl : z4.toInt = _) (show (-1 : Int32).toInt = (-1 : Int) from by decide)).mpr q)
    refine lv_aload_n hx hb dX9_allowanceOf_13 rfl (lv_at hl 0 rfl) ?_
    refine va_get (D := g.1) (ci := 9) (v := .ref h0_now) (C := RX9) (T := TX9) (N := 37) hx hb hG iX9 hown hX.1 hP 0 rfl rfl 2 (by decide) (hG _ wf_X9_16) (fun _ h9 => h9) rfl dX9_allowanceOf_14 ?_
    refine lv_bipush (v := 11) hx hb dX9_allowanceOf_17 (by decide) ?_
    refine lv_iload_n hx hb dX9_allowanceOf_19 rfl (lv_at hl 1 rfl) ?_
    refine lv_iadd hx hb dX9_allowanceOf_20 ?_
    refine lv_topi (fun z18 e19 => ?_)
    have f20 : z18.toInt = (11 : Int) + x1.toInt := za e19 (show (11 : Int32).toInt = (11 : Int) from by decide) (rfl : x1.toInt = _) (om_348 hy0)
    refine va_iald hx hb hX.1 hP 1 0 rfl rfl (zin (rfl : z18.toInt = _) (om_349 f20 hy0)) dX9_allowanceOf_21 ?_
    refine lv_topi (fun z21 e22 => ?_)
    refine lv_goto (tgt := 41) hx hb dX9_allowanceOf_22 (by decide) ?_
    exact hret z21 () (Nat.le_of_ble_eq_true rfl) (Nat.le_of_ble_eq_true rfl) rfl trivial hP hD hS dX9_allowanceOf_41
theorem dX9_lengthOf_0 : decode cX9_lengthOf 0 = .ok (.iconst 0, 1) := by decide +kernel
theorem dX9_lengthOf_1 : decode cX9_lengthOf 1 = .ok (.istore_n 2, 1) := by decide +kernel
theorem dX9_lengthOf_2 : decode cX9_lengthOf 2 = .ok (.iload_n 1, 1) := by decide +kernel
theorem dX9_lengthOf_3 : decode cX9_lengthOf 3 = .ok (.istore_n 3, 1) := by decide +kernel
theorem dX9_lengthOf_4 : decode cX9_lengthOf 4 = .ok (.iload_n 3, 1) := by decide +kernel
theorem dX9_lengthOf_5 : decode cX9_lengthOf 5 = .ok (.ifCond .le 42, 3) := by decide +kernel
theorem dX9_lengthOf_47 : decode cX9_lengthOf 47 = .ok (.iload_n 2, 1) := by decide +kernel
theorem dX9_lengthOf_48 : decode cX9_lengthOf 48 = .ok (.ireturn, 1) := by decide +kernel
theorem dX9_lengthOf_8 : decode cX9_lengthOf 8 = .ok (.iload_n 2, 1) := by decide +kernel
theorem dX9_lengthOf_9 : decode cX9_lengthOf 9 = .ok (.aload_n 0, 1) := by decide +kernel
theorem dX9_lengthOf_10 : decode cX9_lengthOf 10 = .ok (.getfield 7, 3) := by decide +kernel
theorem dX9_lengthOf_13 : decode cX9_lengthOf 13 = .ok (.bipush 49, 2) := by decide +kernel
theorem dX9_lengthOf_15 : decode cX9_lengthOf 15 = .ok (.iload_n 3, 1) := by decide +kernel
theorem dX9_lengthOf_16 : decode cX9_lengthOf 16 = .ok (.iadd, 1) := by decide +kernel
theorem dX9_lengthOf_17 : decode cX9_lengthOf 17 = .ok (.iaload, 1) := by decide +kernel
theorem dX9_lengthOf_18 : decode cX9_lengthOf 18 = .ok (.aload_n 0, 1) := by decide +kernel
theorem dX9_lengthOf_19 : decode cX9_lengthOf 19 = .ok (.aload_n 0, 1) := by decide +kernel
theorem dX9_lengthOf_20 : decode cX9_lengthOf 20 = .ok (.getfield 7, 3) := by decide +kernel
theorem dX9_lengthOf_23 : decode cX9_lengthOf 23 = .ok (.bipush 58, 2) := by decide +kernel
theorem dX9_lengthOf_25 : decode cX9_lengthOf 25 = .ok (.iload_n 3, 1) := by decide +kernel
theorem dX9_lengthOf_26 : decode cX9_lengthOf 26 = .ok (.iadd, 1) := by decide +kernel
theorem dX9_lengthOf_27 : decode cX9_lengthOf 27 = .ok (.iaload, 1) := by decide +kernel
theorem dX9_lengthOf_28 : decode cX9_lengthOf 28 = .ok (.invokevirtual 232, 3) := by decide +kernel
theorem dX9_lengthOf_31 : decode cX9_lengthOf 31 = .ok (.iadd, 1) := by decide +kernel
theorem dX9_lengthOf_32 : decode cX9_lengthOf 32 = .ok (.iadd, 1) := by decide +kernel
theorem dX9_lengthOf_33 : decode cX9_lengthOf 33 = .ok (.istore_n 2, 1) := by decide +kernel
theorem dX9_lengthOf_34 : decode cX9_lengthOf 34 = .ok (.aload_n 0, 1) := by decide +kernel
theorem dX9_lengthOf_35 : decode cX9_lengthOf 35 = .ok (.getfield 7, 3) := by decide +kernel
theorem dX9_lengthOf_38 : decode cX9_lengthOf 38 = .ok (.bipush 13, 2) := by decide +kernel
theorem dX9_lengthOf_40 : decode cX9_lengthOf 40 = .ok (.iload_n 3, 1) := by decide +kernel
theorem dX9_lengthOf_41 : decode cX9_lengthOf 41 = .ok (.iadd, 1) := by decide +kernel
theorem dX9_lengthOf_42 : decode cX9_lengthOf 42 = .ok (.iaload, 1) := by decide +kernel
theorem dX9_lengthOf_43 : decode cX9_lengthOf 43 = .ok (.istore_n 3, 1) := by decide +kernel
theorem dX9_lengthOf_44 : decode cX9_lengthOf 44 = .ok (.goto (-40), 3) := by decide +kernel
abbrev rm_kX9_lengthOf : Room := { frames := 1, cells := 0, slots := 0, locals := 21 }
set_option maxHeartbeats 4000000 in
set_option maxRecDepth 100000 in
theorem kX9_lengthOf (l : Launch) (g : zL) (h0 : Nat) (x1 : Int32) (h0_told : Nat) (h0_read : Nat) (h0_now : Nat) (h0_readNow : Nat) (h0_kept : Nat) (h0_undone : Int32) (h0_seed : Int32) (h0_hasPart : Int32) (h0_tape : Nat) (h0_taped : Int32) (h0_refused : Nat) (h0_faultKind : Int32) (h0_faultPlace : Int32) (h0_size : Int32) (h0_at : Int32) (h0_from : Int32) (h0_wrong : Int32) (h0_wrongAt : Int32) (h0_ownLetters : Nat) (h0_flats : Nat) (h0_isLaid : Int32) (h0_corner : Nat) (h0_wayX : Nat) (h0_wayY : Nat) (h0_normal : Nat) (h0_low : Nat) (h0_high : Nat) (h0_clear : Nat) (h0_ways : Nat) (h0_canBe : Nat) (h0_lain : Nat) (h0_canTool : Int32) (h0_fewestBy : Nat) (h0_sortOf : Nat) (h0_rows : Int32) (h0_seenFlange : Nat) (h0_seenLength : Nat) (f_h0_told : Nat → Int32) (h0_told_3 : Int32) (h0_told_4 : Int32) (f_h0_now : Nat → Int32) (h0_now_0 : Int32) (hy0 : 0 ≤ x1.toInt ∧ x1.toInt ≤ 8) (hy1 : 0 ≤ h0_undone.toInt ∧ h0_undone.toInt ≤ 20) (hy2 : 0 ≤ h0_seed.toInt ∧ h0_seed.toInt ≤ 2147483647) (hy3 : 0 ≤ h0_hasPart.toInt ∧ h0_hasPart.toInt ≤ 1) (hy4 : 0 ≤ h0_taped.toInt ∧ h0_taped.toInt ≤ 1200) (hy5 : 0 ≤ h0_faultKind.toInt ∧ h0_faultKind.toInt ≤ 5) (hy6 : 0 ≤ h0_size.toInt ∧ h0_size.toInt ≤ 1200) (hy7 : 0 ≤ h0_at.toInt ∧ h0_at.toInt ≤ 1200) (hy8 : 0 ≤ h0_from.toInt ∧ h0_from.toInt ≤ 1200) (hy9 : 0 ≤ h0_wrong.toInt ∧ h0_wrong.toInt ≤ 5) (hy10 : 0 ≤ h0_isLaid.toInt ∧ h0_isLaid.toInt ≤ 1) (hy11 : 0 ≤ h0_canTool.toInt ∧ h0_canTool.toInt ≤ 255) (hy12 : 0 ≤ h0_rows.toInt ∧ h0_rows.toInt ≤ 8) (hy13 : pW mB f_h0_told) (hy14 : 0 ≤ h0_told_3.toInt ∧ h0_told_3.toInt ≤ 9) (hy15 : cEq f_h0_told 3 h0_told_3) (hy16 : 0 ≤ h0_told_4.toInt ∧ h0_told_4.toInt ≤ 8) (hy17 : cEq f_h0_told 4 h0_told_4) (hy18 : pW nB f_h0_now) (hy19 : 0 ≤ h0_now_0.toInt ∧ h0_now_0.toInt ≤ 255) (hy20 : cEq f_h0_now 0 h0_now_0) (hy21 : ((h0_hasPart.toInt = 0 ∧ h0_told_3.toInt = 0) ∨ (h0_hasPart.toInt = 1 ∧ 1 ≤ h0_told_3.toInt))) : zCi l g yX9_lengthOf cX9_lengthOf 4 (some .int) rm_kX9_lengthOf [.ref h0, .int x1] [(h0, .inr (9, [.ref h0_told, .ref h0_read, .ref h0_now, .ref h0_readNow, .ref h0_kept, .int h0_undone, .int h0_seed, .int h0_hasPart, .ref h0_tape, .int h0_taped, .ref h0_refused, .int h0_faultKind, .int h0_faultPlace, .int h0_size, .int h0_at, .int h0_from, .int h0_wrong, .int h0_wrongAt, .ref h0_ownLetters, .ref h0_flats, .int h0_isLaid, .ref h0_corner, .ref h0_wayX, .ref h0_wayY, .ref h0_normal, .ref h0_low, .ref h0_high, .ref h0_clear, .ref h0_ways, .ref h0_canBe, .ref h0_lain, .int h0_canTool, .ref h0_fewestBy, .ref h0_sortOf, .int h0_rows, .ref h0_seenFlange, .ref h0_seenLength])), (h0_told, .inl (g.2.1.1, 103, .inl f_h0_told)), (h0_now, .inl (g.2.1.1, 21, .inl f_h0_now))] (fun (r : Int32) (u : Unit) => True) (fun (u : Unit) => [(h0, .inr (9, [.ref h0_told, .ref h0_read, .ref h0_now, .ref h0_readNow, .ref h0_kept, .int h0_undone, .int h0_seed, .int h0_hasPart, .ref h0_tape, .int h0_taped, .ref h0_refused, .int h0_faultKind, .int h0_faultPlace, .int h0_size, .int h0_at, .int h0_from, .int h0_wrong, .int h0_wrongAt, .ref h0_ownLetters, .ref h0_flats, .int h0_isLaid, .ref h0_corner, .ref h0_wayX, .ref h0_wayY, .ref h0_normal, .ref h0_low, .ref h0_high, .ref h0_clear, .ref h0_ways, .ref h0_canBe, .ref h0_lain, .int h0_canTool, .ref h0_fewestBy, .ref h0_sortOf, .int h0_rows, .ref h0_seenFlange, .ref h0_seenLength])), (h0_told, .inl (g.2.1.1, 103, .inl f_h0_told)), (h0_now, .inl (g.2.1.1, 21, .inl f_h0_now))]) := by
  refine zCi.mk2 (by decide) (Nat.le_of_ble_eq_true rfl) ?_
  intro p e s m below meth c A args Q hE hret hP hD hS ls hl
  obtain ⟨hx, hb, hr, hml, hown, hG, hlocks, hnm, hX, hA⟩ := hE
  have hown : s.vm.findClass RX9 = some m.cls := hown
  have hl : lv_has ls 4 [(0, .ref h0), (1, .int x1)] := hl
  refine lv_iconst (v := 0) hx hb dX9_lengthOf_0 (by decide) ?_
  refine lv_istore_n (lv' := [(2, .int 0), (0, .ref h0), (1, .int x1)]) hx hb dX9_lengthOf_1 rfl hl (by decide) rfl (fun ls hl => ?_)
  refine lv_iload_n hx hb dX9_lengthOf_2 rfl (lv_at hl 2 rfl) ?_
  refine lv_istore_n (lv' := [(3, .int x1), (2, .int 0), (0, .ref h0), (1, .int x1)]) hx hb dX9_lengthOf_3 rfl hl (by decide) rfl (fun ls hl => ?_)
  have L77 : ∀ (n : Nat) (v51 : Int32) (v52 : Int32) (H : Heap) (locs : List Loc) (ls : Array Slot), 0 ≤ v52.toInt ∧ v52.toInt ≤ 8 → (v52.toInt).toNat < n → va_P g.1 vwCl [(h0, .inr (9, [.ref h0_told, .ref h0_read, .ref h0_now, .ref h0_readNow, .ref h0_kept, .int h0_undone, .int h0_seed, .int h0_hasPart, .ref h0_tape, .int h0_taped, .ref h0_refused, .int h0_faultKind, .int h0_faultPlace, .int h0_size, .int h0_at, .int h0_from, .int h0_wrong, .int h0_wrongAt, .ref h0_ownLetters, .ref h0_flats, .int h0_isLaid, .ref h0_corner, .ref h0_wayX, .ref h0_wayY, .ref h0_normal, .ref h0_low, .ref h0_high, .ref h0_clear, .ref h0_ways, .ref h0_canBe, .ref h0_lain, .int h0_canTool, .ref h0_fewestBy, .ref h0_sortOf, .int h0_rows, .ref h0_seenFlange, .ref h0_seenLength])), (h0_told, .inl (g.2.1.1, 103, .inl f_h0_told)), (h0_now, .inl (g.2.1.1, 21, .inl f_h0_now))] H → va_D A [(h0, .inr (9, [.ref h0_told, .ref h0_read, .ref h0_now, .ref h0_readNow, .ref h0_kept, .int h0_undone, .int h0_seed, .int h0_hasPart, .ref h0_tape, .int h0_taped, .ref h0_refused, .int h0_faultKind, .int h0_faultPlace, .int h0_size, .int h0_at, .int h0_from, .int h0_wrong, .int h0_wrongAt, .ref h0_ownLetters, .ref h0_flats, .int h0_isLaid, .ref h0_corner, .ref h0_wayX, .ref h0_wayY, .ref h0_normal, .ref h0_low, .ref h0_high, .ref h0_clear, .ref h0_ways, .ref h0_canBe, .ref h0_lain, .int h0_canTool, .ref h0_fewestBy, .ref h0_sortOf, .int h0_rows, .ref h0_seenFlange, .ref h0_seenLength])), (h0_told, .inl (g.2.1.1, 103, .inl f_h0_told)), (h0_now, .inl (g.2.1.1, 21, .inl f_h0_now))] → va_S A s.heap H locs → lv_has ls 4 [(0, .ref h0), (1, .int x1), (2, .int v51), (3, .int v52)] → W p l e rm_kX9_lengthOf s m args below meth c H locs 0 0 Q (F0 m 4 ls []) := by
    intro n78
    induction n78 with
    | zero => intro v51 v52 H locs ls i80 hm81; exact absurd hm81 (Nat.not_lt_zero _)
    | succ n78 ih79 =>
      intro v51 v52 H locs ls i80 hm81 hP hD hS hl
      refine lv_iload_n hx hb dX9_lengthOf_4 rfl (lv_at hl 3 rfl) ?_
      refine lv_if_le (tgt := 47) hx hb dX9_lengthOf_5 (by decide) (fun c82 => ?_) (fun c82 => ?_)
      · skip
        have c82i : v52.toInt ≤ (0 : Int) := (zc_le (rfl : v52.toInt = _) (show (0 : Int32).toInt = (0 : Int) from by decide)).mp c82
        refine lv_iload_n hx hb dX9_lengthOf_47 rfl (lv_at hl 2 rfl) ?_
        exact hret v51 () (Nat.le_of_ble_eq_true rfl) (Nat.le_of_ble_eq_true rfl) rfl trivial hP hD hS dX9_lengthOf_48
      · skip
        have c82i : ¬ (v52.toInt ≤ (0 : Int)) := fun q => c82 ((zc_le (rfl : v52.toInt = _) (show (0 : Int32).toInt = (0 : Int) from by decide)).mpr q)
        refine lv_iload_n hx hb dX9_lengthOf_8 rfl (lv_at hl 2 rfl) ?_
        refine lv_aload_n hx hb dX9_lengthOf_9 rfl (lv_at hl 0 rfl) ?_
        refine va_get (D := g.1) (ci := 9) (v := .ref h0_told) (C := RX9) (T := TX9) (N := 37) hx hb hG iX9 hown hX.1 hP 0 rfl rfl 0 (by decide) (hG _ wf_X9_7) (fun _ h9 => h9) rfl dX9_lengthOf_10 ?_
        refine lv_bipush (v := 49) hx hb dX9_lengthOf_13 (by decide) ?_
        refine lv_iload_n hx hb dX9_lengthOf_15 rfl (lv_at hl 3 rfl) ?_
        refine lv_iadd hx hb dX9_lengthOf_16 ?_
        refine lv_topi (fun z83 e84 => ?_)
        have f85 : z83.toInt = (49 : Int) + v52.toInt := za e84 (show (49 : Int32).toInt = (49 : Int) from by decide) (rfl : v52.toInt = _) (om_352 c82i i80)
        refine va_iald hx hb hX.1 hP 1 0 rfl rfl (zin (rfl : z83.toInt = _) (om_353 c82i f85 i80)) dX9_lengthOf_17 ?_
        refine lv_topi (fun z86 e87 => ?_)
        refine lv_aload_n hx hb dX9_lengthOf_18 rfl (lv_at hl 0 rfl) ?_
        refine lv_aload_n hx hb dX9_lengthOf_19 rfl (lv_at hl 0 rfl) ?_
        refine va_get (D := g.1) (ci := 9) (v := .ref h0_told) (C := RX9) (T := TX9) (N := 37) hx hb hG iX9 hown hX.1 hP 0 rfl rfl 0 (by decide) (hG _ wf_X9_7) (fun _ h9 => h9) rfl dX9_lengthOf_20 ?_
        refine lv_bipush (v := 58) hx hb dX9_lengthOf_23 (by decide) ?_
        refine lv_iload_n hx hb dX9_lengthOf_25 rfl (lv_at hl 3 rfl) ?_
        refine lv_iadd hx hb dX9_lengthOf_26 ?_
        refine lv_topi (fun z88 e89 => ?_)
        have f90 : z88.toInt = (58 : Int) + v52.toInt := za e89 (show (58 : Int32).toInt = (58 : Int) from by decide) (rfl : v52.toInt = _) (om_354 c82i i80)
        refine va_iald hx hb hX.1 hP 1 0 rfl rfl (zin (rfl : z88.toInt = _) (om_355 c82i f90 i80)) dX9_lengthOf_27 ?_
        refine lv_topi (fun z91 e92 => ?_)
        have f93 : 0 ≤ z91.toInt ∧ z91.toInt ≤ 9 := ((hy13.at e92 (rfl : z88.toInt = _) (om_356 f90 i80)).2.2.2.2.1).resolve_left (fun q9 => q9 (om_357 c82i f90 i80))
        refine zfi (wr := []) (va_runV (As := [.int z91]) (rest := [.int z86, .int v51]) ⟨hx, hb, hml, hown, hG⟩ (kX9_allowanceOf l g h0 z91 h0_told h0_read h0_now h0_readNow h0_kept h0_undone h0_seed h0_hasPart h0_tape h0_taped h0_refused h0_faultKind h0_faultPlace h0_size h0_at h0_from h0_wrong h0_wrongAt h0_ownLetters h0_flats h0_isLaid h0_corner h0_wayX h0_wayY h0_normal h0_low h0_high h0_clear h0_ways h0_canBe h0_lain h0_canTool h0_fewestBy h0_sortOf h0_rows h0_seenFlange h0_seenLength f_h0_now h0_now_0 f_h0_told h0_told_3 h0_told_4 (om_155 f93) (om_27 hy1) (om_28 hy2) (om_29 hy3) (om_32 hy4) (om_31 hy5) (om_32 hy6) (om_32 hy7) (om_32 hy8) (om_31 hy9) (om_29 hy10) (om_13 hy11) (om_33 hy12) hy18 (om_13 hy19) hy20 hy13 (om_155 hy14) hy15 (om_33 hy16) hy17 (om_331 hy14 hy21 hy3) _) ⟨callB_of 1 hG (zGood wc_X9_allowanceOf) rfl rfl rfl (hG _ wini_X9) (hG _ wm_X9_232) hX9_allowanceOf ⟨Nat.le_of_ble_eq_true rfl, Nat.le_of_ble_eq_true rfl⟩, hG _ wi_X9_allowanceOf, hG _ wse_X9_X9_allowanceOf⟩ (zpreV (va_recv hX.1 hP (ci := 9) (q0 := 0) rfl rfl) hX hP hD hS hA [0, 2, 1] rfl (by decide)) rfl rfl hl.1 rfl (lv_room (Nat.le_of_ble_eq_true rfl)) dX9_lengthOf_28 ⟨Nat.le_of_ble_eq_true rfl, Nat.le_of_ble_eq_true rfl⟩) hP hD hS hA [0, 2, 1] [] rfl rfl (by decide) (by decide) (fun r94 _ H locs hp hP hD hS => ?_)
        refine W.cs (cells' := 0) (slots' := 0) rfl rfl ?_
        have hP : va_P g.1 vwCl [(h0, .inr (9, [.ref h0_told, .ref h0_read, .ref h0_now, .ref h0_readNow, .ref h0_kept, .int h0_undone, .int h0_seed, .int h0_hasPart, .ref h0_tape, .int h0_taped, .ref h0_refused, .int h0_faultKind, .int h0_faultPlace, .int h0_size, .int h0_at, .int h0_from, .int h0_wrong, .int h0_wrongAt, .ref h0_ownLetters, .ref h0_flats, .int h0_isLaid, .ref h0_corner, .ref h0_wayX, .ref h0_wayY, .ref h0_normal, .ref h0_low, .ref h0_high, .ref h0_clear, .ref h0_ways, .ref h0_canBe, .ref h0_lain, .int h0_canTool, .ref h0_fewestBy, .ref h0_sortOf, .int h0_rows, .ref h0_seenFlange, .ref h0_seenLength])), (h0_now, .inl (g.2.1.1, 21, .inl f_h0_now)), (h0_told, .inl (g.2.1.1, 103, .inl f_h0_told))] H := hP
        have hD : va_D A [(h0, .inr (9, [.ref h0_told, .ref h0_read, .ref h0_now, .ref h0_readNow, .ref h0_kept, .int h0_undone, .int h0_seed, .int h0_hasPart, .ref h0_tape, .int h0_taped, .ref h0_refused, .int h0_faultKind, .int h0_faultPlace, .int h0_size, .int h0_at, .int h0_from, .int h0_wrong, .int h0_wrongAt, .ref h0_ownLetters, .ref h0_flats, .int h0_isLaid, .ref h0_corner, .ref h0_wayX, .ref h0_wayY, .ref h0_normal, .ref h0_low, .ref h0_high, .ref h0_clear, .ref h0_ways, .ref h0_canBe, .ref h0_lain, .int h0_canTool, .ref h0_fewestBy, .ref h0_sortOf, .int h0_rows, .ref h0_seenFlange, .ref h0_seenLength])), (h0_now, .inl (g.2.1.1, 21, .inl f_h0_now)), (h0_told, .inl (g.2.1.1, 103, .inl f_h0_told))] := hD
        refine lv_iadd hx hb dX9_lengthOf_31 ?_
        refine lv_topi (fun z95 e96 => ?_)
        refine lv_iadd hx hb dX9_lengthOf_32 ?_
        refine lv_topi (fun z97 e98 => ?_)
        refine lv_istore_n (lv' := [(2, .int z97), (0, .ref h0), (1, .int x1), (3, .int v52)]) hx hb dX9_lengthOf_33 rfl hl (by decide) rfl (fun ls hl => ?_)
        refine lv_aload_n hx hb dX9_lengthOf_34 rfl (lv_at hl 1 rfl) ?_
        refine va_get (D := g.1) (ci := 9) (v := .ref h0_told) (C := RX9) (T := TX9) (N := 37) hx hb hG iX9 hown hX.1 hP 0 rfl rfl 0 (by decide) (hG _ wf_X9_7) (fun _ h9 => h9) rfl dX9_lengthOf_35 ?_
        refine lv_bipush (v := 13) hx hb dX9_lengthOf_38 (by decide) ?_
        refine lv_iload_n hx hb dX9_lengthOf_40 rfl (lv_at hl 3 rfl) ?_
        refine lv_iadd hx hb dX9_lengthOf_41 ?_
        refine lv_topi (fun z99 e100 => ?_)
        have f101 : z99.toInt = (13 : Int) + v52.toInt := za e100 (show (13 : Int32).toInt = (13 : Int) from by decide) (rfl : v52.toInt = _) (om_358 c82i i80)
        refine va_iald hx hb hX.1 hP 2 0 rfl rfl (zin (rfl : z99.toInt = _) (om_359 c82i f101 i80)) dX9_lengthOf_42 ?_
        refine lv_topi (fun z102 e103 => ?_)
        have f104 : 0 ≤ z102.toInt ∧ z102.toInt ≤ 8 ∧ (z102.toInt = 0 ∨ z102.toInt < z99.toInt - 13) := ((hy13.at e103 (rfl : z99.toInt = _) (om_360 f101 i80)).2.2.1).resolve_left (fun q9 => q9 (om_361 c82i f101 i80))
        refine lv_istore_n (lv' := [(3, .int z102), (2, .int z97), (0, .ref h0), (1, .int x1)]) hx hb dX9_lengthOf_43 rfl hl (by decide) rfl (fun ls hl => ?_)
        refine lv_goto (tgt := 4) hx hb dX9_lengthOf_44 (by decide) ?_
        exact ih79 z97 z102 H locs ls (om_362 f104) (zdec hm81 (om_363 c82i f101 f104)) (hP.sub [0, 2, 1] rfl) (hD.sub [0, 2, 1] (by decide) rfl) hS (lv_sub hl [2, 3, 1, 0] rfl)
  exact L77 _ (0 : Int32) x1 _ _ ls (om_33 hy0) (Nat.lt_succ_self _) hP hD hS (lv_sub hl [2, 3, 1, 0] rfl)
theorem dX9_depthOf_0 : decode cX9_depthOf 0 = .ok (.iconst (-1), 1) := by decide +kernel
theorem dX9_depthOf_1 : decode cX9_depthOf 1 = .ok (.istore_n 2, 1) := by decide +kernel
theorem dX9_depthOf_2 : decode cX9_depthOf 2 = .ok (.iload_n 1, 1) := by decide +kernel
theorem dX9_depthOf_3 : decode cX9_depthOf 3 = .ok (.istore_n 3, 1) := by decide +kernel
theorem dX9_depthOf_4 : decode cX9_depthOf 4 = .ok (.iload_n 3, 1) := by decide +kernel
theorem dX9_depthOf_5 : decode cX9_depthOf 5 = .ok (.ifCond .le 19, 3) := by decide +kernel
theorem dX9_depthOf_24 : decode cX9_depthOf 24 = .ok (.iload_n 2, 1) := by decide +kernel
theorem dX9_depthOf_25 : decode cX9_depthOf 25 = .ok (.ireturn, 1) := by decide +kernel
theorem dX9_depthOf_8 : decode cX9_depthOf 8 = .ok (.iinc 2 1, 3) := by decide +kernel
theorem dX9_depthOf_11 : decode cX9_depthOf 11 = .ok (.aload_n 0, 1) := by decide +kernel
theorem dX9_depthOf_12 : decode cX9_depthOf 12 = .ok (.getfield 7, 3) := by decide +kernel
theorem dX9_depthOf_15 : decode cX9_depthOf 15 = .ok (.bipush 13, 2) := by decide +kernel
theorem dX9_depthOf_17 : decode cX9_depthOf 17 = .ok (.iload_n 3, 1) := by decide +kernel
theorem dX9_depthOf_18 : decode cX9_depthOf 18 = .ok (.iadd, 1) := by decide +kernel
theorem dX9_depthOf_19 : decode cX9_depthOf 19 = .ok (.iaload, 1) := by decide +kernel
theorem dX9_depthOf_20 : decode cX9_depthOf 20 = .ok (.istore_n 3, 1) := by decide +kernel
theorem dX9_depthOf_21 : decode cX9_depthOf 21 = .ok (.goto (-17), 3) := by decide +kernel
abbrev rm_kX9_depthOf : Room := { frames := 0, cells := 0, slots := 0, locals := 0 }
set_option maxHeartbeats 4000000 in
set_option maxRecDepth 100000 in
theorem kX9_depthOf (l : Launch) (g : zL) (h0 : Nat) (x1 : Int32) (h0_told : Nat) (h0_read : Nat) (h0_now : Nat) (h0_readNow : Nat) (h0_kept : Nat) (h0_undone : Int32) (h0_seed : Int32) (h0_hasPart : Int32) (h0_tape : Nat) (h0_taped : Int32) (h0_refused : Nat) (h0_faultKind : Int32) (h0_faultPlace : Int32) (h0_size : Int32) (h0_at : Int32) (h0_from : Int32) (h0_wrong : Int32) (h0_wrongAt : Int32) (h0_ownLetters : Nat) (h0_flats : Nat) (h0_isLaid : Int32) (h0_corner : Nat) (h0_wayX : Nat) (h0_wayY : Nat) (h0_normal : Nat) (h0_low : Nat) (h0_high : Nat) (h0_clear : Nat) (h0_ways : Nat) (h0_canBe : Nat) (h0_lain : Nat) (h0_canTool : Int32) (h0_fewestBy : Nat) (h0_sortOf : Nat) (h0_rows : Int32) (h0_seenFlange : Nat) (h0_seenLength : Nat) (f_h0_told : Nat → Int32) (h0_told_3 : Int32) (h0_told_4 : Int32) (hy0 : 0 ≤ x1.toInt ∧ x1.toInt ≤ 8) (hy1 : 0 ≤ h0_undone.toInt ∧ h0_undone.toInt ≤ 20) (hy2 : 0 ≤ h0_seed.toInt ∧ h0_seed.toInt ≤ 2147483647) (hy3 : 0 ≤ h0_hasPart.toInt ∧ h0_hasPart.toInt ≤ 1) (hy4 : 0 ≤ h0_taped.toInt ∧ h0_taped.toInt ≤ 1200) (hy5 : 0 ≤ h0_faultKind.toInt ∧ h0_faultKind.toInt ≤ 5) (hy6 : 0 ≤ h0_size.toInt ∧ h0_size.toInt ≤ 1200) (hy7 : 0 ≤ h0_at.toInt ∧ h0_at.toInt ≤ 1200) (hy8 : 0 ≤ h0_from.toInt ∧ h0_from.toInt ≤ 1200) (hy9 : 0 ≤ h0_wrong.toInt ∧ h0_wrong.toInt ≤ 5) (hy10 : 0 ≤ h0_isLaid.toInt ∧ h0_isLaid.toInt ≤ 1) (hy11 : 0 ≤ h0_canTool.toInt ∧ h0_canTool.toInt ≤ 255) (hy12 : 0 ≤ h0_rows.toInt ∧ h0_rows.toInt ≤ 8) (hy13 : pW mB f_h0_told) (hy14 : 0 ≤ h0_told_3.toInt ∧ h0_told_3.toInt ≤ 9) (hy15 : cEq f_h0_told 3 h0_told_3) (hy16 : 0 ≤ h0_told_4.toInt ∧ h0_told_4.toInt ≤ 8) (hy17 : cEq f_h0_told 4 h0_told_4) (hy18 : ((h0_hasPart.toInt = 0 ∧ h0_told_3.toInt = 0) ∨ (h0_hasPart.toInt = 1 ∧ 1 ≤ h0_told_3.toInt))) : zCi l g yX9_depthOf cX9_depthOf 4 (some .int) rm_kX9_depthOf [.ref h0, .int x1] [(h0, .inr (9, [.ref h0_told, .ref h0_read, .ref h0_now, .ref h0_readNow, .ref h0_kept, .int h0_undone, .int h0_seed, .int h0_hasPart, .ref h0_tape, .int h0_taped, .ref h0_refused, .int h0_faultKind, .int h0_faultPlace, .int h0_size, .int h0_at, .int h0_from, .int h0_wrong, .int h0_wrongAt, .ref h0_ownLetters, .ref h0_flats, .int h0_isLaid, .ref h0_corner, .ref h0_wayX, .ref h0_wayY, .ref h0_normal, .ref h0_low, .ref h0_high, .ref h0_clear, .ref h0_ways, .ref h0_canBe, .ref h0_lain, .int h0_canTool, .ref h0_fewestBy, .ref h0_sortOf, .int h0_rows, .ref h0_seenFlange, .ref h0_seenLength])), (h0_told, .inl (g.2.1.1, 103, .inl f_h0_told))] (fun (r : Int32) (u : Unit) => True) (fun (u : Unit) => [(h0, .inr (9, [.ref h0_told, .ref h0_read, .ref h0_now, .ref h0_readNow, .ref h0_kept, .int h0_undone, .int h0_seed, .int h0_hasPart, .ref h0_tape, .int h0_taped, .ref h0_refused, .int h0_faultKind, .int h0_faultPlace, .int h0_size, .int h0_at, .int h0_from, .int h0_wrong, .int h0_wrongAt, .ref h0_ownLetters, .ref h0_flats, .int h0_isLaid, .ref h0_corner, .ref h0_wayX, .ref h0_wayY, .ref h0_normal, .ref h0_low, .ref h0_high, .ref h0_clear, .ref h0_ways, .ref h0_canBe, .ref h0_lain, .int h0_canTool, .ref h0_fewestBy, .ref h0_sortOf, .int h0_rows, .ref h0_seenFlange, .ref h0_seenLength])), (h0_told, .inl (g.2.1.1, 103, .inl f_h0_told))]) := by
  refine zCi.mk2 (by decide) (Nat.le_of_ble_eq_true rfl) ?_
  intro p e s m below meth c A args Q hE hret hP hD hS ls hl
  obtain ⟨hx, hb, hr, hml, hown, hG, hlocks, hnm, hX, hA⟩ := hE
  have hown : s.vm.findClass RX9 = some m.cls := hown
  have hl : lv_has ls 4 [(0, .ref h0), (1, .int x1)] := hl
  refine lv_iconst (v := (-1)) hx hb dX9_depthOf_0 (by decide) ?_
  refine lv_istore_n (lv' := [(2, .int (-1)), (0, .ref h0), (1, .int x1)]) hx hb dX9_depthOf_1 rfl hl (by decide) rfl (fun ls hl => ?_)
  refine lv_iload_n hx hb dX9_depthOf_2 rfl (lv_at hl 2 rfl) ?_
  refine lv_istore_n (lv' := [(3, .int x1), (2, .int (-1)), (0, .ref h0), (1, .int x1)]) hx hb dX9_depthOf_3 rfl hl (by decide) rfl (fun ls hl => ?_)
  have L101 : ∀ (n : Nat) (v89 : Int32) (v90 : Int32) (H : Heap) (locs : List Loc) (ls : Array Slot), 0 ≤ v90.toInt ∧ v90.toInt ≤ 8 → (v90.toInt).toNat < n → va_P g.1 vwCl [(h0, .inr (9, [.ref h0_told, .ref h0_read, .ref h0_now, .ref h0_readNow, .ref h0_kept, .int h0_undone, .int h0_seed, .int h0_hasPart, .ref h0_tape, .int h0_taped, .ref h0_refused, .int h0_faultKind, .int h0_faultPlace, .int h0_size, .int h0_at, .int h0_from, .int h0_wrong, .int h0_wrongAt, .ref h0_ownLetters, .ref h0_flats, .int h0_isLaid, .ref h0_corner, .ref h0_wayX, .ref h0_wayY, .ref h0_normal, .ref h0_low, .ref h0_high, .ref h0_clear, .ref h0_ways, .ref h0_canBe, .ref h0_lain, .int h0_canTool, .ref h0_fewestBy, .ref h0_sortOf, .int h0_rows, .ref h0_seenFlange, .ref h0_seenLength])), (h0_told, .inl (g.2.1.1, 103, .inl f_h0_told))] H → va_D A [(h0, .inr (9, [.ref h0_told, .ref h0_read, .ref h0_now, .ref h0_readNow, .ref h0_kept, .int h0_undone, .int h0_seed, .int h0_hasPart, .ref h0_tape, .int h0_taped, .ref h0_refused, .int h0_faultKind, .int h0_faultPlace, .int h0_size, .int h0_at, .int h0_from, .int h0_wrong, .int h0_wrongAt, .ref h0_ownLetters, .ref h0_flats, .int h0_isLaid, .ref h0_corner, .ref h0_wayX, .ref h0_wayY, .ref h0_normal, .ref h0_low, .ref h0_high, .ref h0_clear, .ref h0_ways, .ref h0_canBe, .ref h0_lain, .int h0_canTool, .ref h0_fewestBy, .ref h0_sortOf, .int h0_rows, .ref h0_seenFlange, .ref h0_seenLength])), (h0_told, .inl (g.2.1.1, 103, .inl f_h0_told))] → va_S A s.heap H locs → lv_has ls 4 [(0, .ref h0), (1, .int x1), (2, .int v89), (3, .int v90)] → W p l e rm_kX9_depthOf s m args below meth c H locs 0 0 Q (F0 m 4 ls []) := by
    intro n102
    induction n102 with
    | zero => intro v89 v90 H locs ls i104 hm105; exact absurd hm105 (Nat.not_lt_zero _)
    | succ n102 ih103 =>
      intro v89 v90 H locs ls i104 hm105 hP hD hS hl
      refine lv_iload_n hx hb dX9_depthOf_4 rfl (lv_at hl 3 rfl) ?_
      refine lv_if_le (tgt := 24) hx hb dX9_depthOf_5 (by decide) (fun c106 => ?_) (fun c106 => ?_)
      · skip
        have c106i : v90.toInt ≤ (0 : Int) := (zc_le (rfl : v90.toInt = _) (show (0 : Int32).toInt = (0 : Int) from by decide)).mp c106
        refine lv_iload_n hx hb dX9_depthOf_24 rfl (lv_at hl 2 rfl) ?_
        exact hret v89 () (Nat.le_of_ble_eq_true rfl) (Nat.le_of_ble_eq_true rfl) rfl trivial hP hD hS dX9_depthOf_25
      · skip
        have c106i : ¬ (v90.toInt ≤ (0 : Int)) := fun q => c106 ((zc_le (rfl : v90.toInt = _) (show (0 : Int32).toInt = (0 : Int) from by decide)).mpr q)
        obtain ⟨z107, e108⟩ : ∃ y9 : Int32, y9 = v89 + 1 := ⟨_, rfl⟩
        refine lv_iinc (v := z107) (lv' := [(2, .int z107), (0, .ref h0), (1, .int x1), (3, .int v90)]) hx hb dX9_depthOf_8 hl (k := 2) rfl (by rw [e108]; rfl) (by decide) rfl (fun ls hl => ?_)
        refine lv_aload_n hx hb dX9_depthOf_11 rfl (lv_at hl 1 rfl) ?_
        refine va_get (D := g.1) (ci := 9) (v := .ref h0_told) (C := RX9) (T := TX9) (N := 37) hx hb hG iX9 hown hX.1 hP 0 rfl rfl 0 (by decide) (hG _ wf_X9_7) (fun _ h9 => h9) rfl dX9_depthOf_12 ?_
        refine lv_bipush (v := 13) hx hb dX9_depthOf_15 (by decide) ?_
        refine lv_iload_n hx hb dX9_depthOf_17 rfl (lv_at hl 3 rfl) ?_
        refine lv_iadd hx hb dX9_depthOf_18 ?_
        refine lv_topi (fun z109 e110 => ?_)
        have f111 : z109.toInt = (13 : Int) + v90.toInt := za e110 (show (13 : Int32).toInt = (13 : Int) from by decide) (rfl : v90.toInt = _) (om_358 c106i i104)
        refine va_iald hx hb hX.1 hP 1 0 rfl rfl (zin (rfl : z109.toInt = _) (om_359 c106i f111 i104)) dX9_depthOf_19 ?_
        refine lv_topi (fun z112 e113 => ?_)
        have f114 : 0 ≤ z112.toInt ∧ z112.toInt ≤ 8 ∧ (z112.toInt = 0 ∨ z112.toInt < z109.toInt - 13) := ((hy13.at e113 (rfl : z109.toInt = _) (om_360 f111 i104)).2.2.1).resolve_left (fun q9 => q9 (om_361 c106i f111 i104))
        refine lv_istore_n (lv' := [(3, .int z112), (2, .int z107), (0, .ref h0), (1, .int x1)]) hx hb dX9_depthOf_20 rfl hl (by decide) rfl (fun ls hl => ?_)
        refine lv_goto (tgt := 4) hx hb dX9_depthOf_21 (by decide) ?_
        exact ih103 z107 z112 H locs ls (om_362 f114) (zdec hm105 (om_363 c106i f111 f114)) hP hD hS (lv_sub hl [2, 3, 1, 0] rfl)
  exact L101 _ (-1 : Int32) x1 _ _ ls (om_33 hy0) (Nat.lt_succ_self _) hP hD hS (lv_sub hl [2, 3, 1, 0] rfl)
theorem dX9_hangMany_0 : decode cX9_hangMany 0 = .ok (.iconst 0, 1) := by decide +kernel
theorem dX9_hangMany_1 : decode cX9_hangMany 1 = .ok (.istore_n 2, 1) := by decide +kernel
theorem dX9_hangMany_2 : decode cX9_hangMany 2 = .ok (.iconst 1, 1) := by decide +kernel
theorem dX9_hangMany_3 : decode cX9_hangMany 3 = .ok (.istore_n 3, 1) := by decide +kernel
theorem dX9_hangMany_4 : decode cX9_hangMany 4 = .ok (.iload_n 3, 1) := by decide +kernel
theorem dX9_hangMany_5 : decode cX9_hangMany 5 = .ok (.aload_n 0, 1) := by decide +kernel
theorem dX9_hangMany_6 : decode cX9_hangMany 6 = .ok (.getfield 7, 3) := by decide +kernel
theorem dX9_hangMany_9 : decode cX9_hangMany 9 = .ok (.iconst 3, 1) := by decide +kernel
theorem dX9_hangMany_10 : decode cX9_hangMany 10 = .ok (.iaload, 1) := by decide +kernel
theorem dX9_hangMany_11 : decode cX9_hangMany 11 = .ok (.if_icmp .ge 30, 3) := by decide +kernel
theorem dX9_hangMany_41 : decode cX9_hangMany 41 = .ok (.iload_n 2, 1) := by decide +kernel
theorem dX9_hangMany_42 : decode cX9_hangMany 42 = .ok (.ireturn, 1) := by decide +kernel
theorem dX9_hangMany_14 : decode cX9_hangMany 14 = .ok (.iload_n 2, 1) := by decide +kernel
theorem dX9_hangMany_15 : decode cX9_hangMany 15 = .ok (.aload_n 0, 1) := by decide +kernel
theorem dX9_hangMany_16 : decode cX9_hangMany 16 = .ok (.getfield 7, 3) := by decide +kernel
theorem dX9_hangMany_19 : decode cX9_hangMany 19 = .ok (.bipush 13, 2) := by decide +kernel
theorem dX9_hangMany_21 : decode cX9_hangMany 21 = .ok (.iload_n 3, 1) := by decide +kernel
theorem dX9_hangMany_22 : decode cX9_hangMany 22 = .ok (.iadd, 1) := by decide +kernel
theorem dX9_hangMany_23 : decode cX9_hangMany 23 = .ok (.iaload, 1) := by decide +kernel
theorem dX9_hangMany_24 : decode cX9_hangMany 24 = .ok (.iload_n 1, 1) := by decide +kernel
theorem dX9_hangMany_33 : decode cX9_hangMany 33 = .ok (.iadd, 1) := by decide +kernel
theorem dX9_hangMany_34 : decode cX9_hangMany 34 = .ok (.istore_n 2, 1) := by decide +kernel
theorem dX9_hangMany_35 : decode cX9_hangMany 35 = .ok (.iinc 3 1, 3) := by decide +kernel
theorem dX9_hangMany_38 : decode cX9_hangMany 38 = .ok (.goto (-34), 3) := by decide +kernel
theorem dX9_hangMany_25 : decode cX9_hangMany 25 = .ok (.if_icmp .ne 7, 3) := by decide +kernel
theorem dX9_hangMany_32 : decode cX9_hangMany 32 = .ok (.iconst 0, 1) := by decide +kernel
theorem dX9_hangMany_28 : decode cX9_hangMany 28 = .ok (.iconst 1, 1) := by decide +kernel
theorem dX9_hangMany_29 : decode cX9_hangMany 29 = .ok (.goto 4, 3) := by decide +kernel
abbrev rm_kX9_hangMany : Room := { frames := 0, cells := 0, slots := 0, locals := 0 }
set_option maxHeartbeats 4000000 in
set_option maxRecDepth 100000 in
theorem kX9_hangMany (l : Launch) (g : zL) (h0 : Nat) (x1 : Int32) (h0_told : Nat) (h0_read : Nat) (h0_now : Nat) (h0_readNow : Nat) (h0_kept : Nat) (h0_undone : Int32) (h0_seed : Int32) (h0_hasPart : Int32) (h0_tape : Nat) (h0_taped : Int32) (h0_refused : Nat) (h0_faultKind : Int32) (h0_faultPlace : Int32) (h0_size : Int32) (h0_at : Int32) (h0_from : Int32) (h0_wrong : Int32) (h0_wrongAt : Int32) (h0_ownLetters : Nat) (h0_flats : Nat) (h0_isLaid : Int32) (h0_corner : Nat) (h0_wayX : Nat) (h0_wayY : Nat) (h0_normal : Nat) (h0_low : Nat) (h0_high : Nat) (h0_clear : Nat) (h0_ways : Nat) (h0_canBe : Nat) (h0_lain : Nat) (h0_canTool : Int32) (h0_fewestBy : Nat) (h0_sortOf : Nat) (h0_rows : Int32) (h0_seenFlange : Nat) (h0_seenLength : Nat) (f_h0_told : Nat → Int32) (h0_told_3 : Int32) (h0_told_4 : Int32) (hy0 : 0 ≤ h0_undone.toInt ∧ h0_undone.toInt ≤ 20) (hy1 : 0 ≤ h0_seed.toInt ∧ h0_seed.toInt ≤ 2147483647) (hy2 : 0 ≤ h0_hasPart.toInt ∧ h0_hasPart.toInt ≤ 1) (hy3 : 0 ≤ h0_taped.toInt ∧ h0_taped.toInt ≤ 1200) (hy4 : 0 ≤ h0_faultKind.toInt ∧ h0_faultKind.toInt ≤ 5) (hy5 : 0 ≤ h0_size.toInt ∧ h0_size.toInt ≤ 1200) (hy6 : 0 ≤ h0_at.toInt ∧ h0_at.toInt ≤ 1200) (hy7 : 0 ≤ h0_from.toInt ∧ h0_from.toInt ≤ 1200) (hy8 : 0 ≤ h0_wrong.toInt ∧ h0_wrong.toInt ≤ 5) (hy9 : 0 ≤ h0_isLaid.toInt ∧ h0_isLaid.toInt ≤ 1) (hy10 : 0 ≤ h0_canTool.toInt ∧ h0_canTool.toInt ≤ 255) (hy11 : 0 ≤ h0_rows.toInt ∧ h0_rows.toInt ≤ 8) (hy12 : pW mB f_h0_told) (hy13 : 0 ≤ h0_told_3.toInt ∧ h0_told_3.toInt ≤ 9) (hy14 : cEq f_h0_told 3 h0_told_3) (hy15 : 0 ≤ h0_told_4.toInt ∧ h0_told_4.toInt ≤ 8) (hy16 : cEq f_h0_told 4 h0_told_4) (hy17 : ((h0_hasPart.toInt = 0 ∧ h0_told_3.toInt = 0) ∨ (h0_hasPart.toInt = 1 ∧ 1 ≤ h0_told_3.toInt))) : zCi l g yX9_hangMany cX9_hangMany 4 (some .int) rm_kX9_hangMany [.ref h0, .int x1] [(h0, .inr (9, [.ref h0_told, .ref h0_read, .ref h0_now, .ref h0_readNow, .ref h0_kept, .int h0_undone, .int h0_seed, .int h0_hasPart, .ref h0_tape, .int h0_taped, .ref h0_refused, .int h0_faultKind, .int h0_faultPlace, .int h0_size, .int h0_at, .int h0_from, .int h0_wrong, .int h0_wrongAt, .ref h0_ownLetters, .ref h0_flats, .int h0_isLaid, .ref h0_corner, .ref h0_wayX, .ref h0_wayY, .ref h0_normal, .ref h0_low, .ref h0_high, .ref h0_clear, .ref h0_ways, .ref h0_canBe, .ref h0_lain, .int h0_canTool, .ref h0_fewestBy, .ref h0_sortOf, .int h0_rows, .ref h0_seenFlange, .ref h0_seenLength])), (h0_told, .inl (g.2.1.1, 103, .inl f_h0_told))] (fun (r : Int32) (u : Unit) => True) (fun (u : Unit) => [(h0, .inr (9, [.ref h0_told, .ref h0_read, .ref h0_now, .ref h0_readNow, .ref h0_kept, .int h0_undone, .int h0_seed, .int h0_hasPart, .ref h0_tape, .int h0_taped, .ref h0_refused, .int h0_faultKind, .int h0_faultPlace, .int h0_size, .int h0_at, .int h0_from, .int h0_wrong, .int h0_wrongAt, .ref h0_ownLetters, .ref h0_flats, .int h0_isLaid, .ref h0_corner, .ref h0_wayX, .ref h0_wayY, .ref h0_normal, .ref h0_low, .ref h0_high, .ref h0_clear, .ref h0_ways, .ref h0_canBe, .ref h0_lain, .int h0_canTool, .ref h0_fewestBy, .ref h0_sortOf, .int h0_rows, .ref h0_seenFlange, .ref h0_seenLength])), (h0_told, .inl (g.2.1.1, 103, .inl f_h0_told))]) := by
  refine zCi.mk2 (by decide) (Nat.le_of_ble_eq_true rfl) ?_
  intro p e s m below meth c A args Q hE hret hP hD hS ls hl
  obtain ⟨hx, hb, hr, hml, hown, hG, hlocks, hnm, hX, hA⟩ := hE
  have hown : s.vm.findClass RX9 = some m.cls := hown
  have hl : lv_has ls 4 [(0, .ref h0), (1, .int x1)] := hl
  refine lv_iconst (v := 0) hx hb dX9_hangMany_0 (by decide) ?_
  refine lv_istore_n (lv' := [(2, .int 0), (0, .ref h0), (1, .int x1)]) hx hb dX9_hangMany_1 rfl hl (by decide) rfl (fun ls hl => ?_)
  refine lv_iconst (v := 1) hx hb dX9_hangMany_2 (by decide) ?_
  refine lv_istore_n (lv' := [(3, .int 1), (2, .int 0), (0, .ref h0), (1, .int x1)]) hx hb dX9_hangMany_3 rfl hl (by decide) rfl (fun ls hl => ?_)
  have L173 : ∀ (n : Nat) (v154 : Int32) (v155 : Int32) (H : Heap) (locs : List Loc) (ls : Array Slot), 1 ≤ v155.toInt ∧ v155.toInt ≤ 9 → (10 - v155.toInt).toNat < n → va_P g.1 vwCl [(h0, .inr (9, [.ref h0_told, .ref h0_read, .ref h0_now, .ref h0_readNow, .ref h0_kept, .int h0_undone, .int h0_seed, .int h0_hasPart, .ref h0_tape, .int h0_taped, .ref h0_refused, .int h0_faultKind, .int h0_faultPlace, .int h0_size, .int h0_at, .int h0_from, .int h0_wrong, .int h0_wrongAt, .ref h0_ownLetters, .ref h0_flats, .int h0_isLaid, .ref h0_corner, .ref h0_wayX, .ref h0_wayY, .ref h0_normal, .ref h0_low, .ref h0_high, .ref h0_clear, .ref h0_ways, .ref h0_canBe, .ref h0_lain, .int h0_canTool, .ref h0_fewestBy, .ref h0_sortOf, .int h0_rows, .ref h0_seenFlange, .ref h0_seenLength])), (h0_told, .inl (g.2.1.1, 103, .inl f_h0_told))] H → va_D A [(h0, .inr (9, [.ref h0_told, .ref h0_read, .ref h0_now, .ref h0_readNow, .ref h0_kept, .int h0_undone, .int h0_seed, .int h0_hasPart, .ref h0_tape, .int h0_taped, .ref h0_refused, .int h0_faultKind, .int h0_faultPlace, .int h0_size, .int h0_at, .int h0_from, .int h0_wrong, .int h0_wrongAt, .ref h0_ownLetters, .ref h0_flats, .int h0_isLaid, .ref h0_corner, .ref h0_wayX, .ref h0_wayY, .ref h0_normal, .ref h0_low, .ref h0_high, .ref h0_clear, .ref h0_ways, .ref h0_canBe, .ref h0_lain, .int h0_canTool, .ref h0_fewestBy, .ref h0_sortOf, .int h0_rows, .ref h0_seenFlange, .ref h0_seenLength])), (h0_told, .inl (g.2.1.1, 103, .inl f_h0_told))] → va_S A s.heap H locs → lv_has ls 4 [(0, .ref h0), (1, .int x1), (2, .int v154), (3, .int v155)] → W p l e rm_kX9_hangMany s m args below meth c H locs 0 0 Q (F0 m 4 ls []) := by
    intro n174
    induction n174 with
    | zero => intro v154 v155 H locs ls i176 hm177; exact absurd hm177 (Nat.not_lt_zero _)
    | succ n174 ih175 =>
      intro v154 v155 H locs ls i176 hm177 hP hD hS hl
      refine lv_iload_n hx hb dX9_hangMany_4 rfl (lv_at hl 3 rfl) ?_
      refine lv_aload_n hx hb dX9_hangMany_5 rfl (lv_at hl 0 rfl) ?_
      refine va_get (D := g.1) (ci := 9) (v := .ref h0_told) (C := RX9) (T := TX9) (N := 37) hx hb hG iX9 hown hX.1 hP 0 rfl rfl 0 (by decide) (hG _ wf_X9_7) (fun _ h9 => h9) rfl dX9_hangMany_6 ?_
      refine lv_iconst (v := 3) hx hb dX9_hangMany_9 (by decide) ?_
      refine va_iald hx hb hX.1 hP 1 0 rfl rfl (zin (show (3 : Int32).toInt = (3 : Int) from by decide) ((show 0 ≤ (3 : Int) ∧ (3 : Int) < 103 from by decide))) dX9_hangMany_10 ?_
      refine zt (z := h0_told_3) (cEq.at hy14 (by decide)) ?_
      refine lv_icmp_ge (tgt := 41) hx hb dX9_hangMany_11 (by decide) (fun c178 => ?_) (fun c178 => ?_)
      · skip
        have c178i : h0_told_3.toInt ≤ v155.toInt := (zc_le (rfl : h0_told_3.toInt = _) (rfl : v155.toInt = _)).mp c178
        refine lv_iload_n hx hb dX9_hangMany_41 rfl (lv_at hl 2 rfl) ?_
        exact hret v154 () (Nat.le_of_ble_eq_true rfl) (Nat.le_of_ble_eq_true rfl) rfl trivial hP hD hS dX9_hangMany_42
      · skip
        have c178i : ¬ (h0_told_3.toInt ≤ v155.toInt) := fun q => c178 ((zc_le (rfl : h0_told_3.toInt = _) (rfl : v155.toInt = _)).mpr q)
        refine lv_iload_n hx hb dX9_hangMany_14 rfl (lv_at hl 2 rfl) ?_
        refine lv_aload_n hx hb dX9_hangMany_15 rfl (lv_at hl 0 rfl) ?_
        refine va_get (D := g.1) (ci := 9) (v := .ref h0_told) (C := RX9) (T := TX9) (N := 37) hx hb hG iX9 hown hX.1 hP 0 rfl rfl 0 (by decide) (hG _ wf_X9_7) (fun _ h9 => h9) rfl dX9_hangMany_16 ?_
        refine lv_bipush (v := 13) hx hb dX9_hangMany_19 (by decide) ?_
        refine lv_iload_n hx hb dX9_hangMany_21 rfl (lv_at hl 3 rfl) ?_
        refine lv_iadd hx hb dX9_hangMany_22 ?_
        refine lv_topi (fun z179 e180 => ?_)
        have f181 : z179.toInt = (13 : Int) + v155.toInt := za e180 (show (13 : Int32).toInt = (13 : Int) from by decide) (rfl : v155.toInt = _) (om_364 c178i hy13 i176)
        refine va_iald hx hb hX.1 hP 1 0 rfl rfl (zin (rfl : z179.toInt = _) (om_365 c178i f181 hy13 i176)) dX9_hangMany_23 ?_
        refine lv_topi (fun z182 e183 => ?_)
        have f184 : 0 ≤ z182.toInt ∧ z182.toInt ≤ 8 ∧ (z182.toInt = 0 ∨ z182.toInt < z179.toInt - 13) := ((hy12.at e183 (rfl : z179.toInt = _) (om_366 f181 i176)).2.2.1).resolve_left (fun q9 => q9 (om_367 c178i f181 hy13 i176))
        refine lv_iload_n hx hb dX9_hangMany_24 rfl (lv_at hl 1 rfl) ?_
        have J187 : ∀  (v186 : Int32) (H : Heap) (locs : List Loc) (ls : Array Slot), 0 ≤ v186.toInt ∧ v186.toInt ≤ 1 → va_P g.1 vwCl [(h0, .inr (9, [.ref h0_told, .ref h0_read, .ref h0_now, .ref h0_readNow, .ref h0_kept, .int h0_undone, .int h0_seed, .int h0_hasPart, .ref h0_tape, .int h0_taped, .ref h0_refused, .int h0_faultKind, .int h0_faultPlace, .int h0_size, .int h0_at, .int h0_from, .int h0_wrong, .int h0_wrongAt, .ref h0_ownLetters, .ref h0_flats, .int h0_isLaid, .ref h0_corner, .ref h0_wayX, .ref h0_wayY, .ref h0_normal, .ref h0_low, .ref h0_high, .ref h0_clear, .ref h0_ways, .ref h0_canBe, .ref h0_lain, .int h0_canTool, .ref h0_fewestBy, .ref h0_sortOf, .int h0_rows, .ref h0_seenFlange, .ref h0_seenLength])), (h0_told, .inl (g.2.1.1, 103, .inl f_h0_told))] H → va_D A [(h0, .inr (9, [.ref h0_told, .ref h0_read, .ref h0_now, .ref h0_readNow, .ref h0_kept, .int h0_undone, .int h0_seed, .int h0_hasPart, .ref h0_tape, .int h0_taped, .ref h0_refused, .int h0_faultKind, .int h0_faultPlace, .int h0_size, .int h0_at, .int h0_from, .int h0_wrong, .int h0_wrongAt, .ref h0_ownLetters, .ref h0_flats, .int h0_isLaid, .ref h0_corner, .ref h0_wayX, .ref h0_wayY, .ref h0_normal, .ref h0_low, .ref h0_high, .ref h0_clear, .ref h0_ways, .ref h0_canBe, .ref h0_lain, .int h0_canTool, .ref h0_fewestBy, .ref h0_sortOf, .int h0_rows, .ref h0_seenFlange, .ref h0_seenLength])), (h0_told, .inl (g.2.1.1, 103, .inl f_h0_told))] → va_S A s.heap H locs → lv_has ls 4 [(0, .ref h0), (1, .int x1), (2, .int v154), (3, .int v155)] → W p l e rm_kX9_hangMany s m args below meth c H locs 0 0 Q (F0 m 33 ls [.int v186, .int v154]) := by
          intro v186 H locs ls i188 hP hD hS hl
          refine lv_iadd hx hb dX9_hangMany_33 ?_
          refine lv_topi (fun z189 e190 => ?_)
          refine lv_istore_n (lv' := [(2, .int z189), (0, .ref h0), (1, .int x1), (3, .int v155)]) hx hb dX9_hangMany_34 rfl hl (by decide) rfl (fun ls hl => ?_)
          obtain ⟨z191, e192⟩ : ∃ y9 : Int32, y9 = v155 + 1 := ⟨_, rfl⟩
          have f193 : z191.toInt = v155.toInt + 1 := za e192 (rfl : v155.toInt = _) (show (1 : Int32).toInt = (1 : Int) from by decide) (om_130 c178i hy13 i176)
          refine lv_iinc (v := z191) (lv' := [(3, .int z191), (2, .int z189), (0, .ref h0), (1, .int x1)]) hx hb dX9_hangMany_35 hl (k := 3) rfl (by rw [e192]; rfl) (by decide) rfl (fun ls hl => ?_)
          refine lv_goto (tgt := 4) hx hb dX9_hangMany_38 (by decide) ?_
          exact ih175 z189 z191 H locs ls (om_131 c178i f193 hy13 i176) (zdec hm177 (om_132 c178i f193 hy13)) hP hD hS (lv_sub hl [2, 3, 1, 0] rfl)
        refine lv_icmp_ne (tgt := 32) hx hb dX9_hangMany_25 (by decide) (fun c194 => ?_) (fun c194 => ?_)
        · skip
          have c194i : ¬ (z182.toInt = x1.toInt) := fun q => c194 ((zc_eq (rfl : z182.toInt = _) (rfl : x1.toInt = _)).mpr q)
          refine lv_iconst (v := 0) hx hb dX9_hangMany_32 (by decide) ?_
          exact J187 (0 : Int32) H locs ls ((show 0 ≤ (0 : Int) ∧ (0 : Int) ≤ 1 from by decide)) hP hD hS (lv_sub hl [0, 1, 2, 3] rfl)
        · skip
          have c194i : z182.toInt = x1.toInt := (zc_eq (rfl : z182.toInt = _) (rfl : x1.toInt = _)).mp c194
          refine lv_iconst (v := 1) hx hb dX9_hangMany_28 (by decide) ?_
          refine lv_goto (tgt := 33) hx hb dX9_hangMany_29 (by decide) ?_
          exact J187 (1 : Int32) H locs ls ((show 0 ≤ (1 : Int) ∧ (1 : Int) ≤ 1 from by decide)) hP hD hS (lv_sub hl [0, 1, 2, 3] rfl)
  exact L173 _ (0 : Int32) (1 : Int32) _ _ ls ((show 1 ≤ (1 : Int) ∧ (1 : Int) ≤ 9 from by decide)) (Nat.lt_succ_self _) hP hD hS (lv_sub hl [2, 3, 1, 0] rfl)
theorem dX9_flange_0 : decode cX9_flange 0 = .ok (.aload_n 0, 1) := by decide +kernel
theorem dX9_flange_1 : decode cX9_flange 1 = .ok (.iload_n 1, 1) := by decide +kernel
theorem dX9_flange_2 : decode cX9_flange 2 = .ok (.invokevirtual 235, 3) := by decide +kernel
theorem dX9_flange_5 : decode cX9_flange 5 = .ok (.ifCond .ne 5, 3) := by decide +kernel
theorem dX9_flange_10 : decode cX9_flange 10 = .ok (.iload_n 2, 1) := by decide +kernel
theorem dX9_flange_11 : decode cX9_flange 11 = .ok (.tableswitch 140 0 9 #[53, 63, 73, 83, 93, 103, 112, 122, 128, 134], 53) := by decide +kernel
theorem dX9_flange_64 : decode cX9_flange 64 = .ok (.aload_n 0, 1) := by decide +kernel
theorem dX9_flange_65 : decode cX9_flange 65 = .ok (.getfield 7, 3) := by decide +kernel
theorem dX9_flange_68 : decode cX9_flange 68 = .ok (.bipush 13, 2) := by decide +kernel
theorem dX9_flange_70 : decode cX9_flange 70 = .ok (.iload_n 1, 1) := by decide +kernel
theorem dX9_flange_71 : decode cX9_flange 71 = .ok (.iadd, 1) := by decide +kernel
theorem dX9_flange_72 : decode cX9_flange 72 = .ok (.iaload, 1) := by decide +kernel
theorem dX9_flange_73 : decode cX9_flange 73 = .ok (.ireturn, 1) := by decide +kernel
theorem dX9_flange_74 : decode cX9_flange 74 = .ok (.aload_n 0, 1) := by decide +kernel
theorem dX9_flange_75 : decode cX9_flange 75 = .ok (.getfield 7, 3) := by decide +kernel
theorem dX9_flange_78 : decode cX9_flange 78 = .ok (.bipush 22, 2) := by decide +kernel
theorem dX9_flange_80 : decode cX9_flange 80 = .ok (.iload_n 1, 1) := by decide +kernel
theorem dX9_flange_81 : decode cX9_flange 81 = .ok (.iadd, 1) := by decide +kernel
theorem dX9_flange_82 : decode cX9_flange 82 = .ok (.iaload, 1) := by decide +kernel
theorem dX9_flange_83 : decode cX9_flange 83 = .ok (.ireturn, 1) := by decide +kernel
theorem dX9_flange_84 : decode cX9_flange 84 = .ok (.aload_n 0, 1) := by decide +kernel
theorem dX9_flange_85 : decode cX9_flange 85 = .ok (.getfield 7, 3) := by decide +kernel
theorem dX9_flange_88 : decode cX9_flange 88 = .ok (.bipush 31, 2) := by decide +kernel
theorem dX9_flange_90 : decode cX9_flange 90 = .ok (.iload_n 1, 1) := by decide +kernel
theorem dX9_flange_91 : decode cX9_flange 91 = .ok (.iadd, 1) := by decide +kernel
theorem dX9_flange_92 : decode cX9_flange 92 = .ok (.iaload, 1) := by decide +kernel
theorem dX9_flange_93 : decode cX9_flange 93 = .ok (.ireturn, 1) := by decide +kernel
theorem dX9_flange_94 : decode cX9_flange 94 = .ok (.aload_n 0, 1) := by decide +kernel
theorem dX9_flange_95 : decode cX9_flange 95 = .ok (.getfield 7, 3) := by decide +kernel
theorem dX9_flange_98 : decode cX9_flange 98 = .ok (.bipush 40, 2) := by decide +kernel
theorem dX9_flange_100 : decode cX9_flange 100 = .ok (.iload_n 1, 1) := by decide +kernel
theorem dX9_flange_101 : decode cX9_flange 101 = .ok (.iadd, 1) := by decide +kernel
theorem dX9_flange_102 : decode cX9_flange 102 = .ok (.iaload, 1) := by decide +kernel
theorem dX9_flange_103 : decode cX9_flange 103 = .ok (.ireturn, 1) := by decide +kernel
theorem dX9_flange_104 : decode cX9_flange 104 = .ok (.aload_n 0, 1) := by decide +kernel
theorem dX9_flange_105 : decode cX9_flange 105 = .ok (.getfield 7, 3) := by decide +kernel
theorem dX9_flange_108 : decode cX9_flange 108 = .ok (.bipush 49, 2) := by decide +kernel
theorem dX9_flange_110 : decode cX9_flange 110 = .ok (.iload_n 1, 1) := by decide +kernel
theorem dX9_flange_111 : decode cX9_flange 111 = .ok (.iadd, 1) := by decide +kernel
theorem dX9_flange_112 : decode cX9_flange 112 = .ok (.iaload, 1) := by decide +kernel
theorem dX9_flange_113 : decode cX9_flange 113 = .ok (.ireturn, 1) := by decide +kernel
theorem dX9_flange_114 : decode cX9_flange 114 = .ok (.aload_n 0, 1) := by decide +kernel
theorem dX9_flange_115 : decode cX9_flange 115 = .ok (.getfield 16, 3) := by decide +kernel
theorem dX9_flange_118 : decode cX9_flange 118 = .ok (.iconst 2, 1) := by decide +kernel
theorem dX9_flange_119 : decode cX9_flange 119 = .ok (.iload_n 1, 1) := by decide +kernel
theorem dX9_flange_120 : decode cX9_flange 120 = .ok (.iadd, 1) := by decide +kernel
theorem dX9_flange_121 : decode cX9_flange 121 = .ok (.iaload, 1) := by decide +kernel
theorem dX9_flange_122 : decode cX9_flange 122 = .ok (.ireturn, 1) := by decide +kernel
theorem dX9_flange_123 : decode cX9_flange 123 = .ok (.aload_n 0, 1) := by decide +kernel
theorem dX9_flange_124 : decode cX9_flange 124 = .ok (.getfield 7, 3) := by decide +kernel
theorem dX9_flange_127 : decode cX9_flange 127 = .ok (.bipush 58, 2) := by decide +kernel
theorem dX9_flange_129 : decode cX9_flange 129 = .ok (.iload_n 1, 1) := by decide +kernel
theorem dX9_flange_130 : decode cX9_flange 130 = .ok (.iadd, 1) := by decide +kernel
theorem dX9_flange_131 : decode cX9_flange 131 = .ok (.iaload, 1) := by decide +kernel
theorem dX9_flange_132 : decode cX9_flange 132 = .ok (.ireturn, 1) := by decide +kernel
theorem dX9_flange_133 : decode cX9_flange 133 = .ok (.aload_n 0, 1) := by decide +kernel
theorem dX9_flange_134 : decode cX9_flange 134 = .ok (.iload_n 1, 1) := by decide +kernel
theorem dX9_flange_135 : decode cX9_flange 135 = .ok (.invokevirtual 238, 3) := by decide +kernel
theorem dX9_flange_138 : decode cX9_flange 138 = .ok (.ireturn, 1) := by decide +kernel
theorem dX9_flange_139 : decode cX9_flange 139 = .ok (.aload_n 0, 1) := by decide +kernel
theorem dX9_flange_140 : decode cX9_flange 140 = .ok (.iload_n 1, 1) := by decide +kernel
theorem dX9_flange_141 : decode cX9_flange 141 = .ok (.invokevirtual 241, 3) := by decide +kernel
theorem dX9_flange_144 : decode cX9_flange 144 = .ok (.ireturn, 1) := by decide +kernel
theorem dX9_flange_145 : decode cX9_flange 145 = .ok (.aload_n 0, 1) := by decide +kernel
theorem dX9_flange_146 : decode cX9_flange 146 = .ok (.iload_n 1, 1) := by decide +kernel
theorem dX9_flange_147 : decode cX9_flange 147 = .ok (.invokevirtual 244, 3) := by decide +kernel
theorem dX9_flange_150 : decode cX9_flange 150 = .ok (.ireturn, 1) := by decide +kernel
theorem dX9_flange_151 : decode cX9_flange 151 = .ok (.iconst (-1), 1) := by decide +kernel
theorem dX9_flange_152 : decode cX9_flange 152 = .ok (.ireturn, 1) := by decide +kernel
theorem dX9_flange_8 : decode cX9_flange 8 = .ok (.iconst (-1), 1) := by decide +kernel
theorem dX9_flange_9 : decode cX9_flange 9 = .ok (.ireturn, 1) := by decide +kernel
abbrev rm_kX9_flange : Room := { frames := 2, cells := 0, slots := 0, locals := 44 }
set_option maxHeartbeats 4000000 in
set_option maxRecDepth 100000 in
theorem kX9_flange (l : Launch) (g : zL) (h0 : Nat) (x1 : Int32) (x2 : Int32) (h0_told : Nat) (h0_read : Nat) (h0_now : Nat) (h0_readNow : Nat) (h0_kept : Nat) (h0_undone : Int32) (h0_seed : Int32) (h0_hasPart : Int32) (h0_tape : Nat) (h0_taped : Int32) (h0_refused : Nat) (h0_faultKind : Int32) (h0_faultPlace : Int32) (h0_size : Int32) (h0_at : Int32) (h0_from : Int32) (h0_wrong : Int32) (h0_wrongAt : Int32) (h0_ownLetters : Nat) (h0_flats : Nat) (h0_isLaid : Int32) (h0_corner : Nat) (h0_wayX : Nat) (h0_wayY : Nat) (h0_normal : Nat) (h0_low : Nat) (h0_high : Nat) (h0_clear : Nat) (h0_ways : Nat) (h0_canBe : Nat) (h0_lain : Nat) (h0_canTool : Int32) (h0_fewestBy : Nat) (h0_sortOf : Nat) (h0_rows : Int32) (h0_seenFlange : Nat) (h0_seenLength : Nat) (f_h0_told : Nat → Int32) (h0_told_3 : Int32) (h0_told_4 : Int32) (f_h0_now : Nat → Int32) (h0_now_0 : Int32) (hy0 : 0 ≤ h0_undone.toInt ∧ h0_undone.toInt ≤ 20) (hy1 : 0 ≤ h0_seed.toInt ∧ h0_seed.toInt ≤ 2147483647) (hy2 : 0 ≤ h0_hasPart.toInt ∧ h0_hasPart.toInt ≤ 1) (hy3 : 0 ≤ h0_taped.toInt ∧ h0_taped.toInt ≤ 1200) (hy4 : 0 ≤ h0_faultKind.toInt ∧ h0_faultKind.toInt ≤ 5) (hy5 : 0 ≤ h0_size.toInt ∧ h0_size.toInt ≤ 1200) (hy6 : 0 ≤ h0_at.toInt ∧ h0_at.toInt ≤ 1200) (hy7 : 0 ≤ h0_from.toInt ∧ h0_from.toInt ≤ 1200) (hy8 : 0 ≤ h0_wrong.toInt ∧ h0_wrong.toInt ≤ 5) (hy9 : 0 ≤ h0_isLaid.toInt ∧ h0_isLaid.toInt ≤ 1) (hy10 : 0 ≤ h0_canTool.toInt ∧ h0_canTool.toInt ≤ 255) (hy11 : 0 ≤ h0_rows.toInt ∧ h0_rows.toInt ≤ 8) (hy12 : pW mB f_h0_told) (hy13 : 0 ≤ h0_told_3.toInt ∧ h0_told_3.toInt ≤ 9) (hy14 : cEq f_h0_told 3 h0_told_3) (hy15 : 0 ≤ h0_told_4.toInt ∧ h0_told_4.toInt ≤ 8) (hy16 : cEq f_h0_told 4 h0_told_4) (hy17 : pW nB f_h0_now) (hy18 : 0 ≤ h0_now_0.toInt ∧ h0_now_0.toInt ≤ 255) (hy19 : cEq f_h0_now 0 h0_now_0) (hy20 : ((h0_hasPart.toInt = 0 ∧ h0_told_3.toInt = 0) ∨ (h0_hasPart.toInt = 1 ∧ 1 ≤ h0_told_3.toInt))) : zCi l g yX9_flange cX9_flange 3 (some .int) rm_kX9_flange [.ref h0, .int x1, .int x2] [(h0, .inr (9, [.ref h0_told, .ref h0_read, .ref h0_now, .ref h0_readNow, .ref h0_kept, .int h0_undone, .int h0_seed, .int h0_hasPart, .ref h0_tape, .int h0_taped, .ref h0_refused, .int h0_faultKind, .int h0_faultPlace, .int h0_size, .int h0_at, .int h0_from, .int h0_wrong, .int h0_wrongAt, .ref h0_ownLetters, .ref h0_flats, .int h0_isLaid, .ref h0_corner, .ref h0_wayX, .ref h0_wayY, .ref h0_normal, .ref h0_low, .ref h0_high, .ref h0_clear, .ref h0_ways, .ref h0_canBe, .ref h0_lain, .int h0_canTool, .ref h0_fewestBy, .ref h0_sortOf, .int h0_rows, .ref h0_seenFlange, .ref h0_seenLength])), (h0_told, .inl (g.2.1.1, 103, .inl f_h0_told)), (h0_now, .inl (g.2.1.1, 21, .inl f_h0_now))] (fun (r : Int32) (u : Unit) => True) (fun (u : Unit) => [(h0, .inr (9, [.ref h0_told, .ref h0_read, .ref h0_now, .ref h0_readNow, .ref h0_kept, .int h0_undone, .int h0_seed, .int h0_hasPart, .ref h0_tape, .int h0_taped, .ref h0_refused, .int h0_faultKind, .int h0_faultPlace, .int h0_size, .int h0_at, .int h0_from, .int h0_wrong, .int h0_wrongAt, .ref h0_ownLetters, .ref h0_flats, .int h0_isLaid, .ref h0_corner, .ref h0_wayX, .ref h0_wayY, .ref h0_normal, .ref h0_low, .ref h0_high, .ref h0_clear, .ref h0_ways, .ref h0_canBe, .ref h0_lain, .int h0_canTool, .ref h0_fewestBy, .ref h0_sortOf, .int h0_rows, .ref h0_seenFlange, .ref h0_seenLength])), (h0_told, .inl (g.2.1.1, 103, .inl f_h0_told)), (h0_now, .inl (g.2.1.1, 21, .inl f_h0_now))]) := by
  refine zCi.mk2 (by decide) (Nat.le_of_ble_eq_true rfl) ?_
  intro p e s m below meth c A args Q hE hret hP hD hS ls hl
  obtain ⟨hx, hb, hr, hml, hown, hG, hlocks, hnm, hX, hA⟩ := hE
  have hown : s.vm.findClass RX9 = some m.cls := hown
  have hl : lv_has ls 3 [(0, .ref h0), (1, .int x1), (2, .int x2)] := hl
  refine lv_aload_n hx hb dX9_flange_0 rfl (lv_at hl 0 rfl) ?_
  refine lv_iload_n hx hb dX9_flange_1 rfl (lv_at hl 1 rfl) ?_
  refine zfi (wr := [(h0_now, .inl (g.2.1.1, 21, .inl f_h0_now))]) (va_runV (As := [.int x1]) (rest := []) ⟨hx, hb, hml, hown, hG⟩ (kX9_isBend l g h0 x1 h0_told h0_read h0_now h0_readNow h0_kept h0_undone h0_seed h0_hasPart h0_tape h0_taped h0_refused h0_faultKind h0_faultPlace h0_size h0_at h0_from h0_wrong h0_wrongAt h0_ownLetters h0_flats h0_isLaid h0_corner h0_wayX h0_wayY h0_normal h0_low h0_high h0_clear h0_ways h0_canBe h0_lain h0_canTool h0_fewestBy h0_sortOf h0_rows h0_seenFlange h0_seenLength f_h0_told h0_told_3 h0_told_4 (om_27 hy0) (om_28 hy1) (om_29 hy2) (om_32 hy3) (om_31 hy4) (om_32 hy5) (om_32 hy6) (om_32 hy7) (om_31 hy8) (om_29 hy9) (om_13 hy10) (om_33 hy11) hy12 (om_155 hy13) hy14 (om_33 hy15) hy16 (om_324 hy13 hy2 hy20) _) ⟨callB_of 1 hG (zGood wc_X9_isBend) rfl rfl rfl (hG _ wini_X9) (hG _ wm_X9_235) hX9_isBend ⟨Nat.le_of_ble_eq_true rfl, Nat.le_of_ble_eq_true rfl⟩, hG _ wi_X9_isBend, hG _ wse_X9_X9_isBend⟩ (zpreV (va_recv hX.1 hP (ci := 9) (q0 := 0) rfl rfl) hX hP hD hS hA [0, 1] rfl (by decide)) rfl rfl hl.1 rfl (lv_room (Nat.le_of_ble_eq_true rfl)) dX9_flange_2 ⟨Nat.le_of_ble_eq_true rfl, Nat.le_of_ble_eq_true rfl⟩) hP hD hS hA [0, 1] [2] rfl rfl (by decide) (by decide) (fun r1 _ H locs hp hP hD hS => ?_)
  refine W.cs (cells' := 0) (slots' := 0) rfl rfl ?_
  obtain ⟨hq2, hq3⟩ : (0 ≤ r1.toInt ∧ r1.toInt ≤ 1) ∧ ((r1.toInt = 0 ∨ (1 ≤ x1.toInt ∧ x1.toInt ≤ 8 ∧ x1.toInt < h0_told_3.toInt ∧ h0_hasPart.toInt = 1 ∧ 2 ≤ h0_told_3.toInt))) := hp
  have hP : va_P g.1 vwCl [(h0_now, .inl (g.2.1.1, 21, .inl f_h0_now)), (h0, .inr (9, [.ref h0_told, .ref h0_read, .ref h0_now, .ref h0_readNow, .ref h0_kept, .int h0_undone, .int h0_seed, .int h0_hasPart, .ref h0_tape, .int h0_taped, .ref h0_refused, .int h0_faultKind, .int h0_faultPlace, .int h0_size, .int h0_at, .int h0_from, .int h0_wrong, .int h0_wrongAt, .ref h0_ownLetters, .ref h0_flats, .int h0_isLaid, .ref h0_corner, .ref h0_wayX, .ref h0_wayY, .ref h0_normal, .ref h0_low, .ref h0_high, .ref h0_clear, .ref h0_ways, .ref h0_canBe, .ref h0_lain, .int h0_canTool, .ref h0_fewestBy, .ref h0_sortOf, .int h0_rows, .ref h0_seenFlange, .ref h0_seenLength])), (h0_told, .inl (g.2.1.1, 103, .inl f_h0_told))] H := hP
  have hD : va_D A [(h0_now, .inl (g.2.1.1, 21, .inl f_h0_now)), (h0, .inr (9, [.ref h0_told, .ref h0_read, .ref h0_now, .ref h0_readNow, .ref h0_kept, .int h0_undone, .int h0_seed, .int h0_hasPart, .ref h0_tape, .int h0_taped, .ref h0_refused, .int h0_faultKind, .int h0_faultPlace, .int h0_size, .int h0_at, .int h0_from, .int h0_wrong, .int h0_wrongAt, .ref h0_ownLetters, .ref h0_flats, .int h0_isLaid, .ref h0_corner, .ref h0_wayX, .ref h0_wayY, .ref h0_normal, .ref h0_low, .ref h0_high, .ref h0_clear, .ref h0_ways, .ref h0_canBe, .ref h0_lain, .int h0_canTool, .ref h0_fewestBy, .ref h0_sortOf, .int h0_rows, .ref h0_seenFlange, .ref h0_seenLength])), (h0_told, .inl (g.2.1.1, 103, .inl f_h0_told))] := hD
  refine lv_if_ne (tgt := 10) hx hb dX9_flange_5 (by decide) (fun c4 => ?_) (fun c4 => ?_)
  · skip
    have c4i : ¬ (r1.toInt = (0 : Int)) := fun q => c4 ((zc_eq (rfl : r1.toInt = _) (show (0 : Int32).toInt = (0 : Int) from by decide)).mpr q)
    refine lv_iload_n hx hb dX9_flange_10 rfl (lv_at hl 2 rfl) ?_
    rcases (show x2.toInt = 0 ∨ x2.toInt = 1 ∨ x2.toInt = 2 ∨ x2.toInt = 3 ∨ x2.toInt = 4 ∨ x2.toInt = 5 ∨ x2.toInt = 6 ∨ x2.toInt = 7 ∨ x2.toInt = 8 ∨ x2.toInt = 9 ∨ (x2.toInt < 0 ∨ 9 < x2.toInt) by omega) with c5 | c5 | c5 | c5 | c5 | c5 | c5 | c5 | c5 | c5 | c5
    · refine lv_tableIn (off := 53) (tgt := 64) hx hb dX9_flange_11 (by rw [c5]; decide) (by rw [c5]; decide) (by rw [c5]; rfl) (by decide) ?_
      refine lv_aload_n hx hb dX9_flange_64 rfl (lv_at hl 0 rfl) ?_
      refine va_get (D := g.1) (ci := 9) (v := .ref h0_told) (C := RX9) (T := TX9) (N := 37) hx hb hG iX9 hown hX.1 hP 1 rfl rfl 0 (by decide) (hG _ wf_X9_7) (fun _ h9 => h9) rfl dX9_flange_65 ?_
      refine lv_bipush (v := 13) hx hb dX9_flange_68 (by decide) ?_
      refine lv_iload_n hx hb dX9_flange_70 rfl (lv_at hl 1 rfl) ?_
      refine lv_iadd hx hb dX9_flange_71 ?_
      refine lv_topi (fun z6 e7 => ?_)
      have f8 : z6.toInt = (13 : Int) + x1.toInt := za e7 (show (13 : Int32).toInt = (13 : Int) from by decide) (rfl : x1.toInt = _) (om_368 (zr x1) c4i hq2 hq3)
      refine va_iald hx hb hX.1 hP 2 0 rfl rfl (zin (rfl : z6.toInt = _) (om_369 c4i f8 hq2 hq3)) dX9_flange_72 ?_
      refine lv_topi (fun z9 e10 => ?_)
      have f11 : 0 ≤ z9.toInt ∧ z9.toInt ≤ 8 ∧ (z9.toInt = 0 ∨ z9.toInt < z6.toInt - 13) := ((hy12.at e10 (rfl : z6.toInt = _) (om_370 c4i f8 hq2 hq3)).2.2.1).resolve_left (fun q9 => q9 (om_371 c4i f8 hq2 hq3))
      exact hret z9 () (Nat.le_of_ble_eq_true rfl) (Nat.le_of_ble_eq_true rfl) rfl trivial (hP.sub [1, 2, 0] rfl) (hD.sub [1, 2, 0] (by decide) rfl) hS dX9_flange_73
    · refine lv_tableIn (off := 63) (tgt := 74) hx hb dX9_flange_11 (by rw [c5]; decide) (by rw [c5]; decide) (by rw [c5]; rfl) (by decide) ?_
      refine lv_aload_n hx hb dX9_flange_74 rfl (lv_at hl 0 rfl) ?_
      refine va_get (D := g.1) (ci := 9) (v := .ref h0_told) (C := RX9) (T := TX9) (N := 37) hx hb hG iX9 hown hX.1 hP 1 rfl rfl 0 (by decide) (hG _ wf_X9_7) (fun _ h9 => h9) rfl dX9_flange_75 ?_
      refine lv_bipush (v := 22) hx hb dX9_flange_78 (by decide) ?_
      refine lv_iload_n hx hb dX9_flange_80 rfl (lv_at hl 1 rfl) ?_
      refine lv_iadd hx hb dX9_flange_81 ?_
      refine lv_topi (fun z12 e13 => ?_)
      have f14 : z12.toInt = (22 : Int) + x1.toInt := za e13 (show (22 : Int32).toInt = (22 : Int) from by decide) (rfl : x1.toInt = _) (om_372 (zr x1) c4i hq2 hq3)
      refine va_iald hx hb hX.1 hP 2 0 rfl rfl (zin (rfl : z12.toInt = _) (om_373 c4i f14 hq2 hq3)) dX9_flange_82 ?_
      refine lv_topi (fun z15 e16 => ?_)
      have f17 : 0 ≤ z15.toInt ∧ z15.toInt ≤ 3 := ((hy12.at e16 (rfl : z12.toInt = _) (om_374 c4i f14 hq2 hq3)).2.2.2.1).resolve_left (fun q9 => q9 (om_375 c4i f14 hq2 hq3))
      exact hret z15 () (Nat.le_of_ble_eq_true rfl) (Nat.le_of_ble_eq_true rfl) rfl trivial (hP.sub [1, 2, 0] rfl) (hD.sub [1, 2, 0] (by decide) rfl) hS dX9_flange_83
    · refine lv_tableIn (off := 73) (tgt := 84) hx hb dX9_flange_11 (by rw [c5]; decide) (by rw [c5]; decide) (by rw [c5]; rfl) (by decide) ?_
      refine lv_aload_n hx hb dX9_flange_84 rfl (lv_at hl 0 rfl) ?_
      refine va_get (D := g.1) (ci := 9) (v := .ref h0_told) (C := RX9) (T := TX9) (N := 37) hx hb hG iX9 hown hX.1 hP 1 rfl rfl 0 (by decide) (hG _ wf_X9_7) (fun _ h9 => h9) rfl dX9_flange_85 ?_
      refine lv_bipush (v := 31) hx hb dX9_flange_88 (by decide) ?_
      refine lv_iload_n hx hb dX9_flange_90 rfl (lv_at hl 1 rfl) ?_
      refine lv_iadd hx hb dX9_flange_91 ?_
      refine lv_topi (fun z18 e19 => ?_)
      have f20 : z18.toInt = (31 : Int) + x1.toInt := za e19 (show (31 : Int32).toInt = (31 : Int) from by decide) (rfl : x1.toInt = _) (om_376 (zr x1) c4i hq2 hq3)
      refine va_iald hx hb hX.1 hP 2 0 rfl rfl (zin (rfl : z18.toInt = _) (om_377 c4i f20 hq2 hq3)) dX9_flange_92 ?_
      refine lv_topi (fun z21 e22 => ?_)
      exact hret z21 () (Nat.le_of_ble_eq_true rfl) (Nat.le_of_ble_eq_true rfl) rfl trivial (hP.sub [1, 2, 0] rfl) (hD.sub [1, 2, 0] (by decide) rfl) hS dX9_flange_93
    · refine lv_tableIn (off := 83) (tgt := 94) hx hb dX9_flange_11 (by rw [c5]; decide) (by rw [c5]; decide) (by rw [c5]; rfl) (by decide) ?_
      refine lv_aload_n hx hb dX9_flange_94 rfl (lv_at hl 0 rfl) ?_
      refine va_get (D := g.1) (ci := 9) (v := .ref h0_told) (C := RX9) (T := TX9) (N := 37) hx hb hG iX9 hown hX.1 hP 1 rfl rfl 0 (by decide) (hG _ wf_X9_7) (fun _ h9 => h9) rfl dX9_flange_95 ?_
      refine lv_bipush (v := 40) hx hb dX9_flange_98 (by decide) ?_
      refine lv_iload_n hx hb dX9_flange_100 rfl (lv_at hl 1 rfl) ?_
      refine lv_iadd hx hb dX9_flange_101 ?_
      refine lv_topi (fun z23 e24 => ?_)
      have f25 : z23.toInt = (40 : Int) + x1.toInt := za e24 (show (40 : Int32).toInt = (40 : Int) from by decide) (rfl : x1.toInt = _) (om_379 (zr x1) c4i hq2 hq3)
      refine va_iald hx hb hX.1 hP 2 0 rfl rfl (zin (rfl : z23.toInt = _) (om_380 c4i f25 hq2 hq3)) dX9_flange_102 ?_
      refine lv_topi (fun z26 e27 => ?_)
      exact hret z26 () (Nat.le_of_ble_eq_true rfl) (Nat.le_of_ble_eq_true rfl) rfl trivial (hP.sub [1, 2, 0] rfl) (hD.sub [1, 2, 0] (by decide) rfl) hS dX9_flange_103
    · refine lv_tableIn (off := 93) (tgt := 104) hx hb dX9_flange_11 (by rw [c5]; decide) (by rw [c5]; decide) (by rw [c5]; rfl) (by decide) ?_
      refine lv_aload_n hx hb dX9_flange_104 rfl (lv_at hl 0 rfl) ?_
      refine va_get (D := g.1) (ci := 9) (v := .ref h0_told) (C := RX9) (T := TX9) (N := 37) hx hb hG iX9 hown hX.1 hP 1 rfl rfl 0 (by decide) (hG _ wf_X9_7) (fun _ h9 => h9) rfl dX9_flange_105 ?_
      refine lv_bipush (v := 49) hx hb dX9_flange_108 (by decide) ?_
      refine lv_iload_n hx hb dX9_flange_110 rfl (lv_at hl 1 rfl) ?_
      refine lv_iadd hx hb dX9_flange_111 ?_
      refine lv_topi (fun z28 e29 => ?_)
      have f30 : z28.toInt = (49 : Int) + x1.toInt := za e29 (show (49 : Int32).toInt = (49 : Int) from by decide) (rfl : x1.toInt = _) (om_382 (zr x1) c4i hq2 hq3)
      refine va_iald hx hb hX.1 hP 2 0 rfl rfl (zin (rfl : z28.toInt = _) (om_383 c4i f30 hq2 hq3)) dX9_flange_112 ?_
      refine lv_topi (fun z31 e32 => ?_)
      exact hret z31 () (Nat.le_of_ble_eq_true rfl) (Nat.le_of_ble_eq_true rfl) rfl trivial (hP.sub [1, 2, 0] rfl) (hD.sub [1, 2, 0] (by decide) rfl) hS dX9_flange_113
    · refine lv_tableIn (off := 103) (tgt := 114) hx hb dX9_flange_11 (by rw [c5]; decide) (by rw [c5]; decide) (by rw [c5]; rfl) (by decide) ?_
      refine lv_aload_n hx hb dX9_flange_114 rfl (lv_at hl 0 rfl) ?_
      refine va_get (D := g.1) (ci := 9) (v := .ref h0_now) (C := RX9) (T := TX9) (N := 37) hx hb hG iX9 hown hX.1 hP 1 rfl rfl 2 (by decide) (hG _ wf_X9_16) (fun _ h9 => h9) rfl dX9_flange_115 ?_
      refine lv_iconst (v := 2) hx hb dX9_flange_118 (by decide) ?_
      refine lv_iload_n hx hb dX9_flange_119 rfl (lv_at hl 1 rfl) ?_
      refine lv_iadd hx hb dX9_flange_120 ?_
      refine lv_topi (fun z33 e34 => ?_)
      have f35 : z33.toInt = (2 : Int) + x1.toInt := za e34 (show (2 : Int32).toInt = (2 : Int) from by decide) (rfl : x1.toInt = _) (om_385 (zr x1) c4i hq2 hq3)
      refine va_iald hx hb hX.1 hP 0 0 rfl rfl (zin (rfl : z33.toInt = _) (om_386 c4i f35 hq2 hq3)) dX9_flange_121 ?_
      refine lv_topi (fun z36 e37 => ?_)
      have f38 : 0 ≤ z36.toInt ∧ z36.toInt ≤ 1 := ((hy17.at e37 (rfl : z33.toInt = _) (om_387 c4i f35 hq2 hq3)).2).resolve_left (fun q9 => q9 (om_388 c4i f35 hq2 hq3))
      exact hret z36 () (Nat.le_of_ble_eq_true rfl) (Nat.le_of_ble_eq_true rfl) rfl trivial (hP.sub [1, 2, 0] rfl) (hD.sub [1, 2, 0] (by decide) rfl) hS dX9_flange_122
    · refine lv_tableIn (off := 112) (tgt := 123) hx hb dX9_flange_11 (by rw [c5]; decide) (by rw [c5]; decide) (by rw [c5]; rfl) (by decide) ?_
      refine lv_aload_n hx hb dX9_flange_123 rfl (lv_at hl 0 rfl) ?_
      refine va_get (D := g.1) (ci := 9) (v := .ref h0_told) (C := RX9) (T := TX9) (N := 37) hx hb hG iX9 hown hX.1 hP 1 rfl rfl 0 (by decide) (hG _ wf_X9_7) (fun _ h9 => h9) rfl dX9_flange_124 ?_
      refine lv_bipush (v := 58) hx hb dX9_flange_127 (by decide) ?_
      refine lv_iload_n hx hb dX9_flange_129 rfl (lv_at hl 1 rfl) ?_
      refine lv_iadd hx hb dX9_flange_130 ?_
      refine lv_topi (fun z39 e40 => ?_)
      have f41 : z39.toInt = (58 : Int) + x1.toInt := za e40 (show (58 : Int32).toInt = (58 : Int) from by decide) (rfl : x1.toInt = _) (om_389 (zr x1) c4i hq2 hq3)
      refine va_iald hx hb hX.1 hP 2 0 rfl rfl (zin (rfl : z39.toInt = _) (om_390 c4i f41 hq2 hq3)) dX9_flange_131 ?_
      refine lv_topi (fun z42 e43 => ?_)
      have f44 : 0 ≤ z42.toInt ∧ z42.toInt ≤ 9 := ((hy12.at e43 (rfl : z39.toInt = _) (om_391 c4i f41 hq2 hq3)).2.2.2.2.1).resolve_left (fun q9 => q9 (om_392 c4i f41 hq2 hq3))
      exact hret z42 () (Nat.le_of_ble_eq_true rfl) (Nat.le_of_ble_eq_true rfl) rfl trivial (hP.sub [1, 2, 0] rfl) (hD.sub [1, 2, 0] (by decide) rfl) hS dX9_flange_132
    · refine lv_tableIn (off := 122) (tgt := 133) hx hb dX9_flange_11 (by rw [c5]; decide) (by rw [c5]; decide) (by rw [c5]; rfl) (by decide) ?_
      refine lv_aload_n hx hb dX9_flange_133 rfl (lv_at hl 0 rfl) ?_
      refine lv_iload_n hx hb dX9_flange_134 rfl (lv_at hl 1 rfl) ?_
      refine zfi (wr := [(h0_now, .inl (g.2.1.1, 21, .inl f_h0_now))]) (va_runV (As := [.int x1]) (rest := []) ⟨hx, hb, hml, hown, hG⟩ (kX9_hangMany l g h0 x1 h0_told h0_read h0_now h0_readNow h0_kept h0_undone h0_seed h0_hasPart h0_tape h0_taped h0_refused h0_faultKind h0_faultPlace h0_size h0_at h0_from h0_wrong h0_wrongAt h0_ownLetters h0_flats h0_isLaid h0_corner h0_wayX h0_wayY h0_normal h0_low h0_high h0_clear h0_ways h0_canBe h0_lain h0_canTool h0_fewestBy h0_sortOf h0_rows h0_seenFlange h0_seenLength f_h0_told h0_told_3 h0_told_4 (om_27 hy0) (om_28 hy1) (om_29 hy2) (om_32 hy3) (om_31 hy4) (om_32 hy5) (om_32 hy6) (om_32 hy7) (om_31 hy8) (om_29 hy9) (om_13 hy10) (om_33 hy11) hy12 (om_155 hy13) hy14 (om_33 hy15) hy16 (om_393 c4i hq2 hq3 hy2) _) ⟨callB_of 1 hG (zGood wc_X9_hangMany) rfl rfl rfl (hG _ wini_X9) (hG _ wm_X9_238) hX9_hangMany ⟨Nat.le_of_ble_eq_true rfl, Nat.le_of_ble_eq_true rfl⟩, hG _ wi_X9_hangMany, hG _ wse_X9_X9_hangMany⟩ (zpreV (va_recv hX.1 hP (ci := 9) (q0 := 1) rfl rfl) hX hP hD hS hA [1, 2] rfl (by decide)) rfl rfl hl.1 rfl (lv_room (Nat.le_of_ble_eq_true rfl)) dX9_flange_135 ⟨Nat.le_of_ble_eq_true rfl, Nat.le_of_ble_eq_true rfl⟩) hP hD hS hA [1, 2] [0] rfl rfl (by decide) (by decide) (fun r45 _ H locs hp hP hD hS => ?_)
      refine W.cs (cells' := 0) (slots' := 0) rfl rfl ?_
      have hP : va_P g.1 vwCl [(h0_now, .inl (g.2.1.1, 21, .inl f_h0_now)), (h0, .inr (9, [.ref h0_told, .ref h0_read, .ref h0_now, .ref h0_readNow, .ref h0_kept, .int h0_undone, .int h0_seed, .int h0_hasPart, .ref h0_tape, .int h0_taped, .ref h0_refused, .int h0_faultKind, .int h0_faultPlace, .int h0_size, .int h0_at, .int h0_from, .int h0_wrong, .int h0_wrongAt, .ref h0_ownLetters, .ref h0_flats, .int h0_isLaid, .ref h0_corner, .ref h0_wayX, .ref h0_wayY, .ref h0_normal, .ref h0_low, .ref h0_high, .ref h0_clear, .ref h0_ways, .ref h0_canBe, .ref h0_lain, .int h0_canTool, .ref h0_fewestBy, .ref h0_sortOf, .int h0_rows, .ref h0_seenFlange, .ref h0_seenLength])), (h0_told, .inl (g.2.1.1, 103, .inl f_h0_told))] H := hP
      have hD : va_D A [(h0_now, .inl (g.2.1.1, 21, .inl f_h0_now)), (h0, .inr (9, [.ref h0_told, .ref h0_read, .ref h0_now, .ref h0_readNow, .ref h0_kept, .int h0_undone, .int h0_seed, .int h0_hasPart, .ref h0_tape, .int h0_taped, .ref h0_refused, .int h0_faultKind, .int h0_faultPlace, .int h0_size, .int h0_at, .int h0_from, .int h0_wrong, .int h0_wrongAt, .ref h0_ownLetters, .ref h0_flats, .int h0_isLaid, .ref h0_corner, .ref h0_wayX, .ref h0_wayY, .ref h0_normal, .ref h0_low, .ref h0_high, .ref h0_clear, .ref h0_ways, .ref h0_canBe, .ref h0_lain, .int h0_canTool, .ref h0_fewestBy, .ref h0_sortOf, .int h0_rows, .ref h0_seenFlange, .ref h0_seenLength])), (h0_told, .inl (g.2.1.1, 103, .inl f_h0_told))] := hD
      exact hret r45 () (Nat.le_of_ble_eq_true rfl) (Nat.le_of_ble_eq_true rfl) rfl trivial (hP.sub [1, 2, 0] rfl) (hD.sub [1, 2, 0] (by decide) rfl) hS dX9_flange_138
    · refine lv_tableIn (off := 128) (tgt := 139) hx hb dX9_flange_11 (by rw [c5]; decide) (by rw [c5]; decide) (by rw [c5]; rfl) (by decide) ?_
      refine lv_aload_n hx hb dX9_flange_139 rfl (lv_at hl 0 rfl) ?_
      refine lv_iload_n hx hb dX9_flange_140 rfl (lv_at hl 1 rfl) ?_
      refine zfi (wr := [(h0_now, .inl (g.2.1.1, 21, .inl f_h0_now))]) (va_runV (As := [.int x1]) (rest := []) ⟨hx, hb, hml, hown, hG⟩ (kX9_depthOf l g h0 x1 h0_told h0_read h0_now h0_readNow h0_kept h0_undone h0_seed h0_hasPart h0_tape h0_taped h0_refused h0_faultKind h0_faultPlace h0_size h0_at h0_from h0_wrong h0_wrongAt h0_ownLetters h0_flats h0_isLaid h0_corner h0_wayX h0_wayY h0_normal h0_low h0_high h0_clear h0_ways h0_canBe h0_lain h0_canTool h0_fewestBy h0_sortOf h0_rows h0_seenFlange h0_seenLength f_h0_told h0_told_3 h0_told_4 (om_394 c4i hq2 hq3) (om_27 hy0) (om_28 hy1) (om_29 hy2) (om_32 hy3) (om_31 hy4) (om_32 hy5) (om_32 hy6) (om_32 hy7) (om_31 hy8) (om_29 hy9) (om_13 hy10) (om_33 hy11) hy12 (om_155 hy13) hy14 (om_33 hy15) hy16 (om_393 c4i hq2 hq3 hy2) _) ⟨callB_of 1 hG (zGood wc_X9_depthOf) rfl rfl rfl (hG _ wini_X9) (hG _ wm_X9_241) hX9_depthOf ⟨Nat.le_of_ble_eq_true rfl, Nat.le_of_ble_eq_true rfl⟩, hG _ wi_X9_depthOf, hG _ wse_X9_X9_depthOf⟩ (zpreV (va_recv hX.1 hP (ci := 9) (q0 := 1) rfl rfl) hX hP hD hS hA [1, 2] rfl (by decide)) rfl rfl hl.1 rfl (lv_room (Nat.le_of_ble_eq_true rfl)) dX9_flange_141 ⟨Nat.le_of_ble_eq_true rfl, Nat.le_of_ble_eq_true rfl⟩) hP hD hS hA [1, 2] [0] rfl rfl (by decide) (by decide) (fun r46 _ H locs hp hP hD hS => ?_)
      refine W.cs (cells' := 0) (slots' := 0) rfl rfl ?_
      have hP : va_P g.1 vwCl [(h0_now, .inl (g.2.1.1, 21, .inl f_h0_now)), (h0, .inr (9, [.ref h0_told, .ref h0_read, .ref h0_now, .ref h0_readNow, .ref h0_kept, .int h0_undone, .int h0_seed, .int h0_hasPart, .ref h0_tape, .int h0_taped, .ref h0_refused, .int h0_faultKind, .int h0_faultPlace, .int h0_size, .int h0_at, .int h0_from, .int h0_wrong, .int h0_wrongAt, .ref h0_ownLetters, .ref h0_flats, .int h0_isLaid, .ref h0_corner, .ref h0_wayX, .ref h0_wayY, .ref h0_normal, .ref h0_low, .ref h0_high, .ref h0_clear, .ref h0_ways, .ref h0_canBe, .ref h0_lain, .int h0_canTool, .ref h0_fewestBy, .ref h0_sortOf, .int h0_rows, .ref h0_seenFlange, .ref h0_seenLength])), (h0_told, .inl (g.2.1.1, 103, .inl f_h0_told))] H := hP
      have hD : va_D A [(h0_now, .inl (g.2.1.1, 21, .inl f_h0_now)), (h0, .inr (9, [.ref h0_told, .ref h0_read, .ref h0_now, .ref h0_readNow, .ref h0_kept, .int h0_undone, .int h0_seed, .int h0_hasPart, .ref h0_tape, .int h0_taped, .ref h0_refused, .int h0_faultKind, .int h0_faultPlace, .int h0_size, .int h0_at, .int h0_from, .int h0_wrong, .int h0_wrongAt, .ref h0_ownLetters, .ref h0_flats, .int h0_isLaid, .ref h0_corner, .ref h0_wayX, .ref h0_wayY, .ref h0_normal, .ref h0_low, .ref h0_high, .ref h0_clear, .ref h0_ways, .ref h0_canBe, .ref h0_lain, .int h0_canTool, .ref h0_fewestBy, .ref h0_sortOf, .int h0_rows, .ref h0_seenFlange, .ref h0_seenLength])), (h0_told, .inl (g.2.1.1, 103, .inl f_h0_told))] := hD
      exact hret r46 () (Nat.le_of_ble_eq_true rfl) (Nat.le_of_ble_eq_true rfl) rfl trivial (hP.sub [1, 2, 0] rfl) (hD.sub [1, 2, 0] (by decide) rfl) hS dX9_flange_144
    · refine lv_tableIn (off := 134) (tgt := 145) hx hb dX9_flange_11 (by rw [c5]; decide) (by rw [c5]; decide) (by rw [c5]; rfl) (by decide) ?_
      refine lv_aload_n hx hb dX9_flange_145 rfl (lv_at hl 0 rfl) ?_
      refine lv_iload_n hx hb dX9_flange_146 rfl (lv_at hl 1 rfl) ?_
      refine zfi (wr := []) (va_runV (As := [.int x1]) (rest := []) ⟨hx, hb, hml, hown, hG⟩ (kX9_lengthOf l g h0 x1 h0_told h0_read h0_now h0_readNow h0_kept h0_undone h0_seed h0_hasPart h0_tape h0_taped h0_refused h0_faultKind h0_faultPlace h0_size h0_at h0_from h0_wrong h0_wrongAt h0_ownLetters h0_flats h0_isLaid h0_corner h0_wayX h0_wayY h0_normal h0_low h0_high h0_clear h0_ways h0_canBe h0_lain h0_canTool h0_fewestBy h0_sortOf h0_rows h0_seenFlange h0_seenLength f_h0_told h0_told_3 h0_told_4 f_h0_now h0_now_0 (om_394 c4i hq2 hq3) (om_27 hy0) (om_28 hy1) (om_29 hy2) (om_32 hy3) (om_31 hy4) (om_32 hy5) (om_32 hy6) (om_32 hy7) (om_31 hy8) (om_29 hy9) (om_13 hy10) (om_33 hy11) hy12 (om_155 hy13) hy14 (om_33 hy15) hy16 hy17 (om_13 hy18) hy19 (om_393 c4i hq2 hq3 hy2) _) ⟨callB_of 1 hG (zGood wc_X9_lengthOf) rfl rfl rfl (hG _ wini_X9) (hG _ wm_X9_244) hX9_lengthOf ⟨Nat.le_of_ble_eq_true rfl, Nat.le_of_ble_eq_true rfl⟩, hG _ wi_X9_lengthOf, hG _ wse_X9_X9_lengthOf⟩ (zpreV (va_recv hX.1 hP (ci := 9) (q0 := 1) rfl rfl) hX hP hD hS hA [1, 2, 0] rfl (by decide)) rfl rfl hl.1 rfl (lv_room (Nat.le_of_ble_eq_true rfl)) dX9_flange_147 ⟨Nat.le_of_ble_eq_true rfl, Nat.le_of_ble_eq_true rfl⟩) hP hD hS hA [1, 2, 0] [] rfl rfl (by decide) (by decide) (fun r47 _ H locs hp hP hD hS => ?_)
      refine W.cs (cells' := 0) (slots' := 0) rfl rfl ?_
      have hP : va_P g.1 vwCl [(h0, .inr (9, [.ref h0_told, .ref h0_read, .ref h0_now, .ref h0_readNow, .ref h0_kept, .int h0_undone, .int h0_seed, .int h0_hasPart, .ref h0_tape, .int h0_taped, .ref h0_refused, .int h0_faultKind, .int h0_faultPlace, .int h0_size, .int h0_at, .int h0_from, .int h0_wrong, .int h0_wrongAt, .ref h0_ownLetters, .ref h0_flats, .int h0_isLaid, .ref h0_corner, .ref h0_wayX, .ref h0_wayY, .ref h0_normal, .ref h0_low, .ref h0_high, .ref h0_clear, .ref h0_ways, .ref h0_canBe, .ref h0_lain, .int h0_canTool, .ref h0_fewestBy, .ref h0_sortOf, .int h0_rows, .ref h0_seenFlange, .ref h0_seenLength])), (h0_told, .inl (g.2.1.1, 103, .inl f_h0_told)), (h0_now, .inl (g.2.1.1, 21, .inl f_h0_now))] H := hP
      have hD : va_D A [(h0, .inr (9, [.ref h0_told, .ref h0_read, .ref h0_now, .ref h0_readNow, .ref h0_kept, .int h0_undone, .int h0_seed, .int h0_hasPart, .ref h0_tape, .int h0_taped, .ref h0_refused, .int h0_faultKind, .int h0_faultPlace, .int h0_size, .int h0_at, .int h0_from, .int h0_wrong, .int h0_wrongAt, .ref h0_ownLetters, .ref h0_flats, .int h0_isLaid, .ref h0_corner, .ref h0_wayX, .ref h0_wayY, .ref h0_normal, .ref h0_low, .ref h0_high, .ref h0_clear, .ref h0_ways, .ref h0_canBe, .ref h0_lain, .int h0_canTool, .ref h0_fewestBy, .ref h0_sortOf, .int h0_rows, .ref h0_seenFlange, .ref h0_seenLength])), (h0_told, .inl (g.2.1.1, 103, .inl f_h0_told)), (h0_now, .inl (g.2.1.1, 21, .inl f_h0_now))] := hD
      exact hret r47 () (Nat.le_of_ble_eq_true rfl) (Nat.le_of_ble_eq_true rfl) rfl trivial hP hD hS dX9_flange_150
    · refine lv_tableOut (tgt := 151) hx hb dX9_flange_11 c5 (by decide) ?_
      refine lv_iconst (v := (-1)) hx hb dX9_flange_151 (by decide) ?_
      exact hret (-1 : Int32) () (Nat.le_of_ble_eq_true rfl) (Nat.le_of_ble_eq_true rfl) rfl trivial (hP.sub [1, 2, 0] rfl) (hD.sub [1, 2, 0] (by decide) rfl) hS dX9_flange_152
  · skip
    have c4i : r1.toInt = (0 : Int) := (zc_eq (rfl : r1.toInt = _) (show (0 : Int32).toInt = (0 : Int) from by decide)).mp c4
    refine lv_iconst (v := (-1)) hx hb dX9_flange_8 (by decide) ?_
    exact hret (-1 : Int32) () (Nat.le_of_ble_eq_true rfl) (Nat.le_of_ble_eq_true rfl) rfl trivial (hP.sub [1, 2, 0] rfl) (hD.sub [1, 2, 0] (by decide) rfl) hS dX9_flange_9
theorem dX9_tool_0 : decode cX9_tool 0 = .ok (.aload_n 0, 1) := by decide +kernel
theorem dX9_tool_1 : decode cX9_tool 1 = .ok (.getfield 32, 3) := by decide +kernel
theorem dX9_tool_4 : decode cX9_tool 4 = .ok (.ifCond .eq 30, 3) := by decide +kernel
theorem dX9_tool_34 : decode cX9_tool 34 = .ok (.iconst (-1), 1) := by decide +kernel
theorem dX9_tool_35 : decode cX9_tool 35 = .ok (.ireturn, 1) := by decide +kernel
theorem dX9_tool_7 : decode cX9_tool 7 = .ok (.iload_n 1, 1) := by decide +kernel
theorem dX9_tool_8 : decode cX9_tool 8 = .ok (.iconst 0, 1) := by decide +kernel
theorem dX9_tool_9 : decode cX9_tool 9 = .ok (.aload_n 0, 1) := by decide +kernel
theorem dX9_tool_10 : decode cX9_tool 10 = .ok (.getfield 7, 3) := by decide +kernel
theorem dX9_tool_13 : decode cX9_tool 13 = .ok (.iconst 4, 1) := by decide +kernel
theorem dX9_tool_14 : decode cX9_tool 14 = .ok (.iaload, 1) := by decide +kernel
theorem dX9_tool_15 : decode cX9_tool 15 = .ok (.iconst 1, 1) := by decide +kernel
theorem dX9_tool_16 : decode cX9_tool 16 = .ok (.isub, 1) := by decide +kernel
theorem dX9_tool_17 : decode cX9_tool 17 = .ok (.invokestatic 163, 3) := by decide +kernel
theorem dX9_tool_20 : decode cX9_tool 20 = .ok (.ifCond .eq 14, 3) := by decide +kernel
theorem dX9_tool_23 : decode cX9_tool 23 = .ok (.aload_n 0, 1) := by decide +kernel
theorem dX9_tool_24 : decode cX9_tool 24 = .ok (.getfield 7, 3) := by decide +kernel
theorem dX9_tool_27 : decode cX9_tool 27 = .ok (.iconst 5, 1) := by decide +kernel
theorem dX9_tool_28 : decode cX9_tool 28 = .ok (.iload_n 1, 1) := by decide +kernel
theorem dX9_tool_29 : decode cX9_tool 29 = .ok (.iadd, 1) := by decide +kernel
theorem dX9_tool_30 : decode cX9_tool 30 = .ok (.iaload, 1) := by decide +kernel
theorem dX9_tool_31 : decode cX9_tool 31 = .ok (.goto 4, 3) := by decide +kernel
abbrev rm_kX9_tool : Room := { frames := 1, cells := 0, slots := 0, locals := 22 }
set_option maxHeartbeats 4000000 in
set_option maxRecDepth 100000 in
theorem kX9_tool (l : Launch) (g : zL) (h0 : Nat) (x1 : Int32) (h0_told : Nat) (h0_read : Nat) (h0_now : Nat) (h0_readNow : Nat) (h0_kept : Nat) (h0_undone : Int32) (h0_seed : Int32) (h0_hasPart : Int32) (h0_tape : Nat) (h0_taped : Int32) (h0_refused : Nat) (h0_faultKind : Int32) (h0_faultPlace : Int32) (h0_size : Int32) (h0_at : Int32) (h0_from : Int32) (h0_wrong : Int32) (h0_wrongAt : Int32) (h0_ownLetters : Nat) (h0_flats : Nat) (h0_isLaid : Int32) (h0_corner : Nat) (h0_wayX : Nat) (h0_wayY : Nat) (h0_normal : Nat) (h0_low : Nat) (h0_high : Nat) (h0_clear : Nat) (h0_ways : Nat) (h0_canBe : Nat) (h0_lain : Nat) (h0_canTool : Int32) (h0_fewestBy : Nat) (h0_sortOf : Nat) (h0_rows : Int32) (h0_seenFlange : Nat) (h0_seenLength : Nat) (f_h0_told : Nat → Int32) (h0_told_3 : Int32) (h0_told_4 : Int32) (hy0 : 0 ≤ h0_undone.toInt ∧ h0_undone.toInt ≤ 20) (hy1 : 0 ≤ h0_seed.toInt ∧ h0_seed.toInt ≤ 2147483647) (hy2 : 0 ≤ h0_hasPart.toInt ∧ h0_hasPart.toInt ≤ 1) (hy3 : 0 ≤ h0_taped.toInt ∧ h0_taped.toInt ≤ 1200) (hy4 : 0 ≤ h0_faultKind.toInt ∧ h0_faultKind.toInt ≤ 5) (hy5 : 0 ≤ h0_size.toInt ∧ h0_size.toInt ≤ 1200) (hy6 : 0 ≤ h0_at.toInt ∧ h0_at.toInt ≤ 1200) (hy7 : 0 ≤ h0_from.toInt ∧ h0_from.toInt ≤ 1200) (hy8 : 0 ≤ h0_wrong.toInt ∧ h0_wrong.toInt ≤ 5) (hy9 : 0 ≤ h0_isLaid.toInt ∧ h0_isLaid.toInt ≤ 1) (hy10 : 0 ≤ h0_canTool.toInt ∧ h0_canTool.toInt ≤ 255) (hy11 : 0 ≤ h0_rows.toInt ∧ h0_rows.toInt ≤ 8) (hy12 : pW mB f_h0_told) (hy13 : 0 ≤ h0_told_3.toInt ∧ h0_told_3.toInt ≤ 9) (hy14 : cEq f_h0_told 3 h0_told_3) (hy15 : 0 ≤ h0_told_4.toInt ∧ h0_told_4.toInt ≤ 8) (hy16 : cEq f_h0_told 4 h0_told_4) (hy17 : ((h0_hasPart.toInt = 0 ∧ h0_told_3.toInt = 0) ∨ (h0_hasPart.toInt = 1 ∧ 1 ≤ h0_told_3.toInt))) : zCi l g yX9_tool cX9_tool 2 (some .int) rm_kX9_tool [.ref h0, .int x1] [(h0, .inr (9, [.ref h0_told, .ref h0_read, .ref h0_now, .ref h0_readNow, .ref h0_kept, .int h0_undone, .int h0_seed, .int h0_hasPart, .ref h0_tape, .int h0_taped, .ref h0_refused, .int h0_faultKind, .int h0_faultPlace, .int h0_size, .int h0_at, .int h0_from, .int h0_wrong, .int h0_wrongAt, .ref h0_ownLetters, .ref h0_flats, .int h0_isLaid, .ref h0_corner, .ref h0_wayX, .ref h0_wayY, .ref h0_normal, .ref h0_low, .ref h0_high, .ref h0_clear, .ref h0_ways, .ref h0_canBe, .ref h0_lain, .int h0_canTool, .ref h0_fewestBy, .ref h0_sortOf, .int h0_rows, .ref h0_seenFlange, .ref h0_seenLength])), (h0_told, .inl (g.2.1.1, 103, .inl f_h0_told))] (fun (r : Int32) (u : Unit) => True) (fun (u : Unit) => [(h0, .inr (9, [.ref h0_told, .ref h0_read, .ref h0_now, .ref h0_readNow, .ref h0_kept, .int h0_undone, .int h0_seed, .int h0_hasPart, .ref h0_tape, .int h0_taped, .ref h0_refused, .int h0_faultKind, .int h0_faultPlace, .int h0_size, .int h0_at, .int h0_from, .int h0_wrong, .int h0_wrongAt, .ref h0_ownLetters, .ref h0_flats, .int h0_isLaid, .ref h0_corner, .ref h0_wayX, .ref h0_wayY, .ref h0_normal, .ref h0_low, .ref h0_high, .ref h0_clear, .ref h0_ways, .ref h0_canBe, .ref h0_lain, .int h0_canTool, .ref h0_fewestBy, .ref h0_sortOf, .int h0_rows, .ref h0_seenFlange, .ref h0_seenLength])), (h0_told, .inl (g.2.1.1, 103, .inl f_h0_told))]) := by
  refine zCi.mk2 (by decide) (Nat.le_of_ble_eq_true rfl) ?_
  intro p e s m below meth c A args Q hE hret hP hD hS ls hl
  obtain ⟨hx, hb, hr, hml, hown, hG, hlocks, hnm, hX, hA⟩ := hE
  have hown : s.vm.findClass RX9 = some m.cls := hown
  have hl : lv_has ls 2 [(0, .ref h0), (1, .int x1)] := hl
  refine lv_aload_n hx hb dX9_tool_0 rfl (lv_at hl 0 rfl) ?_
  refine va_get (D := g.1) (ci := 9) (v := .int h0_hasPart) (C := RX9) (T := TX9) (N := 37) hx hb hG iX9 hown hX.1 hP 0 rfl rfl 7 (by decide) (hG _ wf_X9_32) (fun _ h9 => h9) rfl dX9_tool_1 ?_
  refine lv_if_eq (tgt := 34) hx hb dX9_tool_4 (by decide) (fun c1 => ?_) (fun c1 => ?_)
  · skip
    have c1i : h0_hasPart.toInt = (0 : Int) := (zc_eq (rfl : h0_hasPart.toInt = _) (show (0 : Int32).toInt = (0 : Int) from by decide)).mp c1
    refine lv_iconst (v := (-1)) hx hb dX9_tool_34 (by decide) ?_
    exact hret (-1 : Int32) () (Nat.le_of_ble_eq_true rfl) (Nat.le_of_ble_eq_true rfl) rfl trivial hP hD hS dX9_tool_35
  · skip
    have c1i : ¬ (h0_hasPart.toInt = (0 : Int)) := fun q => c1 ((zc_eq (rfl : h0_hasPart.toInt = _) (show (0 : Int32).toInt = (0 : Int) from by decide)).mpr q)
    refine lv_iload_n hx hb dX9_tool_7 rfl (lv_at hl 1 rfl) ?_
    refine lv_iconst (v := 0) hx hb dX9_tool_8 (by decide) ?_
    refine lv_aload_n hx hb dX9_tool_9 rfl (lv_at hl 0 rfl) ?_
    refine va_get (D := g.1) (ci := 9) (v := .ref h0_told) (C := RX9) (T := TX9) (N := 37) hx hb hG iX9 hown hX.1 hP 0 rfl rfl 0 (by decide) (hG _ wf_X9_7) (fun _ h9 => h9) rfl dX9_tool_10 ?_
    refine lv_iconst (v := 4) hx hb dX9_tool_13 (by decide) ?_
    refine va_iald hx hb hX.1 hP 1 0 rfl rfl (zin (show (4 : Int32).toInt = (4 : Int) from by decide) ((show 0 ≤ (4 : Int) ∧ (4 : Int) < 103 from by decide))) dX9_tool_14 ?_
    refine zt (z := h0_told_4) (cEq.at hy16 (by decide)) ?_
    refine lv_iconst (v := 1) hx hb dX9_tool_15 (by decide) ?_
    refine lv_isub hx hb dX9_tool_16 ?_
    refine lv_topi (fun z2 e3 => ?_)
    have f4 : z2.toInt = h0_told_4.toInt - (1 : Int) := zs e3 (rfl : h0_told_4.toInt = _) (show (1 : Int32).toInt = (1 : Int) from by decide) (om_395 hy15)
    refine zfi (wr := [(h0, .inr (9, [.ref h0_told, .ref h0_read, .ref h0_now, .ref h0_readNow, .ref h0_kept, .int h0_undone, .int h0_seed, .int h0_hasPart, .ref h0_tape, .int h0_taped, .ref h0_refused, .int h0_faultKind, .int h0_faultPlace, .int h0_size, .int h0_at, .int h0_from, .int h0_wrong, .int h0_wrongAt, .ref h0_ownLetters, .ref h0_flats, .int h0_isLaid, .ref h0_corner, .ref h0_wayX, .ref h0_wayY, .ref h0_normal, .ref h0_low, .ref h0_high, .ref h0_clear, .ref h0_ways, .ref h0_canBe, .ref h0_lain, .int h0_canTool, .ref h0_fewestBy, .ref h0_sortOf, .int h0_rows, .ref h0_seenFlange, .ref h0_seenLength])), (h0_told, .inl (g.2.1.1, 103, .inl f_h0_told))]) (va_runS (As := [.int x1, .int 0, .int z2]) (rest := []) ⟨hx, hb, hml, hown, hG⟩ (kX9_isIn l g x1 (0 : Int32) z2 _) ⟨callB_of 3 hG (zGood wc_X9_isIn) rfl rfl rfl (hG _ wini_X9) (hG _ wm_X9_163) hX9_isIn ⟨Nat.le_of_ble_eq_true rfl, Nat.le_of_ble_eq_true rfl⟩, hG _ ws_X9_isIn⟩ (zpreS hX hP hD hS hA [] rfl (by decide)) rfl rfl hl.1 rfl (lv_room (Nat.le_of_ble_eq_true rfl)) dX9_tool_17 ⟨Nat.le_of_ble_eq_true rfl, Nat.le_of_ble_eq_true rfl⟩) hP hD hS hA [] [0, 1] rfl rfl (by decide) (by decide) (fun r5 _ H locs hp hP hD hS => ?_)
    refine W.cs (cells' := 0) (slots' := 0) rfl rfl ?_
    obtain ⟨hq6, hq7, hq8⟩ : (0 ≤ r5.toInt ∧ r5.toInt ≤ 1) ∧ ((r5.toInt = 0 ∨ ((0 : Int) ≤ x1.toInt ∧ x1.toInt ≤ z2.toInt))) ∧ ((r5.toInt = 1 ∨ ¬ ((0 : Int) ≤ x1.toInt ∧ x1.toInt ≤ z2.toInt))) := hp
    have hP : va_P g.1 vwCl [(h0, .inr (9, [.ref h0_told, .ref h0_read, .ref h0_now, .ref h0_readNow, .ref h0_kept, .int h0_undone, .int h0_seed, .int h0_hasPart, .ref h0_tape, .int h0_taped, .ref h0_refused, .int h0_faultKind, .int h0_faultPlace, .int h0_size, .int h0_at, .int h0_from, .int h0_wrong, .int h0_wrongAt, .ref h0_ownLetters, .ref h0_flats, .int h0_isLaid, .ref h0_corner, .ref h0_wayX, .ref h0_wayY, .ref h0_normal, .ref h0_low, .ref h0_high, .ref h0_clear, .ref h0_ways, .ref h0_canBe, .ref h0_lain, .int h0_canTool, .ref h0_fewestBy, .ref h0_sortOf, .int h0_rows, .ref h0_seenFlange, .ref h0_seenLength])), (h0_told, .inl (g.2.1.1, 103, .inl f_h0_told))] H := hP
    have hD : va_D A [(h0, .inr (9, [.ref h0_told, .ref h0_read, .ref h0_now, .ref h0_readNow, .ref h0_kept, .int h0_undone, .int h0_seed, .int h0_hasPart, .ref h0_tape, .int h0_taped, .ref h0_refused, .int h0_faultKind, .int h0_faultPlace, .int h0_size, .int h0_at, .int h0_from, .int h0_wrong, .int h0_wrongAt, .ref h0_ownLetters, .ref h0_flats, .int h0_isLaid, .ref h0_corner, .ref h0_wayX, .ref h0_wayY, .ref h0_normal, .ref h0_low, .ref h0_high, .ref h0_clear, .ref h0_ways, .ref h0_canBe, .ref h0_lain, .int h0_canTool, .ref h0_fewestBy, .ref h0_sortOf, .int h0_rows, .ref h0_seenFlange, .ref h0_seenLength])), (h0_told, .inl (g.2.1.1, 103, .inl f_h0_told))] := hD
    refine lv_if_eq (tgt := 34) hx hb dX9_tool_20 (by decide) (fun c9 => ?_) (fun c9 => ?_)
    · skip
      have c9i : r5.toInt = (0 : Int) := (zc_eq (rfl : r5.toInt = _) (show (0 : Int32).toInt = (0 : Int) from by decide)).mp c9
      refine lv_iconst (v := (-1)) hx hb dX9_tool_34 (by decide) ?_
      exact hret (-1 : Int32) () (Nat.le_of_ble_eq_true rfl) (Nat.le_of_ble_eq_true rfl) rfl trivial hP hD hS dX9_tool_35
    · skip
      have c9i : ¬ (r5.toInt = (0 : Int)) := fun q => c9 ((zc_eq (rfl : r5.toInt = _) (show (0 : Int32).toInt = (0 : Int) from by decide)).mpr q)
      refine lv_aload_n hx hb dX9_tool_23 rfl (lv_at hl 0 rfl) ?_
      refine va_get (D := g.1) (ci := 9) (v := .ref h0_told) (C := RX9) (T := TX9) (N := 37) hx hb hG iX9 hown hX.1 hP 0 rfl rfl 0 (by decide) (hG _ wf_X9_7) (fun _ h9 => h9) rfl dX9_tool_24 ?_
      refine lv_iconst (v := 5) hx hb dX9_tool_27 (by decide) ?_
      refine lv_iload_n hx hb dX9_tool_28 rfl (lv_at hl 1 rfl) ?_
      refine lv_iadd hx hb dX9_tool_29 ?_
      refine lv_topi (fun z10 e11 => ?_)
      have f12 : z10.toInt = (5 : Int) + x1.toInt := za e11 (show (5 : Int32).toInt = (5 : Int) from by decide) (rfl : x1.toInt = _) (om_396 (zr x1) c9i f4 hq6 hq7 hy15)
      refine va_iald hx hb hX.1 hP 1 0 rfl rfl (zin (rfl : z10.toInt = _) (om_397 c9i f12 f4 hq6 hq7 hy15)) dX9_tool_30 ?_
      refine lv_topi (fun z13 e14 => ?_)
      refine lv_goto (tgt := 35) hx hb dX9_tool_31 (by decide) ?_
      exact hret z13 () (Nat.le_of_ble_eq_true rfl) (Nat.le_of_ble_eq_true rfl) rfl trivial hP hD hS dX9_tool_35
theorem dX9_allowance_0 : decode cX9_allowance 0 = .ok (.aload_n 0, 1) := by decide +kernel
theorem dX9_allowance_1 : decode cX9_allowance 1 = .ok (.getfield 32, 3) := by decide +kernel
theorem dX9_allowance_4 : decode cX9_allowance 4 = .ok (.ifCond .eq 21, 3) := by decide +kernel
theorem dX9_allowance_25 : decode cX9_allowance 25 = .ok (.iconst (-1), 1) := by decide +kernel
theorem dX9_allowance_26 : decode cX9_allowance 26 = .ok (.ireturn, 1) := by decide +kernel
theorem dX9_allowance_7 : decode cX9_allowance 7 = .ok (.iload_n 1, 1) := by decide +kernel
theorem dX9_allowance_8 : decode cX9_allowance 8 = .ok (.iconst 1, 1) := by decide +kernel
theorem dX9_allowance_9 : decode cX9_allowance 9 = .ok (.bipush 9, 2) := by decide +kernel
theorem dX9_allowance_11 : decode cX9_allowance 11 = .ok (.invokestatic 163, 3) := by decide +kernel
theorem dX9_allowance_14 : decode cX9_allowance 14 = .ok (.ifCond .eq 11, 3) := by decide +kernel
theorem dX9_allowance_17 : decode cX9_allowance 17 = .ok (.aload_n 0, 1) := by decide +kernel
theorem dX9_allowance_18 : decode cX9_allowance 18 = .ok (.iload_n 1, 1) := by decide +kernel
theorem dX9_allowance_19 : decode cX9_allowance 19 = .ok (.invokevirtual 232, 3) := by decide +kernel
theorem dX9_allowance_22 : decode cX9_allowance 22 = .ok (.goto 4, 3) := by decide +kernel
abbrev rm_kX9_allowance : Room := { frames := 1, cells := 0, slots := 0, locals := 22 }
set_option maxHeartbeats 4000000 in
set_option maxRecDepth 100000 in
theorem kX9_allowance (l : Launch) (g : zL) (h0 : Nat) (x1 : Int32) (h0_told : Nat) (h0_read : Nat) (h0_now : Nat) (h0_readNow : Nat) (h0_kept : Nat) (h0_undone : Int32) (h0_seed : Int32) (h0_hasPart : Int32) (h0_tape : Nat) (h0_taped : Int32) (h0_refused : Nat) (h0_faultKind : Int32) (h0_faultPlace : Int32) (h0_size : Int32) (h0_at : Int32) (h0_from : Int32) (h0_wrong : Int32) (h0_wrongAt : Int32) (h0_ownLetters : Nat) (h0_flats : Nat) (h0_isLaid : Int32) (h0_corner : Nat) (h0_wayX : Nat) (h0_wayY : Nat) (h0_normal : Nat) (h0_low : Nat) (h0_high : Nat) (h0_clear : Nat) (h0_ways : Nat) (h0_canBe : Nat) (h0_lain : Nat) (h0_canTool : Int32) (h0_fewestBy : Nat) (h0_sortOf : Nat) (h0_rows : Int32) (h0_seenFlange : Nat) (h0_seenLength : Nat) (f_h0_now : Nat → Int32) (h0_now_0 : Int32) (f_h0_told : Nat → Int32) (h0_told_3 : Int32) (h0_told_4 : Int32) (hy0 : 0 ≤ h0_undone.toInt ∧ h0_undone.toInt ≤ 20) (hy1 : 0 ≤ h0_seed.toInt ∧ h0_seed.toInt ≤ 2147483647) (hy2 : 0 ≤ h0_hasPart.toInt ∧ h0_hasPart.toInt ≤ 1) (hy3 : 0 ≤ h0_taped.toInt ∧ h0_taped.toInt ≤ 1200) (hy4 : 0 ≤ h0_faultKind.toInt ∧ h0_faultKind.toInt ≤ 5) (hy5 : 0 ≤ h0_size.toInt ∧ h0_size.toInt ≤ 1200) (hy6 : 0 ≤ h0_at.toInt ∧ h0_at.toInt ≤ 1200) (hy7 : 0 ≤ h0_from.toInt ∧ h0_from.toInt ≤ 1200) (hy8 : 0 ≤ h0_wrong.toInt ∧ h0_wrong.toInt ≤ 5) (hy9 : 0 ≤ h0_isLaid.toInt ∧ h0_isLaid.toInt ≤ 1) (hy10 : 0 ≤ h0_canTool.toInt ∧ h0_canTool.toInt ≤ 255) (hy11 : 0 ≤ h0_rows.toInt ∧ h0_rows.toInt ≤ 8) (hy12 : pW nB f_h0_now) (hy13 : 0 ≤ h0_now_0.toInt ∧ h0_now_0.toInt ≤ 255) (hy14 : cEq f_h0_now 0 h0_now_0) (hy15 : pW mB f_h0_told) (hy16 : 0 ≤ h0_told_3.toInt ∧ h0_told_3.toInt ≤ 9) (hy17 : cEq f_h0_told 3 h0_told_3) (hy18 : 0 ≤ h0_told_4.toInt ∧ h0_told_4.toInt ≤ 8) (hy19 : cEq f_h0_told 4 h0_told_4) (hy20 : ((h0_hasPart.toInt = 0 ∧ h0_told_3.toInt = 0) ∨ (h0_hasPart.toInt = 1 ∧ 1 ≤ h0_told_3.toInt))) : zCi l g yX9_allowance cX9_allowance 2 (some .int) rm_kX9_allowance [.ref h0, .int x1] [(h0, .inr (9, [.ref h0_told, .ref h0_read, .ref h0_now, .ref h0_readNow, .ref h0_kept, .int h0_undone, .int h0_seed, .int h0_hasPart, .ref h0_tape, .int h0_taped, .ref h0_refused, .int h0_faultKind, .int h0_faultPlace, .int h0_size, .int h0_at, .int h0_from, .int h0_wrong, .int h0_wrongAt, .ref h0_ownLetters, .ref h0_flats, .int h0_isLaid, .ref h0_corner, .ref h0_wayX, .ref h0_wayY, .ref h0_normal, .ref h0_low, .ref h0_high, .ref h0_clear, .ref h0_ways, .ref h0_canBe, .ref h0_lain, .int h0_canTool, .ref h0_fewestBy, .ref h0_sortOf, .int h0_rows, .ref h0_seenFlange, .ref h0_seenLength])), (h0_now, .inl (g.2.1.1, 21, .inl f_h0_now)), (h0_told, .inl (g.2.1.1, 103, .inl f_h0_told))] (fun (r : Int32) (u : Unit) => True) (fun (u : Unit) => [(h0, .inr (9, [.ref h0_told, .ref h0_read, .ref h0_now, .ref h0_readNow, .ref h0_kept, .int h0_undone, .int h0_seed, .int h0_hasPart, .ref h0_tape, .int h0_taped, .ref h0_refused, .int h0_faultKind, .int h0_faultPlace, .int h0_size, .int h0_at, .int h0_from, .int h0_wrong, .int h0_wrongAt, .ref h0_ownLetters, .ref h0_flats, .int h0_isLaid, .ref h0_corner, .ref h0_wayX, .ref h0_wayY, .ref h0_normal, .ref h0_low, .ref h0_high, .ref h0_clear, .ref h0_ways, .ref h0_canBe, .ref h0_lain, .int h0_canTool, .ref h0_fewestBy, .ref h0_sortOf, .int h0_rows, .ref h0_seenFlange, .ref h0_seenLength])), (h0_now, .inl (g.2.1.1, 21, .inl f_h0_now)), (h0_told, .inl (g.2.1.1, 103, .inl f_h0_told))]) := by
  refine zCi.mk2 (by decide) (Nat.le_of_ble_eq_true rfl) ?_
  intro p e s m below meth c A args Q hE hret hP hD hS ls hl
  obtain ⟨hx, hb, hr, hml, hown, hG, hlocks, hnm, hX, hA⟩ := hE
  have hown : s.vm.findClass RX9 = some m.cls := hown
  have hl : lv_has ls 2 [(0, .ref h0), (1, .int x1)] := hl
  refine lv_aload_n hx hb dX9_allowance_0 rfl (lv_at hl 0 rfl) ?_
  refine va_get (D := g.1) (ci := 9) (v := .int h0_hasPart) (C := RX9) (T := TX9) (N := 37) hx hb hG iX9 hown hX.1 hP 0 rfl rfl 7 (by decide) (hG _ wf_X9_32) (fun _ h9 => h9) rfl dX9_allowance_1 ?_
  refine lv_if_eq (tgt := 25) hx hb dX9_allowance_4 (by decide) (fun c1 => ?_) (fun c1 => ?_)
  · skip
    have c1i : h0_hasPart.toInt = (0 : Int) := (zc_eq (rfl : h0_hasPart.toInt = _) (show (0 : Int32).toInt = (0 : Int) from by decide)).mp c1
    refine lv_iconst (v := (-1)) hx hb dX9_allowance_25 (by decide) ?_
    exact hret (-1 : Int32) () (Nat.le_of_ble_eq_true rfl) (Nat.le_of_ble_eq_true rfl) rfl trivial hP hD hS dX9_allowance_26
  · skip
    have c1i : ¬ (h0_hasPart.toInt = (0 : Int)) := fun q => c1 ((zc_eq (rfl : h0_hasPart.toInt = _) (show (0 : Int32).toInt = (0 : Int) from by decide)).mpr q)
    refine lv_iload_n hx hb dX9_allowance_7 rfl (lv_at hl 1 rfl) ?_
    refine lv_iconst (v := 1) hx hb dX9_allowance_8 (by decide) ?_
    refine lv_bipush (v := 9) hx hb dX9_allowance_9 (by decide) ?_
    refine zfi (wr := [(h0, .inr (9, [.ref h0_told, .ref h0_read, .ref h0_now, .ref h0_readNow, .ref h0_kept, .int h0_undone, .int h0_seed, .int h0_hasPart, .ref h0_tape, .int h0_taped, .ref h0_refused, .int h0_faultKind, .int h0_faultPlace, .int h0_size, .int h0_at, .int h0_from, .int h0_wrong, .int h0_wrongAt, .ref h0_ownLetters, .ref h0_flats, .int h0_isLaid, .ref h0_corner, .ref h0_wayX, .ref h0_wayY, .ref h0_normal, .ref h0_low, .ref h0_high, .ref h0_clear, .ref h0_ways, .ref h0_canBe, .ref h0_lain, .int h0_canTool, .ref h0_fewestBy, .ref h0_sortOf, .int h0_rows, .ref h0_seenFlange, .ref h0_seenLength])), (h0_now, .inl (g.2.1.1, 21, .inl f_h0_now)), (h0_told, .inl (g.2.1.1, 103, .inl f_h0_told))]) (va_runS (As := [.int x1, .int 1, .int 9]) (rest := []) ⟨hx, hb, hml, hown, hG⟩ (kX9_isIn l g x1 (1 : Int32) (9 : Int32) _) ⟨callB_of 3 hG (zGood wc_X9_isIn) rfl rfl rfl (hG _ wini_X9) (hG _ wm_X9_163) hX9_isIn ⟨Nat.le_of_ble_eq_true rfl, Nat.le_of_ble_eq_true rfl⟩, hG _ ws_X9_isIn⟩ (zpreS hX hP hD hS hA [] rfl (by decide)) rfl rfl hl.1 rfl (lv_room (Nat.le_of_ble_eq_true rfl)) dX9_allowance_11 ⟨Nat.le_of_ble_eq_true rfl, Nat.le_of_ble_eq_true rfl⟩) hP hD hS hA [] [0, 1, 2] rfl rfl (by decide) (by decide) (fun r2 _ H locs hp hP hD hS => ?_)
    refine W.cs (cells' := 0) (slots' := 0) rfl rfl ?_
    obtain ⟨hq3, hq4, hq5⟩ : (0 ≤ r2.toInt ∧ r2.toInt ≤ 1) ∧ ((r2.toInt = 0 ∨ ((1 : Int) ≤ x1.toInt ∧ x1.toInt ≤ (9 : Int)))) ∧ ((r2.toInt = 1 ∨ ¬ ((1 : Int) ≤ x1.toInt ∧ x1.toInt ≤ (9 : Int)))) := hp
    have hP : va_P g.1 vwCl [(h0, .inr (9, [.ref h0_told, .ref h0_read, .ref h0_now, .ref h0_readNow, .ref h0_kept, .int h0_undone, .int h0_seed, .int h0_hasPart, .ref h0_tape, .int h0_taped, .ref h0_refused, .int h0_faultKind, .int h0_faultPlace, .int h0_size, .int h0_at, .int h0_from, .int h0_wrong, .int h0_wrongAt, .ref h0_ownLetters, .ref h0_flats, .int h0_isLaid, .ref h0_corner, .ref h0_wayX, .ref h0_wayY, .ref h0_normal, .ref h0_low, .ref h0_high, .ref h0_clear, .ref h0_ways, .ref h0_canBe, .ref h0_lain, .int h0_canTool, .ref h0_fewestBy, .ref h0_sortOf, .int h0_rows, .ref h0_seenFlange, .ref h0_seenLength])), (h0_now, .inl (g.2.1.1, 21, .inl f_h0_now)), (h0_told, .inl (g.2.1.1, 103, .inl f_h0_told))] H := hP
    have hD : va_D A [(h0, .inr (9, [.ref h0_told, .ref h0_read, .ref h0_now, .ref h0_readNow, .ref h0_kept, .int h0_undone, .int h0_seed, .int h0_hasPart, .ref h0_tape, .int h0_taped, .ref h0_refused, .int h0_faultKind, .int h0_faultPlace, .int h0_size, .int h0_at, .int h0_from, .int h0_wrong, .int h0_wrongAt, .ref h0_ownLetters, .ref h0_flats, .int h0_isLaid, .ref h0_corner, .ref h0_wayX, .ref h0_wayY, .ref h0_normal, .ref h0_low, .ref h0_high, .ref h0_clear, .ref h0_ways, .ref h0_canBe, .ref h0_lain, .int h0_canTool, .ref h0_fewestBy, .ref h0_sortOf, .int h0_rows, .ref h0_seenFlange, .ref h0_seenLength])), (h0_now, .inl (g.2.1.1, 21, .inl f_h0_now)), (h0_told, .inl (g.2.1.1, 103, .inl f_h0_told))] := hD
    refine lv_if_eq (tgt := 25) hx hb dX9_allowance_14 (by decide) (fun c6 => ?_) (fun c6 => ?_)
    · skip
      have c6i : r2.toInt = (0 : Int) := (zc_eq (rfl : r2.toInt = _) (show (0 : Int32).toInt = (0 : Int) from by decide)).mp c6
      refine lv_iconst (v := (-1)) hx hb dX9_allowance_25 (by decide) ?_
      exact hret (-1 : Int32) () (Nat.le_of_ble_eq_true rfl) (Nat.le_of_ble_eq_true rfl) rfl trivial hP hD hS dX9_allowance_26
    · skip
      have c6i : ¬ (r2.toInt = (0 : Int)) := fun q => c6 ((zc_eq (rfl : r2.toInt = _) (show (0 : Int32).toInt = (0 : Int) from by decide)).mpr q)
      refine lv_aload_n hx hb dX9_allowance_17 rfl (lv_at hl 0 rfl) ?_
      refine lv_iload_n hx hb dX9_allowance_18 rfl (lv_at hl 1 rfl) ?_
      refine zfi (wr := []) (va_runV (As := [.int x1]) (rest := []) ⟨hx, hb, hml, hown, hG⟩ (kX9_allowanceOf l g h0 x1 h0_told h0_read h0_now h0_readNow h0_kept h0_undone h0_seed h0_hasPart h0_tape h0_taped h0_refused h0_faultKind h0_faultPlace h0_size h0_at h0_from h0_wrong h0_wrongAt h0_ownLetters h0_flats h0_isLaid h0_corner h0_wayX h0_wayY h0_normal h0_low h0_high h0_clear h0_ways h0_canBe h0_lain h0_canTool h0_fewestBy h0_sortOf h0_rows h0_seenFlange h0_seenLength f_h0_now h0_now_0 f_h0_told h0_told_3 h0_told_4 (om_399 c6i hq3 hq4) (om_27 hy0) (om_28 hy1) (om_29 hy2) (om_32 hy3) (om_31 hy4) (om_32 hy5) (om_32 hy6) (om_32 hy7) (om_31 hy8) (om_29 hy9) (om_13 hy10) (om_33 hy11) hy12 (om_13 hy13) hy14 hy15 (om_155 hy16) hy17 (om_33 hy18) hy19 (om_400 c1i hy2 hy20) _) ⟨callB_of 1 hG (zGood wc_X9_allowanceOf) rfl rfl rfl (hG _ wini_X9) (hG _ wm_X9_232) hX9_allowanceOf ⟨Nat.le_of_ble_eq_true rfl, Nat.le_of_ble_eq_true rfl⟩, hG _ wi_X9_allowanceOf, hG _ wse_X9_X9_allowanceOf⟩ (zpreV (va_recv hX.1 hP (ci := 9) (q0 := 0) rfl rfl) hX hP hD hS hA [0, 1, 2] rfl (by decide)) rfl rfl hl.1 rfl (lv_room (Nat.le_of_ble_eq_true rfl)) dX9_allowance_19 ⟨Nat.le_of_ble_eq_true rfl, Nat.le_of_ble_eq_true rfl⟩) hP hD hS hA [0, 1, 2] [] rfl rfl (by decide) (by decide) (fun r7 _ H locs hp hP hD hS => ?_)
      refine W.cs (cells' := 0) (slots' := 0) rfl rfl ?_
      have hP : va_P g.1 vwCl [(h0, .inr (9, [.ref h0_told, .ref h0_read, .ref h0_now, .ref h0_readNow, .ref h0_kept, .int h0_undone, .int h0_seed, .int h0_hasPart, .ref h0_tape, .int h0_taped, .ref h0_refused, .int h0_faultKind, .int h0_faultPlace, .int h0_size, .int h0_at, .int h0_from, .int h0_wrong, .int h0_wrongAt, .ref h0_ownLetters, .ref h0_flats, .int h0_isLaid, .ref h0_corner, .ref h0_wayX, .ref h0_wayY, .ref h0_normal, .ref h0_low, .ref h0_high, .ref h0_clear, .ref h0_ways, .ref h0_canBe, .ref h0_lain, .int h0_canTool, .ref h0_fewestBy, .ref h0_sortOf, .int h0_rows, .ref h0_seenFlange, .ref h0_seenLength])), (h0_now, .inl (g.2.1.1, 21, .inl f_h0_now)), (h0_told, .inl (g.2.1.1, 103, .inl f_h0_told))] H := hP
      have hD : va_D A [(h0, .inr (9, [.ref h0_told, .ref h0_read, .ref h0_now, .ref h0_readNow, .ref h0_kept, .int h0_undone, .int h0_seed, .int h0_hasPart, .ref h0_tape, .int h0_taped, .ref h0_refused, .int h0_faultKind, .int h0_faultPlace, .int h0_size, .int h0_at, .int h0_from, .int h0_wrong, .int h0_wrongAt, .ref h0_ownLetters, .ref h0_flats, .int h0_isLaid, .ref h0_corner, .ref h0_wayX, .ref h0_wayY, .ref h0_normal, .ref h0_low, .ref h0_high, .ref h0_clear, .ref h0_ways, .ref h0_canBe, .ref h0_lain, .int h0_canTool, .ref h0_fewestBy, .ref h0_sortOf, .int h0_rows, .ref h0_seenFlange, .ref h0_seenLength])), (h0_now, .inl (g.2.1.1, 21, .inl f_h0_now)), (h0_told, .inl (g.2.1.1, 103, .inl f_h0_told))] := hD
      refine lv_goto (tgt := 26) hx hb dX9_allowance_22 (by decide) ?_
      exact hret r7 () (Nat.le_of_ble_eq_true rfl) (Nat.le_of_ble_eq_true rfl) rfl trivial hP hD hS dX9_allowance_26
theorem dX9_alongX_0 : decode cX9_alongX 0 = .ok (.aload_n 0, 1) := by decide +kernel
theorem dX9_alongX_1 : decode cX9_alongX 1 = .ok (.getfield 7, 3) := by decide +kernel
theorem dX9_alongX_4 : decode cX9_alongX 4 = .ok (.iload_n 1, 1) := by decide +kernel
theorem dX9_alongX_5 : decode cX9_alongX 5 = .ok (.iconst 0, 1) := by decide +kernel
theorem dX9_alongX_6 : decode cX9_alongX 6 = .ok (.invokestatic 177, 3) := by decide +kernel
theorem dX9_alongX_9 : decode cX9_alongX 9 = .ok (.ireturn, 1) := by decide +kernel
abbrev rm_kX9_alongX : Room := { frames := 1, cells := 0, slots := 0, locals := 23 }
set_option maxHeartbeats 4000000 in
set_option maxRecDepth 100000 in
theorem kX9_alongX (l : Launch) (g : zL) (h0 : Nat) (x1 : Int32) (h0_told : Nat) (h0_read : Nat) (h0_now : Nat) (h0_readNow : Nat) (h0_kept : Nat) (h0_undone : Int32) (h0_seed : Int32) (h0_hasPart : Int32) (h0_tape : Nat) (h0_taped : Int32) (h0_refused : Nat) (h0_faultKind : Int32) (h0_faultPlace : Int32) (h0_size : Int32) (h0_at : Int32) (h0_from : Int32) (h0_wrong : Int32) (h0_wrongAt : Int32) (h0_ownLetters : Nat) (h0_flats : Nat) (h0_isLaid : Int32) (h0_corner : Nat) (h0_wayX : Nat) (h0_wayY : Nat) (h0_normal : Nat) (h0_low : Nat) (h0_high : Nat) (h0_clear : Nat) (h0_ways : Nat) (h0_canBe : Nat) (h0_lain : Nat) (h0_canTool : Int32) (h0_fewestBy : Nat) (h0_sortOf : Nat) (h0_rows : Int32) (h0_seenFlange : Nat) (h0_seenLength : Nat) (f_h0_told : Nat → Int32) (h0_told_3 : Int32) (h0_told_4 : Int32) (hy0 : 0 ≤ x1.toInt ∧ x1.toInt ≤ 8) (hy1 : 0 ≤ h0_undone.toInt ∧ h0_undone.toInt ≤ 20) (hy2 : 0 ≤ h0_seed.toInt ∧ h0_seed.toInt ≤ 2147483647) (hy3 : 0 ≤ h0_hasPart.toInt ∧ h0_hasPart.toInt ≤ 1) (hy4 : 0 ≤ h0_taped.toInt ∧ h0_taped.toInt ≤ 1200) (hy5 : 0 ≤ h0_faultKind.toInt ∧ h0_faultKind.toInt ≤ 5) (hy6 : 0 ≤ h0_size.toInt ∧ h0_size.toInt ≤ 1200) (hy7 : 0 ≤ h0_at.toInt ∧ h0_at.toInt ≤ 1200) (hy8 : 0 ≤ h0_from.toInt ∧ h0_from.toInt ≤ 1200) (hy9 : 0 ≤ h0_wrong.toInt ∧ h0_wrong.toInt ≤ 5) (hy10 : 0 ≤ h0_isLaid.toInt ∧ h0_isLaid.toInt ≤ 1) (hy11 : 0 ≤ h0_canTool.toInt ∧ h0_canTool.toInt ≤ 255) (hy12 : 0 ≤ h0_rows.toInt ∧ h0_rows.toInt ≤ 8) (hy13 : pW mB f_h0_told) (hy14 : 0 ≤ h0_told_3.toInt ∧ h0_told_3.toInt ≤ 9) (hy15 : cEq f_h0_told 3 h0_told_3) (hy16 : 0 ≤ h0_told_4.toInt ∧ h0_told_4.toInt ≤ 8) (hy17 : cEq f_h0_told 4 h0_told_4) (hy18 : ((h0_hasPart.toInt = 0 ∧ h0_told_3.toInt = 0) ∨ (h0_hasPart.toInt = 1 ∧ 1 ≤ h0_told_3.toInt))) : zCi l g yX9_alongX cX9_alongX 2 (some .int) rm_kX9_alongX [.ref h0, .int x1] [(h0, .inr (9, [.ref h0_told, .ref h0_read, .ref h0_now, .ref h0_readNow, .ref h0_kept, .int h0_undone, .int h0_seed, .int h0_hasPart, .ref h0_tape, .int h0_taped, .ref h0_refused, .int h0_faultKind, .int h0_faultPlace, .int h0_size, .int h0_at, .int h0_from, .int h0_wrong, .int h0_wrongAt, .ref h0_ownLetters, .ref h0_flats, .int h0_isLaid, .ref h0_corner, .ref h0_wayX, .ref h0_wayY, .ref h0_normal, .ref h0_low, .ref h0_high, .ref h0_clear, .ref h0_ways, .ref h0_canBe, .ref h0_lain, .int h0_canTool, .ref h0_fewestBy, .ref h0_sortOf, .int h0_rows, .ref h0_seenFlange, .ref h0_seenLength])), (h0_told, .inl (g.2.1.1, 103, .inl f_h0_told))] (fun (r : Int32) (u : Unit) => True) (fun (u : Unit) => [(h0, .inr (9, [.ref h0_told, .ref h0_read, .ref h0_now, .ref h0_readNow, .ref h0_kept, .int h0_undone, .int h0_seed, .int h0_hasPart, .ref h0_tape, .int h0_taped, .ref h0_refused, .int h0_faultKind, .int h0_faultPlace, .int h0_size, .int h0_at, .int h0_from, .int h0_wrong, .int h0_wrongAt, .ref h0_ownLetters, .ref h0_flats, .int h0_isLaid, .ref h0_corner, .ref h0_wayX, .ref h0_wayY, .ref h0_normal, .ref h0_low, .ref h0_high, .ref h0_clear, .ref h0_ways, .ref h0_canBe, .ref h0_lain, .int h0_canTool, .ref h0_fewestBy, .ref h0_sortOf, .int h0_rows, .ref h0_seenFlange, .ref h0_seenLength])), (h0_told, .inl (g.2.1.1, 103, .inl f_h0_told))]) := by
  refine zCi.mk2 (by decide) (Nat.le_of_ble_eq_true rfl) ?_
  intro p e s m below meth c A args Q hE hret hP hD hS ls hl
  obtain ⟨hx, hb, hr, hml, hown, hG, hlocks, hnm, hX, hA⟩ := hE
  have hown : s.vm.findClass RX9 = some m.cls := hown
  have hl : lv_has ls 2 [(0, .ref h0), (1, .int x1)] := hl
  refine lv_aload_n hx hb dX9_alongX_0 rfl (lv_at hl 0 rfl) ?_
  refine va_get (D := g.1) (ci := 9) (v := .ref h0_told) (C := RX9) (T := TX9) (N := 37) hx hb hG iX9 hown hX.1 hP 0 rfl rfl 0 (by decide) (hG _ wf_X9_7) (fun _ h9 => h9) rfl dX9_alongX_1 ?_
  refine lv_iload_n hx hb dX9_alongX_4 rfl (lv_at hl 1 rfl) ?_
  refine lv_iconst (v := 0) hx hb dX9_alongX_5 (by decide) ?_
  refine zfi (wr := [(h0, .inr (9, [.ref h0_told, .ref h0_read, .ref h0_now, .ref h0_readNow, .ref h0_kept, .int h0_undone, .int h0_seed, .int h0_hasPart, .ref h0_tape, .int h0_taped, .ref h0_refused, .int h0_faultKind, .int h0_faultPlace, .int h0_size, .int h0_at, .int h0_from, .int h0_wrong, .int h0_wrongAt, .ref h0_ownLetters, .ref h0_flats, .int h0_isLaid, .ref h0_corner, .ref h0_wayX, .ref h0_wayY, .ref h0_normal, .ref h0_low, .ref h0_high, .ref h0_clear, .ref h0_ways, .ref h0_canBe, .ref h0_lain, .int h0_canTool, .ref h0_fewestBy, .ref h0_sortOf, .int h0_rows, .ref h0_seenFlange, .ref h0_seenLength]))]) (va_runS (As := [.ref h0_told, .int x1, .int 0]) (rest := []) ⟨hx, hb, hml, hown, hG⟩ (kX9_sideOf l g h0_told x1 (0 : Int32) f_h0_told h0_told_3 h0_told_4 (om_33 hy0) hy13 (om_155 hy14) hy15 (om_33 hy16) hy17 _) ⟨callB_of 3 hG (zGood wc_X9_sideOf) rfl rfl rfl (hG _ wini_X9) (hG _ wm_X9_177) hX9_sideOf ⟨Nat.le_of_ble_eq_true rfl, Nat.le_of_ble_eq_true rfl⟩, hG _ ws_X9_sideOf⟩ (zpreS hX hP hD hS hA [1] rfl (by decide)) rfl rfl hl.1 rfl (lv_room (Nat.le_of_ble_eq_true rfl)) dX9_alongX_6 ⟨Nat.le_of_ble_eq_true rfl, Nat.le_of_ble_eq_true rfl⟩) hP hD hS hA [1] [0] rfl rfl (by decide) (by decide) (fun r1 _ H locs hp hP hD hS => ?_)
  refine W.cs (cells' := 0) (slots' := 0) rfl rfl ?_
  have hP : va_P g.1 vwCl [(h0, .inr (9, [.ref h0_told, .ref h0_read, .ref h0_now, .ref h0_readNow, .ref h0_kept, .int h0_undone, .int h0_seed, .int h0_hasPart, .ref h0_tape, .int h0_taped, .ref h0_refused, .int h0_faultKind, .int h0_faultPlace, .int h0_size, .int h0_at, .int h0_from, .int h0_wrong, .int h0_wrongAt, .ref h0_ownLetters, .ref h0_flats, .int h0_isLaid, .ref h0_corner, .ref h0_wayX, .ref h0_wayY, .ref h0_normal, .ref h0_low, .ref h0_high, .ref h0_clear, .ref h0_ways, .ref h0_canBe, .ref h0_lain, .int h0_canTool, .ref h0_fewestBy, .ref h0_sortOf, .int h0_rows, .ref h0_seenFlange, .ref h0_seenLength])), (h0_told, .inl (g.2.1.1, 103, .inl f_h0_told))] H := hP
  have hD : va_D A [(h0, .inr (9, [.ref h0_told, .ref h0_read, .ref h0_now, .ref h0_readNow, .ref h0_kept, .int h0_undone, .int h0_seed, .int h0_hasPart, .ref h0_tape, .int h0_taped, .ref h0_refused, .int h0_faultKind, .int h0_faultPlace, .int h0_size, .int h0_at, .int h0_from, .int h0_wrong, .int h0_wrongAt, .ref h0_ownLetters, .ref h0_flats, .int h0_isLaid, .ref h0_corner, .ref h0_wayX, .ref h0_wayY, .ref h0_normal, .ref h0_low, .ref h0_high, .ref h0_clear, .ref h0_ways, .ref h0_canBe, .ref h0_lain, .int h0_canTool, .ref h0_fewestBy, .ref h0_sortOf, .int h0_rows, .ref h0_seenFlange, .ref h0_seenLength])), (h0_told, .inl (g.2.1.1, 103, .inl f_h0_told))] := hD
  exact hret r1 () (Nat.le_of_ble_eq_true rfl) (Nat.le_of_ble_eq_true rfl) rfl trivial hP hD hS dX9_alongX_9
theorem dX9_alongY_0 : decode cX9_alongY 0 = .ok (.aload_n 0, 1) := by decide +kernel
theorem dX9_alongY_1 : decode cX9_alongY 1 = .ok (.getfield 7, 3) := by decide +kernel
theorem dX9_alongY_4 : decode cX9_alongY 4 = .ok (.iload_n 1, 1) := by decide +kernel
theorem dX9_alongY_5 : decode cX9_alongY 5 = .ok (.iconst 1, 1) := by decide +kernel
theorem dX9_alongY_6 : decode cX9_alongY 6 = .ok (.invokestatic 177, 3) := by decide +kernel
theorem dX9_alongY_9 : decode cX9_alongY 9 = .ok (.ireturn, 1) := by decide +kernel
abbrev rm_kX9_alongY : Room := { frames := 1, cells := 0, slots := 0, locals := 23 }
set_option maxHeartbeats 4000000 in
set_option maxRecDepth 100000 in
theorem kX9_alongY (l : Launch) (g : zL) (h0 : Nat) (x1 : Int32) (h0_told : Nat) (h0_read : Nat) (h0_now : Nat) (h0_readNow : Nat) (h0_kept : Nat) (h0_undone : Int32) (h0_seed : Int32) (h0_hasPart : Int32) (h0_tape : Nat) (h0_taped : Int32) (h0_refused : Nat) (h0_faultKind : Int32) (h0_faultPlace : Int32) (h0_size : Int32) (h0_at : Int32) (h0_from : Int32) (h0_wrong : Int32) (h0_wrongAt : Int32) (h0_ownLetters : Nat) (h0_flats : Nat) (h0_isLaid : Int32) (h0_corner : Nat) (h0_wayX : Nat) (h0_wayY : Nat) (h0_normal : Nat) (h0_low : Nat) (h0_high : Nat) (h0_clear : Nat) (h0_ways : Nat) (h0_canBe : Nat) (h0_lain : Nat) (h0_canTool : Int32) (h0_fewestBy : Nat) (h0_sortOf : Nat) (h0_rows : Int32) (h0_seenFlange : Nat) (h0_seenLength : Nat) (f_h0_told : Nat → Int32) (h0_told_3 : Int32) (h0_told_4 : Int32) (hy0 : 0 ≤ x1.toInt ∧ x1.toInt ≤ 8) (hy1 : 0 ≤ h0_undone.toInt ∧ h0_undone.toInt ≤ 20) (hy2 : 0 ≤ h0_seed.toInt ∧ h0_seed.toInt ≤ 2147483647) (hy3 : 0 ≤ h0_hasPart.toInt ∧ h0_hasPart.toInt ≤ 1) (hy4 : 0 ≤ h0_taped.toInt ∧ h0_taped.toInt ≤ 1200) (hy5 : 0 ≤ h0_faultKind.toInt ∧ h0_faultKind.toInt ≤ 5) (hy6 : 0 ≤ h0_size.toInt ∧ h0_size.toInt ≤ 1200) (hy7 : 0 ≤ h0_at.toInt ∧ h0_at.toInt ≤ 1200) (hy8 : 0 ≤ h0_from.toInt ∧ h0_from.toInt ≤ 1200) (hy9 : 0 ≤ h0_wrong.toInt ∧ h0_wrong.toInt ≤ 5) (hy10 : 0 ≤ h0_isLaid.toInt ∧ h0_isLaid.toInt ≤ 1) (hy11 : 0 ≤ h0_canTool.toInt ∧ h0_canTool.toInt ≤ 255) (hy12 : 0 ≤ h0_rows.toInt ∧ h0_rows.toInt ≤ 8) (hy13 : pW mB f_h0_told) (hy14 : 0 ≤ h0_told_3.toInt ∧ h0_told_3.toInt ≤ 9) (hy15 : cEq f_h0_told 3 h0_told_3) (hy16 : 0 ≤ h0_told_4.toInt ∧ h0_told_4.toInt ≤ 8) (hy17 : cEq f_h0_told 4 h0_told_4) (hy18 : ((h0_hasPart.toInt = 0 ∧ h0_told_3.toInt = 0) ∨ (h0_hasPart.toInt = 1 ∧ 1 ≤ h0_told_3.toInt))) : zCi l g yX9_alongY cX9_alongY 2 (some .int) rm_kX9_alongY [.ref h0, .int x1] [(h0, .inr (9, [.ref h0_told, .ref h0_read, .ref h0_now, .ref h0_readNow, .ref h0_kept, .int h0_undone, .int h0_seed, .int h0_hasPart, .ref h0_tape, .int h0_taped, .ref h0_refused, .int h0_faultKind, .int h0_faultPlace, .int h0_size, .int h0_at, .int h0_from, .int h0_wrong, .int h0_wrongAt, .ref h0_ownLetters, .ref h0_flats, .int h0_isLaid, .ref h0_corner, .ref h0_wayX, .ref h0_wayY, .ref h0_normal, .ref h0_low, .ref h0_high, .ref h0_clear, .ref h0_ways, .ref h0_canBe, .ref h0_lain, .int h0_canTool, .ref h0_fewestBy, .ref h0_sortOf, .int h0_rows, .ref h0_seenFlange, .ref h0_seenLength])), (h0_told, .inl (g.2.1.1, 103, .inl f_h0_told))] (fun (r : Int32) (u : Unit) => True) (fun (u : Unit) => [(h0, .inr (9, [.ref h0_told, .ref h0_read, .ref h0_now, .ref h0_readNow, .ref h0_kept, .int h0_undone, .int h0_seed, .int h0_hasPart, .ref h0_tape, .int h0_taped, .ref h0_refused, .int h0_faultKind, .int h0_faultPlace, .int h0_size, .int h0_at, .int h0_from, .int h0_wrong, .int h0_wrongAt, .ref h0_ownLetters, .ref h0_flats, .int h0_isLaid, .ref h0_corner, .ref h0_wayX, .ref h0_wayY, .ref h0_normal, .ref h0_low, .ref h0_high, .ref h0_clear, .ref h0_ways, .ref h0_canBe, .ref h0_lain, .int h0_canTool, .ref h0_fewestBy, .ref h0_sortOf, .int h0_rows, .ref h0_seenFlange, .ref h0_seenLength])), (h0_told, .inl (g.2.1.1, 103, .inl f_h0_told))]) := by
  refine zCi.mk2 (by decide) (Nat.le_of_ble_eq_true rfl) ?_
  intro p e s m below meth c A args Q hE hret hP hD hS ls hl
  obtain ⟨hx, hb, hr, hml, hown, hG, hlocks, hnm, hX, hA⟩ := hE
  have hown : s.vm.findClass RX9 = some m.cls := hown
  have hl : lv_has ls 2 [(0, .ref h0), (1, .int x1)] := hl
  refine lv_aload_n hx hb dX9_alongY_0 rfl (lv_at hl 0 rfl) ?_
  refine va_get (D := g.1) (ci := 9) (v := .ref h0_told) (C := RX9) (T := TX9) (N := 37) hx hb hG iX9 hown hX.1 hP 0 rfl rfl 0 (by decide) (hG _ wf_X9_7) (fun _ h9 => h9) rfl dX9_alongY_1 ?_
  refine lv_iload_n hx hb dX9_alongY_4 rfl (lv_at hl 1 rfl) ?_
  refine lv_iconst (v := 1) hx hb dX9_alongY_5 (by decide) ?_
  refine zfi (wr := [(h0, .inr (9, [.ref h0_told, .ref h0_read, .ref h0_now, .ref h0_readNow, .ref h0_kept, .int h0_undone, .int h0_seed, .int h0_hasPart, .ref h0_tape, .int h0_taped, .ref h0_refused, .int h0_faultKind, .int h0_faultPlace, .int h0_size, .int h0_at, .int h0_from, .int h0_wrong, .int h0_wrongAt, .ref h0_ownLetters, .ref h0_flats, .int h0_isLaid, .ref h0_corner, .ref h0_wayX, .ref h0_wayY, .ref h0_normal, .ref h0_low, .ref h0_high, .ref h0_clear, .ref h0_ways, .ref h0_canBe, .ref h0_lain, .int h0_canTool, .ref h0_fewestBy, .ref h0_sortOf, .int h0_rows, .ref h0_seenFlange, .ref h0_seenLength]))]) (va_runS (As := [.ref h0_told, .int x1, .int 1]) (rest := []) ⟨hx, hb, hml, hown, hG⟩ (kX9_sideOf l g h0_told x1 (1 : Int32) f_h0_told h0_told_3 h0_told_4 (om_33 hy0) hy13 (om_155 hy14) hy15 (om_33 hy16) hy17 _) ⟨callB_of 3 hG (zGood wc_X9_sideOf) rfl rfl rfl (hG _ wini_X9) (hG _ wm_X9_177) hX9_sideOf ⟨Nat.le_of_ble_eq_true rfl, Nat.le_of_ble_eq_true rfl⟩, hG _ ws_X9_sideOf⟩ (zpreS hX hP hD hS hA [1] rfl (by decide)) rfl rfl hl.1 rfl (lv_room (Nat.le_of_ble_eq_true rfl)) dX9_alongY_6 ⟨Nat.le_of_ble_eq_true rfl, Nat.le_of_ble_eq_true rfl⟩) hP hD hS hA [1] [0] rfl rfl (by decide) (by decide) (fun r1 _ H locs hp hP hD hS => ?_)
  refine W.cs (cells' := 0) (slots' := 0) rfl rfl ?_
  have hP : va_P g.1 vwCl [(h0, .inr (9, [.ref h0_told, .ref h0_read, .ref h0_now, .ref h0_readNow, .ref h0_kept, .int h0_undone, .int h0_seed, .int h0_hasPart, .ref h0_tape, .int h0_taped, .ref h0_refused, .int h0_faultKind, .int h0_faultPlace, .int h0_size, .int h0_at, .int h0_from, .int h0_wrong, .int h0_wrongAt, .ref h0_ownLetters, .ref h0_flats, .int h0_isLaid, .ref h0_corner, .ref h0_wayX, .ref h0_wayY, .ref h0_normal, .ref h0_low, .ref h0_high, .ref h0_clear, .ref h0_ways, .ref h0_canBe, .ref h0_lain, .int h0_canTool, .ref h0_fewestBy, .ref h0_sortOf, .int h0_rows, .ref h0_seenFlange, .ref h0_seenLength])), (h0_told, .inl (g.2.1.1, 103, .inl f_h0_told))] H := hP
  have hD : va_D A [(h0, .inr (9, [.ref h0_told, .ref h0_read, .ref h0_now, .ref h0_readNow, .ref h0_kept, .int h0_undone, .int h0_seed, .int h0_hasPart, .ref h0_tape, .int h0_taped, .ref h0_refused, .int h0_faultKind, .int h0_faultPlace, .int h0_size, .int h0_at, .int h0_from, .int h0_wrong, .int h0_wrongAt, .ref h0_ownLetters, .ref h0_flats, .int h0_isLaid, .ref h0_corner, .ref h0_wayX, .ref h0_wayY, .ref h0_normal, .ref h0_low, .ref h0_high, .ref h0_clear, .ref h0_ways, .ref h0_canBe, .ref h0_lain, .int h0_canTool, .ref h0_fewestBy, .ref h0_sortOf, .int h0_rows, .ref h0_seenFlange, .ref h0_seenLength])), (h0_told, .inl (g.2.1.1, 103, .inl f_h0_told))] := hD
  exact hret r1 () (Nat.le_of_ble_eq_true rfl) (Nat.le_of_ble_eq_true rfl) rfl trivial hP hD hS dX9_alongY_9
theorem dX9_laysBehind_0 : decode cX9_laysBehind 0 = .ok (.iconst 4, 1) := by decide +kernel
theorem dX9_laysBehind_1 : decode cX9_laysBehind 1 = .ok (.aload_n 0, 1) := by decide +kernel
theorem dX9_laysBehind_2 : decode cX9_laysBehind 2 = .ok (.getfield 7, 3) := by decide +kernel
theorem dX9_laysBehind_5 : decode cX9_laysBehind 5 = .ok (.bipush 13, 2) := by decide +kernel
theorem dX9_laysBehind_7 : decode cX9_laysBehind 7 = .ok (.iload_n 2, 1) := by decide +kernel
theorem dX9_laysBehind_8 : decode cX9_laysBehind 8 = .ok (.iadd, 1) := by decide +kernel
theorem dX9_laysBehind_9 : decode cX9_laysBehind 9 = .ok (.iaload, 1) := by decide +kernel
theorem dX9_laysBehind_10 : decode cX9_laysBehind 10 = .ok (.imul, 1) := by decide +kernel
theorem dX9_laysBehind_11 : decode cX9_laysBehind 11 = .ok (.istore 5, 2) := by decide +kernel
theorem dX9_laysBehind_13 : decode cX9_laysBehind 13 = .ok (.aload_n 0, 1) := by decide +kernel
theorem dX9_laysBehind_14 : decode cX9_laysBehind 14 = .ok (.getfield 7, 3) := by decide +kernel
theorem dX9_laysBehind_17 : decode cX9_laysBehind 17 = .ok (.bipush 22, 2) := by decide +kernel
theorem dX9_laysBehind_19 : decode cX9_laysBehind 19 = .ok (.iload_n 2, 1) := by decide +kernel
theorem dX9_laysBehind_20 : decode cX9_laysBehind 20 = .ok (.iadd, 1) := by decide +kernel
theorem dX9_laysBehind_21 : decode cX9_laysBehind 21 = .ok (.iaload, 1) := by decide +kernel
theorem dX9_laysBehind_22 : decode cX9_laysBehind 22 = .ok (.istore 6, 2) := by decide +kernel
theorem dX9_laysBehind_24 : decode cX9_laysBehind 24 = .ok (.iload 6, 2) := by decide +kernel
theorem dX9_laysBehind_26 : decode cX9_laysBehind 26 = .ok (.iconst 2, 1) := by decide +kernel
theorem dX9_laysBehind_27 : decode cX9_laysBehind 27 = .ok (.irem, 1) := by decide +kernel
theorem dX9_laysBehind_36 : decode cX9_laysBehind 36 = .ok (.istore 7, 2) := by decide +kernel
theorem dX9_laysBehind_38 : decode cX9_laysBehind 38 = .ok (.aload_n 0, 1) := by decide +kernel
theorem dX9_laysBehind_39 : decode cX9_laysBehind 39 = .ok (.getfield 69, 3) := by decide +kernel
theorem dX9_laysBehind_42 : decode cX9_laysBehind 42 = .ok (.iload 5, 2) := by decide +kernel
theorem dX9_laysBehind_44 : decode cX9_laysBehind 44 = .ok (.iconst 1, 1) := by decide +kernel
theorem dX9_laysBehind_45 : decode cX9_laysBehind 45 = .ok (.iadd, 1) := by decide +kernel
theorem dX9_laysBehind_46 : decode cX9_laysBehind 46 = .ok (.iload 7, 2) := by decide +kernel
theorem dX9_laysBehind_48 : decode cX9_laysBehind 48 = .ok (.isub, 1) := by decide +kernel
theorem dX9_laysBehind_49 : decode cX9_laysBehind 49 = .ok (.iaload, 1) := by decide +kernel
theorem dX9_laysBehind_50 : decode cX9_laysBehind 50 = .ok (.aload_n 0, 1) := by decide +kernel
theorem dX9_laysBehind_51 : decode cX9_laysBehind 51 = .ok (.getfield 7, 3) := by decide +kernel
theorem dX9_laysBehind_54 : decode cX9_laysBehind 54 = .ok (.bipush 31, 2) := by decide +kernel
theorem dX9_laysBehind_56 : decode cX9_laysBehind 56 = .ok (.iload_n 2, 1) := by decide +kernel
theorem dX9_laysBehind_57 : decode cX9_laysBehind 57 = .ok (.iadd, 1) := by decide +kernel
theorem dX9_laysBehind_58 : decode cX9_laysBehind 58 = .ok (.iaload, 1) := by decide +kernel
theorem dX9_laysBehind_59 : decode cX9_laysBehind 59 = .ok (.iadd, 1) := by decide +kernel
theorem dX9_laysBehind_60 : decode cX9_laysBehind 60 = .ok (.istore 8, 2) := by decide +kernel
theorem dX9_laysBehind_62 : decode cX9_laysBehind 62 = .ok (.iload 6, 2) := by decide +kernel
theorem dX9_laysBehind_64 : decode cX9_laysBehind 64 = .ok (.iconst 2, 1) := by decide +kernel
theorem dX9_laysBehind_100 : decode cX9_laysBehind 100 = .ok (.istore 9, 2) := by decide +kernel
theorem dX9_laysBehind_102 : decode cX9_laysBehind 102 = .ok (.aload_n 0, 1) := by decide +kernel
theorem dX9_laysBehind_103 : decode cX9_laysBehind 103 = .ok (.getfield 69, 3) := by decide +kernel
theorem dX9_laysBehind_106 : decode cX9_laysBehind 106 = .ok (.iconst 4, 1) := by decide +kernel
theorem dX9_laysBehind_107 : decode cX9_laysBehind 107 = .ok (.iload_n 1, 1) := by decide +kernel
theorem dX9_laysBehind_108 : decode cX9_laysBehind 108 = .ok (.imul, 1) := by decide +kernel
theorem dX9_laysBehind_109 : decode cX9_laysBehind 109 = .ok (.iconst 1, 1) := by decide +kernel
theorem dX9_laysBehind_110 : decode cX9_laysBehind 110 = .ok (.iadd, 1) := by decide +kernel
theorem dX9_laysBehind_111 : decode cX9_laysBehind 111 = .ok (.iload 7, 2) := by decide +kernel
theorem dX9_laysBehind_113 : decode cX9_laysBehind 113 = .ok (.isub, 1) := by decide +kernel
theorem dX9_laysBehind_114 : decode cX9_laysBehind 114 = .ok (.iload 8, 2) := by decide +kernel
theorem dX9_laysBehind_116 : decode cX9_laysBehind 116 = .ok (.iastore, 1) := by decide +kernel
theorem dX9_laysBehind_117 : decode cX9_laysBehind 117 = .ok (.aload_n 0, 1) := by decide +kernel
theorem dX9_laysBehind_118 : decode cX9_laysBehind 118 = .ok (.getfield 69, 3) := by decide +kernel
theorem dX9_laysBehind_121 : decode cX9_laysBehind 121 = .ok (.iconst 4, 1) := by decide +kernel
theorem dX9_laysBehind_122 : decode cX9_laysBehind 122 = .ok (.iload_n 1, 1) := by decide +kernel
theorem dX9_laysBehind_123 : decode cX9_laysBehind 123 = .ok (.imul, 1) := by decide +kernel
theorem dX9_laysBehind_124 : decode cX9_laysBehind 124 = .ok (.iconst 3, 1) := by decide +kernel
theorem dX9_laysBehind_125 : decode cX9_laysBehind 125 = .ok (.iadd, 1) := by decide +kernel
theorem dX9_laysBehind_126 : decode cX9_laysBehind 126 = .ok (.iload 7, 2) := by decide +kernel
theorem dX9_laysBehind_128 : decode cX9_laysBehind 128 = .ok (.isub, 1) := by decide +kernel
theorem dX9_laysBehind_129 : decode cX9_laysBehind 129 = .ok (.iload 8, 2) := by decide +kernel
theorem dX9_laysBehind_131 : decode cX9_laysBehind 131 = .ok (.aload_n 0, 1) := by decide +kernel
theorem dX9_laysBehind_132 : decode cX9_laysBehind 132 = .ok (.getfield 7, 3) := by decide +kernel
theorem dX9_laysBehind_135 : decode cX9_laysBehind 135 = .ok (.bipush 40, 2) := by decide +kernel
theorem dX9_laysBehind_137 : decode cX9_laysBehind 137 = .ok (.iload_n 2, 1) := by decide +kernel
theorem dX9_laysBehind_138 : decode cX9_laysBehind 138 = .ok (.iadd, 1) := by decide +kernel
theorem dX9_laysBehind_139 : decode cX9_laysBehind 139 = .ok (.iaload, 1) := by decide +kernel
theorem dX9_laysBehind_140 : decode cX9_laysBehind 140 = .ok (.iadd, 1) := by decide +kernel
theorem dX9_laysBehind_141 : decode cX9_laysBehind 141 = .ok (.iastore, 1) := by decide +kernel
theorem dX9_laysBehind_142 : decode cX9_laysBehind 142 = .ok (.aload_n 0, 1) := by decide +kernel
theorem dX9_laysBehind_143 : decode cX9_laysBehind 143 = .ok (.getfield 69, 3) := by decide +kernel
theorem dX9_laysBehind_146 : decode cX9_laysBehind 146 = .ok (.iconst 4, 1) := by decide +kernel
theorem dX9_laysBehind_147 : decode cX9_laysBehind 147 = .ok (.iload_n 1, 1) := by decide +kernel
theorem dX9_laysBehind_148 : decode cX9_laysBehind 148 = .ok (.imul, 1) := by decide +kernel
theorem dX9_laysBehind_149 : decode cX9_laysBehind 149 = .ok (.iload 7, 2) := by decide +kernel
theorem dX9_laysBehind_151 : decode cX9_laysBehind 151 = .ok (.iadd, 1) := by decide +kernel
theorem dX9_laysBehind_152 : decode cX9_laysBehind 152 = .ok (.iload 9, 2) := by decide +kernel
theorem dX9_laysBehind_154 : decode cX9_laysBehind 154 = .ok (.iastore, 1) := by decide +kernel
theorem dX9_laysBehind_155 : decode cX9_laysBehind 155 = .ok (.aload_n 0, 1) := by decide +kernel
theorem dX9_laysBehind_156 : decode cX9_laysBehind 156 = .ok (.getfield 69, 3) := by decide +kernel
theorem dX9_laysBehind_159 : decode cX9_laysBehind 159 = .ok (.iconst 4, 1) := by decide +kernel
theorem dX9_laysBehind_160 : decode cX9_laysBehind 160 = .ok (.iload_n 1, 1) := by decide +kernel
theorem dX9_laysBehind_161 : decode cX9_laysBehind 161 = .ok (.imul, 1) := by decide +kernel
theorem dX9_laysBehind_162 : decode cX9_laysBehind 162 = .ok (.iconst 2, 1) := by decide +kernel
theorem dX9_laysBehind_163 : decode cX9_laysBehind 163 = .ok (.iadd, 1) := by decide +kernel
theorem dX9_laysBehind_164 : decode cX9_laysBehind 164 = .ok (.iload 7, 2) := by decide +kernel
theorem dX9_laysBehind_166 : decode cX9_laysBehind 166 = .ok (.iadd, 1) := by decide +kernel
theorem dX9_laysBehind_167 : decode cX9_laysBehind 167 = .ok (.iload 9, 2) := by decide +kernel
theorem dX9_laysBehind_169 : decode cX9_laysBehind 169 = .ok (.iload 4, 2) := by decide +kernel
theorem dX9_laysBehind_171 : decode cX9_laysBehind 171 = .ok (.iadd, 1) := by decide +kernel
theorem dX9_laysBehind_172 : decode cX9_laysBehind 172 = .ok (.iastore, 1) := by decide +kernel
theorem dX9_laysBehind_173 : decode cX9_laysBehind 173 = .ok (.return_, 1) := by decide +kernel
theorem dX9_laysBehind_65 : decode cX9_laysBehind 65 = .ok (.if_icmp .ge 20, 3) := by decide +kernel
theorem dX9_laysBehind_85 : decode cX9_laysBehind 85 = .ok (.aload_n 0, 1) := by decide +kernel
theorem dX9_laysBehind_86 : decode cX9_laysBehind 86 = .ok (.getfield 69, 3) := by decide +kernel
theorem dX9_laysBehind_89 : decode cX9_laysBehind 89 = .ok (.iload 5, 2) := by decide +kernel
theorem dX9_laysBehind_91 : decode cX9_laysBehind 91 = .ok (.iload 7, 2) := by decide +kernel
theorem dX9_laysBehind_93 : decode cX9_laysBehind 93 = .ok (.iadd, 1) := by decide +kernel
theorem dX9_laysBehind_94 : decode cX9_laysBehind 94 = .ok (.iaload, 1) := by decide +kernel
theorem dX9_laysBehind_95 : decode cX9_laysBehind 95 = .ok (.iload_n 3, 1) := by decide +kernel
theorem dX9_laysBehind_96 : decode cX9_laysBehind 96 = .ok (.isub, 1) := by decide +kernel
theorem dX9_laysBehind_97 : decode cX9_laysBehind 97 = .ok (.iload 4, 2) := by decide +kernel
theorem dX9_laysBehind_99 : decode cX9_laysBehind 99 = .ok (.isub, 1) := by decide +kernel
theorem dX9_laysBehind_68 : decode cX9_laysBehind 68 = .ok (.aload_n 0, 1) := by decide +kernel
theorem dX9_laysBehind_69 : decode cX9_laysBehind 69 = .ok (.getfield 69, 3) := by decide +kernel
theorem dX9_laysBehind_72 : decode cX9_laysBehind 72 = .ok (.iload 5, 2) := by decide +kernel
theorem dX9_laysBehind_74 : decode cX9_laysBehind 74 = .ok (.iconst 2, 1) := by decide +kernel
theorem dX9_laysBehind_75 : decode cX9_laysBehind 75 = .ok (.iadd, 1) := by decide +kernel
theorem dX9_laysBehind_76 : decode cX9_laysBehind 76 = .ok (.iload 7, 2) := by decide +kernel
theorem dX9_laysBehind_78 : decode cX9_laysBehind 78 = .ok (.iadd, 1) := by decide +kernel
theorem dX9_laysBehind_79 : decode cX9_laysBehind 79 = .ok (.iaload, 1) := by decide +kernel
theorem dX9_laysBehind_80 : decode cX9_laysBehind 80 = .ok (.iload_n 3, 1) := by decide +kernel
theorem dX9_laysBehind_81 : decode cX9_laysBehind 81 = .ok (.iadd, 1) := by decide +kernel
theorem dX9_laysBehind_82 : decode cX9_laysBehind 82 = .ok (.goto 18, 3) := by decide +kernel
theorem dX9_laysBehind_28 : decode cX9_laysBehind 28 = .ok (.ifCond .ne 7, 3) := by decide +kernel
theorem dX9_laysBehind_35 : decode cX9_laysBehind 35 = .ok (.iconst 0, 1) := by decide +kernel
theorem dX9_laysBehind_31 : decode cX9_laysBehind 31 = .ok (.iconst 1, 1) := by decide +kernel
theorem dX9_laysBehind_32 : decode cX9_laysBehind 32 = .ok (.goto 4, 3) := by decide +kernel
abbrev rm_kX9_laysBehind : Room := { frames := 0, cells := 0, slots := 0, locals := 0 }
set_option maxHeartbeats 4000000 in
set_option maxRecDepth 100000 in
theorem kX9_laysBehind (l : Launch) (g : zL) (h0 : Nat) (x1 : Int32) (x2 : Int32) (x3 : Int32) (x4 : Int32) (h0_told : Nat) (h0_read : Nat) (h0_now : Nat) (h0_readNow : Nat) (h0_kept : Nat) (h0_undone : Int32) (h0_seed : Int32) (h0_hasPart : Int32) (h0_tape : Nat) (h0_taped : Int32) (h0_refused : Nat) (h0_faultKind : Int32) (h0_faultPlace : Int32) (h0_size : Int32) (h0_at : Int32) (h0_from : Int32) (h0_wrong : Int32) (h0_wrongAt : Int32) (h0_ownLetters : Nat) (h0_flats : Nat) (h0_isLaid : Int32) (h0_corner : Nat) (h0_wayX : Nat) (h0_wayY : Nat) (h0_normal : Nat) (h0_low : Nat) (h0_high : Nat) (h0_clear : Nat) (h0_ways : Nat) (h0_canBe : Nat) (h0_lain : Nat) (h0_canTool : Int32) (h0_fewestBy : Nat) (h0_sortOf : Nat) (h0_rows : Int32) (h0_seenFlange : Nat) (h0_seenLength : Nat) (f_h0_told : Nat → Int32) (h0_told_3 : Int32) (h0_told_4 : Int32) (f_h0_flats : Nat → Int32) (hy0 : 1 ≤ x1.toInt ∧ x1.toInt ≤ 16) (hy1 : 1 ≤ x2.toInt ∧ x2.toInt ≤ 8) (hy2 : 0 ≤ h0_undone.toInt ∧ h0_undone.toInt ≤ 20) (hy3 : 0 ≤ h0_seed.toInt ∧ h0_seed.toInt ≤ 2147483647) (hy4 : 0 ≤ h0_hasPart.toInt ∧ h0_hasPart.toInt ≤ 1) (hy5 : 0 ≤ h0_taped.toInt ∧ h0_taped.toInt ≤ 1200) (hy6 : 0 ≤ h0_faultKind.toInt ∧ h0_faultKind.toInt ≤ 5) (hy7 : 0 ≤ h0_size.toInt ∧ h0_size.toInt ≤ 1200) (hy8 : 0 ≤ h0_at.toInt ∧ h0_at.toInt ≤ 1200) (hy9 : 0 ≤ h0_from.toInt ∧ h0_from.toInt ≤ 1200) (hy10 : 0 ≤ h0_wrong.toInt ∧ h0_wrong.toInt ≤ 5) (hy11 : 0 ≤ h0_isLaid.toInt ∧ h0_isLaid.toInt ≤ 1) (hy12 : 0 ≤ h0_canTool.toInt ∧ h0_canTool.toInt ≤ 255) (hy13 : 0 ≤ h0_rows.toInt ∧ h0_rows.toInt ≤ 8) (hy14 : pW mB f_h0_told) (hy15 : 0 ≤ h0_told_3.toInt ∧ h0_told_3.toInt ≤ 9) (hy16 : cEq f_h0_told 3 h0_told_3) (hy17 : 0 ≤ h0_told_4.toInt ∧ h0_told_4.toInt ≤ 8) (hy18 : cEq f_h0_told 4 h0_told_4) (hy19 : ((h0_hasPart.toInt = 0 ∧ h0_told_3.toInt = 0) ∨ (h0_hasPart.toInt = 1 ∧ 1 ≤ h0_told_3.toInt))) : zCv l g yX9_laysBehind cX9_laysBehind 10 none rm_kX9_laysBehind [.ref h0, .int x1, .int x2, .int x3, .int x4] [(h0, .inr (9, [.ref h0_told, .ref h0_read, .ref h0_now, .ref h0_readNow, .ref h0_kept, .int h0_undone, .int h0_seed, .int h0_hasPart, .ref h0_tape, .int h0_taped, .ref h0_refused, .int h0_faultKind, .int h0_faultPlace, .int h0_size, .int h0_at, .int h0_from, .int h0_wrong, .int h0_wrongAt, .ref h0_ownLetters, .ref h0_flats, .int h0_isLaid, .ref h0_corner, .ref h0_wayX, .ref h0_wayY, .ref h0_normal, .ref h0_low, .ref h0_high, .ref h0_clear, .ref h0_ways, .ref h0_canBe, .ref h0_lain, .int h0_canTool, .ref h0_fewestBy, .ref h0_sortOf, .int h0_rows, .ref h0_seenFlange, .ref h0_seenLength])), (h0_told, .inl (g.2.1.1, 103, .inl f_h0_told)), (h0_flats, .inl (g.2.1.1, 72, .inl f_h0_flats))] (fun (u : (Nat → Int32)) => True) (fun (u : (Nat → Int32)) => [(h0, .inr (9, [.ref h0_told, .ref h0_read, .ref h0_now, .ref h0_readNow, .ref h0_kept, .int h0_undone, .int h0_seed, .int h0_hasPart, .ref h0_tape, .int h0_taped, .ref h0_refused, .int h0_faultKind, .int h0_faultPlace, .int h0_size, .int h0_at, .int h0_from, .int h0_wrong, .int h0_wrongAt, .ref h0_ownLetters, .ref h0_flats, .int h0_isLaid, .ref h0_corner, .ref h0_wayX, .ref h0_wayY, .ref h0_normal, .ref h0_low, .ref h0_high, .ref h0_clear, .ref h0_ways, .ref h0_canBe, .ref h0_lain, .int h0_canTool, .ref h0_fewestBy, .ref h0_sortOf, .int h0_rows, .ref h0_seenFlange, .ref h0_seenLength])), (h0_told, .inl (g.2.1.1, 103, .inl f_h0_told)), (h0_flats, .inl (g.2.1.1, 72, .inl u))]) := by
  refine zCv.mk2 (by decide) (Nat.le_of_ble_eq_true rfl) ?_
  intro p e s m below meth c A args Q hE hret hP hD hS ls hl
  obtain ⟨hx, hb, hr, hml, hown, hG, hlocks, hnm, hX, hA⟩ := hE
  have hown : s.vm.findClass RX9 = some m.cls := hown
  have hl : lv_has ls 10 [(0, .ref h0), (1, .int x1), (2, .int x2), (3, .int x3), (4, .int x4)] := hl
  refine lv_iconst (v := 4) hx hb dX9_laysBehind_0 (by decide) ?_
  refine lv_aload_n hx hb dX9_laysBehind_1 rfl (lv_at hl 0 rfl) ?_
  refine va_get (D := g.1) (ci := 9) (v := .ref h0_told) (C := RX9) (T := TX9) (N := 37) hx hb hG iX9 hown hX.1 hP 0 rfl rfl 0 (by decide) (hG _ wf_X9_7) (fun _ h9 => h9) rfl dX9_laysBehind_2 ?_
  refine lv_bipush (v := 13) hx hb dX9_laysBehind_5 (by decide) ?_
  refine lv_iload_n hx hb dX9_laysBehind_7 rfl (lv_at hl 2 rfl) ?_
  refine lv_iadd hx hb dX9_laysBehind_8 ?_
  refine lv_topi (fun z1 e2 => ?_)
  have f3 : z1.toInt = (13 : Int) + x2.toInt := za e2 (show (13 : Int32).toInt = (13 : Int) from by decide) (rfl : x2.toInt = _) (om_401 hy1)
  refine va_iald hx hb hX.1 hP 1 0 rfl rfl (zin (rfl : z1.toInt = _) (om_402 f3 hy1)) dX9_laysBehind_9 ?_
  refine lv_topi (fun z4 e5 => ?_)
  have f6 : 0 ≤ z4.toInt ∧ z4.toInt ≤ 8 ∧ (z4.toInt = 0 ∨ z4.toInt < z1.toInt - 13) := ((hy14.at e5 (rfl : z1.toInt = _) (om_164 f3 hy1)).2.2.1).resolve_left (fun q9 => q9 (om_403 f3 hy1))
  refine lv_imul hx hb dX9_laysBehind_10 ?_
  refine lv_topi (fun z7 e8 => ?_)
  have f9 : z7.toInt = (4 : Int) * z4.toInt := zm e8 (show (4 : Int32).toInt = (4 : Int) from by decide) (rfl : z4.toInt = _) (om_404 f6)
  refine lv_istore (lv' := [(5, .int z7), (0, .ref h0), (1, .int x1), (2, .int x2), (3, .int x3), (4, .int x4)]) hx hb dX9_laysBehind_11 hl (by decide) rfl (fun ls hl => ?_)
  refine lv_aload_n hx hb dX9_laysBehind_13 rfl (lv_at hl 1 rfl) ?_
  refine va_get (D := g.1) (ci := 9) (v := .ref h0_told) (C := RX9) (T := TX9) (N := 37) hx hb hG iX9 hown hX.1 hP 0 rfl rfl 0 (by decide) (hG _ wf_X9_7) (fun _ h9 => h9) rfl dX9_laysBehind_14 ?_
  refine lv_bipush (v := 22) hx hb dX9_laysBehind_17 (by decide) ?_
  refine lv_iload_n hx hb dX9_laysBehind_19 rfl (lv_at hl 3 rfl) ?_
  refine lv_iadd hx hb dX9_laysBehind_20 ?_
  refine lv_topi (fun z10 e11 => ?_)
  have f12 : z10.toInt = (22 : Int) + x2.toInt := za e11 (show (22 : Int32).toInt = (22 : Int) from by decide) (rfl : x2.toInt = _) (om_405 hy1)
  refine va_iald hx hb hX.1 hP 1 0 rfl rfl (zin (rfl : z10.toInt = _) (om_406 f12 hy1)) dX9_laysBehind_21 ?_
  refine lv_topi (fun z13 e14 => ?_)
  have f15 : 0 ≤ z13.toInt ∧ z13.toInt ≤ 3 := ((hy14.at e14 (rfl : z10.toInt = _) (om_171 f12 hy1)).2.2.2.1).resolve_left (fun q9 => q9 (om_407 f12 hy1))
  refine lv_istore (lv' := [(6, .int z13), (5, .int z7), (0, .ref h0), (1, .int x1), (2, .int x2), (3, .int x3), (4, .int x4)]) hx hb dX9_laysBehind_22 hl (by decide) rfl (fun ls hl => ?_)
  refine lv_iload hx hb dX9_laysBehind_24 (lv_at hl 0 rfl) ?_
  refine lv_iconst (v := 2) hx hb dX9_laysBehind_26 (by decide) ?_
  refine lv_irem hx hb dX9_laysBehind_27 (zne0 (show (2 : Int32).toInt = (2 : Int) from by decide) ((show ¬ (2 : Int) = 0 from by decide))) ?_
  refine lv_topi (fun z16 e17 => ?_)
  have f18 : z16.toInt = z13.toInt % (2 : Int) := zrm e17 (rfl : z13.toInt = _) (show (2 : Int32).toInt = (2 : Int) from by decide) (om_145 f15)
  have J21 : ∀  (v20 : Int32) (H : Heap) (locs : List Loc) (ls : Array Slot), 0 ≤ v20.toInt ∧ v20.toInt ≤ 1 → va_P g.1 vwCl [(h0, .inr (9, [.ref h0_told, .ref h0_read, .ref h0_now, .ref h0_readNow, .ref h0_kept, .int h0_undone, .int h0_seed, .int h0_hasPart, .ref h0_tape, .int h0_taped, .ref h0_refused, .int h0_faultKind, .int h0_faultPlace, .int h0_size, .int h0_at, .int h0_from, .int h0_wrong, .int h0_wrongAt, .ref h0_ownLetters, .ref h0_flats, .int h0_isLaid, .ref h0_corner, .ref h0_wayX, .ref h0_wayY, .ref h0_normal, .ref h0_low, .ref h0_high, .ref h0_clear, .ref h0_ways, .ref h0_canBe, .ref h0_lain, .int h0_canTool, .ref h0_fewestBy, .ref h0_sortOf, .int h0_rows, .ref h0_seenFlange, .ref h0_seenLength])), (h0_told, .inl (g.2.1.1, 103, .inl f_h0_told)), (h0_flats, .inl (g.2.1.1, 72, .inl f_h0_flats))] H → va_D A [(h0, .inr (9, [.ref h0_told, .ref h0_read, .ref h0_now, .ref h0_readNow, .ref h0_kept, .int h0_undone, .int h0_seed, .int h0_hasPart, .ref h0_tape, .int h0_taped, .ref h0_refused, .int h0_faultKind, .int h0_faultPlace, .int h0_size, .int h0_at, .int h0_from, .int h0_wrong, .int h0_wrongAt, .ref h0_ownLetters, .ref h0_flats, .int h0_isLaid, .ref h0_corner, .ref h0_wayX, .ref h0_wayY, .ref h0_normal, .ref h0_low, .ref h0_high, .ref h0_clear, .ref h0_ways, .ref h0_canBe, .ref h0_lain, .int h0_canTool, .ref h0_fewestBy, .ref h0_sortOf, .int h0_rows, .ref h0_seenFlange, .ref h0_seenLength])), (h0_told, .inl (g.2.1.1, 103, .inl f_h0_told)), (h0_flats, .inl (g.2.1.1, 72, .inl f_h0_flats))] → va_S A s.heap H locs → lv_has ls 10 [(0, .ref h0), (1, .int x1), (2, .int x2), (3, .int x3), (4, .int x4), (5, .int z7), (6, .int z13)] → W p l e rm_kX9_laysBehind s m args below meth c H locs 0 0 Q (F0 m 36 ls [.int v20]) := by
    intro v20 H locs ls i22 hP hD hS hl
    refine lv_istore (lv' := [(7, .int v20), (0, .ref h0), (1, .int x1), (2, .int x2), (3, .int x3), (4, .int x4), (5, .int z7), (6, .int z13)]) hx hb dX9_laysBehind_36 hl (by decide) rfl (fun ls hl => ?_)
    refine lv_aload_n hx hb dX9_laysBehind_38 rfl (lv_at hl 1 rfl) ?_
    refine va_get (D := g.1) (ci := 9) (v := .ref h0_flats) (C := RX9) (T := TX9) (N := 37) hx hb hG iX9 hown hX.1 hP 0 rfl rfl 19 (by decide) (hG _ wf_X9_69) (fun _ h9 => h9) rfl dX9_laysBehind_39 ?_
    refine lv_iload hx hb dX9_laysBehind_42 (lv_at hl 6 rfl) ?_
    refine lv_iconst (v := 1) hx hb dX9_laysBehind_44 (by decide) ?_
    refine lv_iadd hx hb dX9_laysBehind_45 ?_
    refine lv_topi (fun z23 e24 => ?_)
    have f25 : z23.toInt = z7.toInt + (1 : Int) := za e24 (rfl : z7.toInt = _) (show (1 : Int32).toInt = (1 : Int) from by decide) (om_408 f6 f9)
    refine lv_iload hx hb dX9_laysBehind_46 (lv_at hl 0 rfl) ?_
    refine lv_isub hx hb dX9_laysBehind_48 ?_
    refine lv_topi (fun z26 e27 => ?_)
    have f28 : z26.toInt = z23.toInt - v20.toInt := zs e27 (rfl : z23.toInt = _) (rfl : v20.toInt = _) (om_409 f25 f6 f9 i22)
    refine va_iald hx hb hX.1 hP 2 0 rfl rfl (zin (rfl : z26.toInt = _) (om_410 f25 f28 f6 f9 i22)) dX9_laysBehind_49 ?_
    refine lv_topi (fun z29 e30 => ?_)
    refine lv_aload_n hx hb dX9_laysBehind_50 rfl (lv_at hl 1 rfl) ?_
    refine va_get (D := g.1) (ci := 9) (v := .ref h0_told) (C := RX9) (T := TX9) (N := 37) hx hb hG iX9 hown hX.1 hP 0 rfl rfl 0 (by decide) (hG _ wf_X9_7) (fun _ h9 => h9) rfl dX9_laysBehind_51 ?_
    refine lv_bipush (v := 31) hx hb dX9_laysBehind_54 (by decide) ?_
    refine lv_iload_n hx hb dX9_laysBehind_56 rfl (lv_at hl 3 rfl) ?_
    refine lv_iadd hx hb dX9_laysBehind_57 ?_
    refine lv_topi (fun z31 e32 => ?_)
    have f33 : z31.toInt = (31 : Int) + x2.toInt := za e32 (show (31 : Int32).toInt = (31 : Int) from by decide) (rfl : x2.toInt = _) (om_152 hy1)
    refine va_iald hx hb hX.1 hP 1 0 rfl rfl (zin (rfl : z31.toInt = _) (om_153 f33 hy1)) dX9_laysBehind_58 ?_
    refine lv_topi (fun z34 e35 => ?_)
    refine lv_iadd hx hb dX9_laysBehind_59 ?_
    refine lv_topi (fun z36 e37 => ?_)
    refine lv_istore (lv' := [(8, .int z36), (7, .int v20), (0, .ref h0), (1, .int x1), (2, .int x2), (3, .int x3), (4, .int x4), (5, .int z7), (6, .int z13)]) hx hb dX9_laysBehind_60 hl (by decide) rfl (fun ls hl => ?_)
    refine lv_iload hx hb dX9_laysBehind_62 (lv_at hl 8 rfl) ?_
    refine lv_iconst (v := 2) hx hb dX9_laysBehind_64 (by decide) ?_
    have J59 : ∀  (v58 : Int32) (H : Heap) (locs : List Loc) (ls : Array Slot), va_P g.1 vwCl [(h0, .inr (9, [.ref h0_told, .ref h0_read, .ref h0_now, .ref h0_readNow, .ref h0_kept, .int h0_undone, .int h0_seed, .int h0_hasPart, .ref h0_tape, .int h0_taped, .ref h0_refused, .int h0_faultKind, .int h0_faultPlace, .int h0_size, .int h0_at, .int h0_from, .int h0_wrong, .int h0_wrongAt, .ref h0_ownLetters, .ref h0_flats, .int h0_isLaid, .ref h0_corner, .ref h0_wayX, .ref h0_wayY, .ref h0_normal, .ref h0_low, .ref h0_high, .ref h0_clear, .ref h0_ways, .ref h0_canBe, .ref h0_lain, .int h0_canTool, .ref h0_fewestBy, .ref h0_sortOf, .int h0_rows, .ref h0_seenFlange, .ref h0_seenLength])), (h0_told, .inl (g.2.1.1, 103, .inl f_h0_told)), (h0_flats, .inl (g.2.1.1, 72, .inl f_h0_flats))] H → va_D A [(h0, .inr (9, [.ref h0_told, .ref h0_read, .ref h0_now, .ref h0_readNow, .ref h0_kept, .int h0_undone, .int h0_seed, .int h0_hasPart, .ref h0_tape, .int h0_taped, .ref h0_refused, .int h0_faultKind, .int h0_faultPlace, .int h0_size, .int h0_at, .int h0_from, .int h0_wrong, .int h0_wrongAt, .ref h0_ownLetters, .ref h0_flats, .int h0_isLaid, .ref h0_corner, .ref h0_wayX, .ref h0_wayY, .ref h0_normal, .ref h0_low, .ref h0_high, .ref h0_clear, .ref h0_ways, .ref h0_canBe, .ref h0_lain, .int h0_canTool, .ref h0_fewestBy, .ref h0_sortOf, .int h0_rows, .ref h0_seenFlange, .ref h0_seenLength])), (h0_told, .inl (g.2.1.1, 103, .inl f_h0_told)), (h0_flats, .inl (g.2.1.1, 72, .inl f_h0_flats))] → va_S A s.heap H locs → lv_has ls 10 [(0, .ref h0), (1, .int x1), (2, .int x2), (3, .int x3), (4, .int x4), (5, .int z7), (6, .int z13), (7, .int v20), (8, .int z36)] → W p l e rm_kX9_laysBehind s m args below meth c H locs 0 0 Q (F0 m 100 ls [.int v58]) := by
      intro v58 H locs ls  hP hD hS hl
      refine lv_istore (lv' := [(9, .int v58), (0, .ref h0), (1, .int x1), (2, .int x2), (3, .int x3), (4, .int x4), (5, .int z7), (6, .int z13), (7, .int v20), (8, .int z36)]) hx hb dX9_laysBehind_100 hl (by decide) rfl (fun ls hl => ?_)
      refine lv_aload_n hx hb dX9_laysBehind_102 rfl (lv_at hl 1 rfl) ?_
      refine va_get (D := g.1) (ci := 9) (v := .ref h0_flats) (C := RX9) (T := TX9) (N := 37) hx hb hG iX9 hown hX.1 hP 0 rfl rfl 19 (by decide) (hG _ wf_X9_69) (fun _ h9 => h9) rfl dX9_laysBehind_103 ?_
      refine lv_iconst (v := 4) hx hb dX9_laysBehind_106 (by decide) ?_
      refine lv_iload_n hx hb dX9_laysBehind_107 rfl (lv_at hl 2 rfl) ?_
      refine lv_imul hx hb dX9_laysBehind_108 ?_
      refine lv_topi (fun z60 e61 => ?_)
      have f62 : z60.toInt = (4 : Int) * x1.toInt := zm e61 (show (4 : Int32).toInt = (4 : Int) from by decide) (rfl : x1.toInt = _) (om_411 hy0)
      refine lv_iconst (v := 1) hx hb dX9_laysBehind_109 (by decide) ?_
      refine lv_iadd hx hb dX9_laysBehind_110 ?_
      refine lv_topi (fun z63 e64 => ?_)
      have f65 : z63.toInt = z60.toInt + (1 : Int) := za e64 (rfl : z60.toInt = _) (show (1 : Int32).toInt = (1 : Int) from by decide) (om_412 f62 hy0)
      refine lv_iload hx hb dX9_laysBehind_111 (lv_at hl 8 rfl) ?_
      refine lv_isub hx hb dX9_laysBehind_113 ?_
      refine lv_topi (fun z66 e67 => ?_)
      have f68 : z66.toInt = z63.toInt - v20.toInt := zs e67 (rfl : z63.toInt = _) (rfl : v20.toInt = _) (om_413 f62 f65 hy0 i22)
      refine lv_iload hx hb dX9_laysBehind_114 (lv_at hl 9 rfl) ?_
      refine va_iast hx hb hX.1 hP hD hS 2 0 rfl rfl (zin (rfl : z66.toInt = _) (om_414 f62 f65 f68 hy0 i22)) dX9_laysBehind_116 (fun H locs hP hD hS => ?_)
      obtain ⟨f69, e70⟩ : ∃ z9 : Nat → Int32, z9 = upd f_h0_flats z66.toNatClampNeg z36 := ⟨_, rfl⟩
      rw [← e70] at hP hD
      have hP : va_P g.1 vwCl [(h0, .inr (9, [.ref h0_told, .ref h0_read, .ref h0_now, .ref h0_readNow, .ref h0_kept, .int h0_undone, .int h0_seed, .int h0_hasPart, .ref h0_tape, .int h0_taped, .ref h0_refused, .int h0_faultKind, .int h0_faultPlace, .int h0_size, .int h0_at, .int h0_from, .int h0_wrong, .int h0_wrongAt, .ref h0_ownLetters, .ref h0_flats, .int h0_isLaid, .ref h0_corner, .ref h0_wayX, .ref h0_wayY, .ref h0_normal, .ref h0_low, .ref h0_high, .ref h0_clear, .ref h0_ways, .ref h0_canBe, .ref h0_lain, .int h0_canTool, .ref h0_fewestBy, .ref h0_sortOf, .int h0_rows, .ref h0_seenFlange, .ref h0_seenLength])), (h0_told, .inl (g.2.1.1, 103, .inl f_h0_told)), (h0_flats, .inl (g.2.1.1, 72, .inl f69))] H := hP
      have hD : va_D A [(h0, .inr (9, [.ref h0_told, .ref h0_read, .ref h0_now, .ref h0_readNow, .ref h0_kept, .int h0_undone, .int h0_seed, .int h0_hasPart, .ref h0_tape, .int h0_taped, .ref h0_refused, .int h0_faultKind, .int h0_faultPlace, .int h0_size, .int h0_at, .int h0_from, .int h0_wrong, .int h0_wrongAt, .ref h0_ownLetters, .ref h0_flats, .int h0_isLaid, .ref h0_corner, .ref h0_wayX, .ref h0_wayY, .ref h0_normal, .ref h0_low, .ref h0_high, .ref h0_clear, .ref h0_ways, .ref h0_canBe, .ref h0_lain, .int h0_canTool, .ref h0_fewestBy, .ref h0_sortOf, .int h0_rows, .ref h0_seenFlange, .ref h0_seenLength])), (h0_told, .inl (g.2.1.1, 103, .inl f_h0_told)), (h0_flats, .inl (g.2.1.1, 72, .inl f69))] := hD
      refine lv_aload_n hx hb dX9_laysBehind_117 rfl (lv_at hl 1 rfl) ?_
      refine va_get (D := g.1) (ci := 9) (v := .ref h0_flats) (C := RX9) (T := TX9) (N := 37) hx hb hG iX9 hown hX.1 hP 0 rfl rfl 19 (by decide) (hG _ wf_X9_69) (fun _ h9 => h9) rfl dX9_laysBehind_118 ?_
      refine lv_iconst (v := 4) hx hb dX9_laysBehind_121 (by decide) ?_
      refine lv_iload_n hx hb dX9_laysBehind_122 rfl (lv_at hl 2 rfl) ?_
      refine lv_imul hx hb dX9_laysBehind_123 ?_
      refine lv_topi (fun z71 e72 => ?_)
      have f73 : z71.toInt = (4 : Int) * x1.toInt := zm e72 (show (4 : Int32).toInt = (4 : Int) from by decide) (rfl : x1.toInt = _) (om_411 hy0)
      refine lv_iconst (v := 3) hx hb dX9_laysBehind_124 (by decide) ?_
      refine lv_iadd hx hb dX9_laysBehind_125 ?_
      refine lv_topi (fun z74 e75 => ?_)
      have f76 : z74.toInt = z71.toInt + (3 : Int) := za e75 (rfl : z71.toInt = _) (show (3 : Int32).toInt = (3 : Int) from by decide) (om_415 f73 hy0)
      refine lv_iload hx hb dX9_laysBehind_126 (lv_at hl 8 rfl) ?_
      refine lv_isub hx hb dX9_laysBehind_128 ?_
      refine lv_topi (fun z77 e78 => ?_)
      have f79 : z77.toInt = z74.toInt - v20.toInt := zs e78 (rfl : z74.toInt = _) (rfl : v20.toInt = _) (om_416 f73 f76 hy0 i22)
      refine lv_iload hx hb dX9_laysBehind_129 (lv_at hl 9 rfl) ?_
      refine lv_aload_n hx hb dX9_laysBehind_131 rfl (lv_at hl 1 rfl) ?_
      refine va_get (D := g.1) (ci := 9) (v := .ref h0_told) (C := RX9) (T := TX9) (N := 37) hx hb hG iX9 hown hX.1 hP 0 rfl rfl 0 (by decide) (hG _ wf_X9_7) (fun _ h9 => h9) rfl dX9_laysBehind_132 ?_
      refine lv_bipush (v := 40) hx hb dX9_laysBehind_135 (by decide) ?_
      refine lv_iload_n hx hb dX9_laysBehind_137 rfl (lv_at hl 3 rfl) ?_
      refine lv_iadd hx hb dX9_laysBehind_138 ?_
      refine lv_topi (fun z80 e81 => ?_)
      have f82 : z80.toInt = (40 : Int) + x2.toInt := za e81 (show (40 : Int32).toInt = (40 : Int) from by decide) (rfl : x2.toInt = _) (om_156 hy1)
      refine va_iald hx hb hX.1 hP 1 0 rfl rfl (zin (rfl : z80.toInt = _) (om_157 f82 hy1)) dX9_laysBehind_139 ?_
      refine lv_topi (fun z83 e84 => ?_)
      refine lv_iadd hx hb dX9_laysBehind_140 ?_
      refine lv_topi (fun z85 e86 => ?_)
      refine va_iast hx hb hX.1 hP hD hS 2 0 rfl rfl (zin (rfl : z77.toInt = _) (om_417 f73 f76 f79 hy0 i22)) dX9_laysBehind_141 (fun H locs hP hD hS => ?_)
      obtain ⟨f87, e88⟩ : ∃ z9 : Nat → Int32, z9 = upd f69 z77.toNatClampNeg z85 := ⟨_, rfl⟩
      rw [← e88] at hP hD
      have hP : va_P g.1 vwCl [(h0, .inr (9, [.ref h0_told, .ref h0_read, .ref h0_now, .ref h0_readNow, .ref h0_kept, .int h0_undone, .int h0_seed, .int h0_hasPart, .ref h0_tape, .int h0_taped, .ref h0_refused, .int h0_faultKind, .int h0_faultPlace, .int h0_size, .int h0_at, .int h0_from, .int h0_wrong, .int h0_wrongAt, .ref h0_ownLetters, .ref h0_flats, .int h0_isLaid, .ref h0_corner, .ref h0_wayX, .ref h0_wayY, .ref h0_normal, .ref h0_low, .ref h0_high, .ref h0_clear, .ref h0_ways, .ref h0_canBe, .ref h0_lain, .int h0_canTool, .ref h0_fewestBy, .ref h0_sortOf, .int h0_rows, .ref h0_seenFlange, .ref h0_seenLength])), (h0_told, .inl (g.2.1.1, 103, .inl f_h0_told)), (h0_flats, .inl (g.2.1.1, 72, .inl f87))] H := hP
      have hD : va_D A [(h0, .inr (9, [.ref h0_told, .ref h0_read, .ref h0_now, .ref h0_readNow, .ref h0_kept, .int h0_undone, .int h0_seed, .int h0_hasPart, .ref h0_tape, .int h0_taped, .ref h0_refused, .int h0_faultKind, .int h0_faultPlace, .int h0_size, .int h0_at, .int h0_from, .int h0_wrong, .int h0_wrongAt, .ref h0_ownLetters, .ref h0_flats, .int h0_isLaid, .ref h0_corner, .ref h0_wayX, .ref h0_wayY, .ref h0_normal, .ref h0_low, .ref h0_high, .ref h0_clear, .ref h0_ways, .ref h0_canBe, .ref h0_lain, .int h0_canTool, .ref h0_fewestBy, .ref h0_sortOf, .int h0_rows, .ref h0_seenFlange, .ref h0_seenLength])), (h0_told, .inl (g.2.1.1, 103, .inl f_h0_told)), (h0_flats, .inl (g.2.1.1, 72, .inl f87))] := hD
      refine lv_aload_n hx hb dX9_laysBehind_142 rfl (lv_at hl 1 rfl) ?_
      refine va_get (D := g.1) (ci := 9) (v := .ref h0_flats) (C := RX9) (T := TX9) (N := 37) hx hb hG iX9 hown hX.1 hP 0 rfl rfl 19 (by decide) (hG _ wf_X9_69) (fun _ h9 => h9) rfl dX9_laysBehind_143 ?_
      refine lv_iconst (v := 4) hx hb dX9_laysBehind_146 (by decide) ?_
      refine lv_iload_n hx hb dX9_laysBehind_147 rfl (lv_at hl 2 rfl) ?_
      refine lv_imul hx hb dX9_laysBehind_148 ?_
      refine lv_topi (fun z89 e90 => ?_)
      have f91 : z89.toInt = (4 : Int) * x1.toInt := zm e90 (show (4 : Int32).toInt = (4 : Int) from by decide) (rfl : x1.toInt = _) (om_411 hy0)
      refine lv_iload hx hb dX9_laysBehind_149 (lv_at hl 8 rfl) ?_
      refine lv_iadd hx hb dX9_laysBehind_151 ?_
      refine lv_topi (fun z92 e93 => ?_)
      have f94 : z92.toInt = z89.toInt + v20.toInt := za e93 (rfl : z89.toInt = _) (rfl : v20.toInt = _) (om_418 f91 hy0 i22)
      refine lv_iload hx hb dX9_laysBehind_152 (lv_at hl 0 rfl) ?_
      refine va_iast hx hb hX.1 hP hD hS 2 0 rfl rfl (zin (rfl : z92.toInt = _) (om_419 f91 f94 hy0 i22)) dX9_laysBehind_154 (fun H locs hP hD hS => ?_)
      obtain ⟨f95, e96⟩ : ∃ z9 : Nat → Int32, z9 = upd f87 z92.toNatClampNeg v58 := ⟨_, rfl⟩
      rw [← e96] at hP hD
      have hP : va_P g.1 vwCl [(h0, .inr (9, [.ref h0_told, .ref h0_read, .ref h0_now, .ref h0_readNow, .ref h0_kept, .int h0_undone, .int h0_seed, .int h0_hasPart, .ref h0_tape, .int h0_taped, .ref h0_refused, .int h0_faultKind, .int h0_faultPlace, .int h0_size, .int h0_at, .int h0_from, .int h0_wrong, .int h0_wrongAt, .ref h0_ownLetters, .ref h0_flats, .int h0_isLaid, .ref h0_corner, .ref h0_wayX, .ref h0_wayY, .ref h0_normal, .ref h0_low, .ref h0_high, .ref h0_clear, .ref h0_ways, .ref h0_canBe, .ref h0_lain, .int h0_canTool, .ref h0_fewestBy, .ref h0_sortOf, .int h0_rows, .ref h0_seenFlange, .ref h0_seenLength])), (h0_told, .inl (g.2.1.1, 103, .inl f_h0_told)), (h0_flats, .inl (g.2.1.1, 72, .inl f95))] H := hP
      have hD : va_D A [(h0, .inr (9, [.ref h0_told, .ref h0_read, .ref h0_now, .ref h0_readNow, .ref h0_kept, .int h0_undone, .int h0_seed, .int h0_hasPart, .ref h0_tape, .int h0_taped, .ref h0_refused, .int h0_faultKind, .int h0_faultPlace, .int h0_size, .int h0_at, .int h0_from, .int h0_wrong, .int h0_wrongAt, .ref h0_ownLetters, .ref h0_flats, .int h0_isLaid, .ref h0_corner, .ref h0_wayX, .ref h0_wayY, .ref h0_normal, .ref h0_low, .ref h0_high, .ref h0_clear, .ref h0_ways, .ref h0_canBe, .ref h0_lain, .int h0_canTool, .ref h0_fewestBy, .ref h0_sortOf, .int h0_rows, .ref h0_seenFlange, .ref h0_seenLength])), (h0_told, .inl (g.2.1.1, 103, .inl f_h0_told)), (h0_flats, .inl (g.2.1.1, 72, .inl f95))] := hD
      refine lv_aload_n hx hb dX9_laysBehind_155 rfl (lv_at hl 1 rfl) ?_
      refine va_get (D := g.1) (ci := 9) (v := .ref h0_flats) (C := RX9) (T := TX9) (N := 37) hx hb hG iX9 hown hX.1 hP 0 rfl rfl 19 (by decide) (hG _ wf_X9_69) (fun _ h9 => h9) rfl dX9_laysBehind_156 ?_
      refine lv_iconst (v := 4) hx hb dX9_laysBehind_159 (by decide) ?_
      refine lv_iload_n hx hb dX9_laysBehind_160 rfl (lv_at hl 2 rfl) ?_
      refine lv_imul hx hb dX9_laysBehind_161 ?_
      refine lv_topi (fun z97 e98 => ?_)
      have f99 : z97.toInt = (4 : Int) * x1.toInt := zm e98 (show (4 : Int32).toInt = (4 : Int) from by decide) (rfl : x1.toInt = _) (om_411 hy0)
      refine lv_iconst (v := 2) hx hb dX9_laysBehind_162 (by decide) ?_
      refine lv_iadd hx hb dX9_laysBehind_163 ?_
      refine lv_topi (fun z100 e101 => ?_)
      have f102 : z100.toInt = z97.toInt + (2 : Int) := za e101 (rfl : z97.toInt = _) (show (2 : Int32).toInt = (2 : Int) from by decide) (om_420 f99 hy0)
      refine lv_iload hx hb dX9_laysBehind_164 (lv_at hl 8 rfl) ?_
      refine lv_iadd hx hb dX9_laysBehind_166 ?_
      refine lv_topi (fun z103 e104 => ?_)
      have f105 : z103.toInt = z100.toInt + v20.toInt := za e104 (rfl : z100.toInt = _) (rfl : v20.toInt = _) (om_421 f102 f99 hy0 i22)
      refine lv_iload hx hb dX9_laysBehind_167 (lv_at hl 0 rfl) ?_
      refine lv_iload hx hb dX9_laysBehind_169 (lv_at hl 5 rfl) ?_
      refine lv_iadd hx hb dX9_laysBehind_171 ?_
      refine lv_topi (fun z106 e107 => ?_)
      refine va_iast hx hb hX.1 hP hD hS 2 0 rfl rfl (zin (rfl : z103.toInt = _) (om_422 f102 f105 f99 hy0 i22)) dX9_laysBehind_172 (fun H locs hP hD hS => ?_)
      obtain ⟨f108, e109⟩ : ∃ z9 : Nat → Int32, z9 = upd f95 z103.toNatClampNeg z106 := ⟨_, rfl⟩
      rw [← e109] at hP hD
      have hP : va_P g.1 vwCl [(h0, .inr (9, [.ref h0_told, .ref h0_read, .ref h0_now, .ref h0_readNow, .ref h0_kept, .int h0_undone, .int h0_seed, .int h0_hasPart, .ref h0_tape, .int h0_taped, .ref h0_refused, .int h0_faultKind, .int h0_faultPlace, .int h0_size, .int h0_at, .int h0_from, .int h0_wrong, .int h0_wrongAt, .ref h0_ownLetters, .ref h0_flats, .int h0_isLaid, .ref h0_corner, .ref h0_wayX, .ref h0_wayY, .ref h0_normal, .ref h0_low, .ref h0_high, .ref h0_clear, .ref h0_ways, .ref h0_canBe, .ref h0_lain, .int h0_canTool, .ref h0_fewestBy, .ref h0_sortOf, .int h0_rows, .ref h0_seenFlange, .ref h0_seenLength])), (h0_told, .inl (g.2.1.1, 103, .inl f_h0_told)), (h0_flats, .inl (g.2.1.1, 72, .inl f108))] H := hP
      have hD : va_D A [(h0, .inr (9, [.ref h0_told, .ref h0_read, .ref h0_now, .ref h0_readNow, .ref h0_kept, .int h0_undone, .int h0_seed, .int h0_hasPart, .ref h0_tape, .int h0_taped, .ref h0_refused, .int h0_faultKind, .int h0_faultPlace, .int h0_size, .int h0_at, .int h0_from, .int h0_wrong, .int h0_wrongAt, .ref h0_ownLetters, .ref h0_flats, .int h0_isLaid, .ref h0_corner, .ref h0_wayX, .ref h0_wayY, .ref h0_normal, .ref h0_low, .ref h0_high, .ref h0_clear, .ref h0_ways, .ref h0_canBe, .ref h0_lain, .int h0_canTool, .ref h0_fewestBy, .ref h0_sortOf, .int h0_rows, .ref h0_seenFlange, .ref h0_seenLength])), (h0_told, .inl (g.2.1.1, 103, .inl f_h0_told)), (h0_flats, .inl (g.2.1.1, 72, .inl f108))] := hD
      exact hret f108 (Nat.le_of_ble_eq_true rfl) (Nat.le_of_ble_eq_true rfl) trivial hP hD hS dX9_laysBehind_173
    refine lv_icmp_ge (tgt := 85) hx hb dX9_laysBehind_65 (by decide) (fun c110 => ?_) (fun c110 => ?_)
    · skip
      have c110i : (2 : Int) ≤ z13.toInt := (zc_le (show (2 : Int32).toInt = (2 : Int) from by decide) (rfl : z13.toInt = _)).mp c110
      refine lv_aload_n hx hb dX9_laysBehind_85 rfl (lv_at hl 2 rfl) ?_
      refine va_get (D := g.1) (ci := 9) (v := .ref h0_flats) (C := RX9) (T := TX9) (N := 37) hx hb hG iX9 hown hX.1 hP 0 rfl rfl 19 (by decide) (hG _ wf_X9_69) (fun _ h9 => h9) rfl dX9_laysBehind_86 ?_
      refine lv_iload hx hb dX9_laysBehind_89 (lv_at hl 7 rfl) ?_
      refine lv_iload hx hb dX9_laysBehind_91 (lv_at hl 1 rfl) ?_
      refine lv_iadd hx hb dX9_laysBehind_93 ?_
      refine lv_topi (fun z111 e112 => ?_)
      have f113 : z111.toInt = z7.toInt + v20.toInt := za e112 (rfl : z7.toInt = _) (rfl : v20.toInt = _) (om_423 f6 f9 i22)
      refine va_iald hx hb hX.1 hP 2 0 rfl rfl (zin (rfl : z111.toInt = _) (om_424 f113 f6 f9 i22)) dX9_laysBehind_94 ?_
      refine lv_topi (fun z114 e115 => ?_)
      refine lv_iload_n hx hb dX9_laysBehind_95 rfl (lv_at hl 5 rfl) ?_
      refine lv_isub hx hb dX9_laysBehind_96 ?_
      refine lv_topi (fun z116 e117 => ?_)
      refine lv_iload hx hb dX9_laysBehind_97 (lv_at hl 6 rfl) ?_
      refine lv_isub hx hb dX9_laysBehind_99 ?_
      refine lv_topi (fun z118 e119 => ?_)
      exact J59 z118 H locs ls  hP hD hS (lv_sub hl [2, 3, 4, 5, 6, 7, 8, 1, 0] rfl)
    · skip
      have c110i : ¬ ((2 : Int) ≤ z13.toInt) := fun q => c110 ((zc_le (show (2 : Int32).toInt = (2 : Int) from by decide) (rfl : z13.toInt = _)).mpr q)
      refine lv_aload_n hx hb dX9_laysBehind_68 rfl (lv_at hl 2 rfl) ?_
      refine va_get (D := g.1) (ci := 9) (v := .ref h0_flats) (C := RX9) (T := TX9) (N := 37) hx hb hG iX9 hown hX.1 hP 0 rfl rfl 19 (by decide) (hG _ wf_X9_69) (fun _ h9 => h9) rfl dX9_laysBehind_69 ?_
      refine lv_iload hx hb dX9_laysBehind_72 (lv_at hl 7 rfl) ?_
      refine lv_iconst (v := 2) hx hb dX9_laysBehind_74 (by decide) ?_
      refine lv_iadd hx hb dX9_laysBehind_75 ?_
      refine lv_topi (fun z120 e121 => ?_)
      have f122 : z120.toInt = z7.toInt + (2 : Int) := za e121 (rfl : z7.toInt = _) (show (2 : Int32).toInt = (2 : Int) from by decide) (om_425 f6 f9)
      refine lv_iload hx hb dX9_laysBehind_76 (lv_at hl 1 rfl) ?_
      refine lv_iadd hx hb dX9_laysBehind_78 ?_
      refine lv_topi (fun z123 e124 => ?_)
      have f125 : z123.toInt = z120.toInt + v20.toInt := za e124 (rfl : z120.toInt = _) (rfl : v20.toInt = _) (om_426 f122 f6 f9 i22)
      refine va_iald hx hb hX.1 hP 2 0 rfl rfl (zin (rfl : z123.toInt = _) (om_427 f122 f125 f6 f9 i22)) dX9_laysBehind_79 ?_
      refine lv_topi (fun z126 e127 => ?_)
      refine lv_iload_n hx hb dX9_laysBehind_80 rfl (lv_at hl 5 rfl) ?_
      refine lv_iadd hx hb dX9_laysBehind_81 ?_
      refine lv_topi (fun z128 e129 => ?_)
      refine lv_goto (tgt := 100) hx hb dX9_laysBehind_82 (by decide) ?_
      exact J59 z128 H locs ls  hP hD hS (lv_sub hl [2, 3, 4, 5, 6, 7, 8, 1, 0] rfl)
  refine lv_if_ne (tgt := 35) hx hb dX9_laysBehind_28 (by decide) (fun c130 => ?_) (fun c130 => ?_)
  · skip
    have c130i : ¬ (z16.toInt = (0 : Int)) := fun q => c130 ((zc_eq (rfl : z16.toInt = _) (show (0 : Int32).toInt = (0 : Int) from by decide)).mpr q)
    refine lv_iconst (v := 0) hx hb dX9_laysBehind_35 (by decide) ?_
    exact J21 (0 : Int32) _ _ ls ((show 0 ≤ (0 : Int) ∧ (0 : Int) ≤ 1 from by decide)) hP hD hS (lv_sub hl [2, 3, 4, 5, 6, 1, 0] rfl)
  · skip
    have c130i : z16.toInt = (0 : Int) := (zc_eq (rfl : z16.toInt = _) (show (0 : Int32).toInt = (0 : Int) from by decide)).mp c130
    refine lv_iconst (v := 1) hx hb dX9_laysBehind_31 (by decide) ?_
    refine lv_goto (tgt := 36) hx hb dX9_laysBehind_32 (by decide) ?_
    exact J21 (1 : Int32) _ _ ls ((show 0 ≤ (1 : Int) ∧ (1 : Int) ≤ 1 from by decide)) hP hD hS (lv_sub hl [2, 3, 4, 5, 6, 1, 0] rfl)
theorem dX9_laysFlat_0 : decode cX9_laysFlat 0 = .ok (.aload_n 0, 1) := by decide +kernel
theorem dX9_laysFlat_1 : decode cX9_laysFlat 1 = .ok (.getfield 72, 3) := by decide +kernel
theorem dX9_laysFlat_4 : decode cX9_laysFlat 4 = .ok (.ifCond .eq 4, 3) := by decide +kernel
theorem dX9_laysFlat_8 : decode cX9_laysFlat 8 = .ok (.aload_n 0, 1) := by decide +kernel
theorem dX9_laysFlat_9 : decode cX9_laysFlat 9 = .ok (.iconst 1, 1) := by decide +kernel
theorem dX9_laysFlat_10 : decode cX9_laysFlat 10 = .ok (.putfield 72, 3) := by decide +kernel
theorem dX9_laysFlat_13 : decode cX9_laysFlat 13 = .ok (.aload_n 0, 1) := by decide +kernel
theorem dX9_laysFlat_14 : decode cX9_laysFlat 14 = .ok (.getfield 69, 3) := by decide +kernel
theorem dX9_laysFlat_17 : decode cX9_laysFlat 17 = .ok (.iconst 0, 1) := by decide +kernel
theorem dX9_laysFlat_18 : decode cX9_laysFlat 18 = .ok (.iconst 0, 1) := by decide +kernel
theorem dX9_laysFlat_19 : decode cX9_laysFlat 19 = .ok (.iastore, 1) := by decide +kernel
theorem dX9_laysFlat_20 : decode cX9_laysFlat 20 = .ok (.aload_n 0, 1) := by decide +kernel
theorem dX9_laysFlat_21 : decode cX9_laysFlat 21 = .ok (.getfield 69, 3) := by decide +kernel
theorem dX9_laysFlat_24 : decode cX9_laysFlat 24 = .ok (.iconst 1, 1) := by decide +kernel
theorem dX9_laysFlat_25 : decode cX9_laysFlat 25 = .ok (.iconst 0, 1) := by decide +kernel
theorem dX9_laysFlat_26 : decode cX9_laysFlat 26 = .ok (.iastore, 1) := by decide +kernel
theorem dX9_laysFlat_27 : decode cX9_laysFlat 27 = .ok (.aload_n 0, 1) := by decide +kernel
theorem dX9_laysFlat_28 : decode cX9_laysFlat 28 = .ok (.getfield 69, 3) := by decide +kernel
theorem dX9_laysFlat_31 : decode cX9_laysFlat 31 = .ok (.iconst 2, 1) := by decide +kernel
theorem dX9_laysFlat_32 : decode cX9_laysFlat 32 = .ok (.aload_n 0, 1) := by decide +kernel
theorem dX9_laysFlat_33 : decode cX9_laysFlat 33 = .ok (.getfield 7, 3) := by decide +kernel
theorem dX9_laysFlat_36 : decode cX9_laysFlat 36 = .ok (.iconst 1, 1) := by decide +kernel
theorem dX9_laysFlat_37 : decode cX9_laysFlat 37 = .ok (.iaload, 1) := by decide +kernel
theorem dX9_laysFlat_38 : decode cX9_laysFlat 38 = .ok (.iastore, 1) := by decide +kernel
theorem dX9_laysFlat_39 : decode cX9_laysFlat 39 = .ok (.aload_n 0, 1) := by decide +kernel
theorem dX9_laysFlat_40 : decode cX9_laysFlat 40 = .ok (.getfield 69, 3) := by decide +kernel
theorem dX9_laysFlat_43 : decode cX9_laysFlat 43 = .ok (.iconst 3, 1) := by decide +kernel
theorem dX9_laysFlat_44 : decode cX9_laysFlat 44 = .ok (.aload_n 0, 1) := by decide +kernel
theorem dX9_laysFlat_45 : decode cX9_laysFlat 45 = .ok (.getfield 7, 3) := by decide +kernel
theorem dX9_laysFlat_48 : decode cX9_laysFlat 48 = .ok (.iconst 2, 1) := by decide +kernel
theorem dX9_laysFlat_49 : decode cX9_laysFlat 49 = .ok (.iaload, 1) := by decide +kernel
theorem dX9_laysFlat_50 : decode cX9_laysFlat 50 = .ok (.iastore, 1) := by decide +kernel
theorem dX9_laysFlat_51 : decode cX9_laysFlat 51 = .ok (.iconst 1, 1) := by decide +kernel
theorem dX9_laysFlat_52 : decode cX9_laysFlat 52 = .ok (.istore_n 1, 1) := by decide +kernel
theorem dX9_laysFlat_53 : decode cX9_laysFlat 53 = .ok (.iload_n 1, 1) := by decide +kernel
theorem dX9_laysFlat_54 : decode cX9_laysFlat 54 = .ok (.aload_n 0, 1) := by decide +kernel
theorem dX9_laysFlat_55 : decode cX9_laysFlat 55 = .ok (.getfield 7, 3) := by decide +kernel
theorem dX9_laysFlat_58 : decode cX9_laysFlat 58 = .ok (.iconst 3, 1) := by decide +kernel
theorem dX9_laysFlat_59 : decode cX9_laysFlat 59 = .ok (.iaload, 1) := by decide +kernel
theorem dX9_laysFlat_60 : decode cX9_laysFlat 60 = .ok (.if_icmp .ge 50, 3) := by decide +kernel
theorem dX9_laysFlat_110 : decode cX9_laysFlat 110 = .ok (.return_, 1) := by decide +kernel
theorem dX9_laysFlat_63 : decode cX9_laysFlat 63 = .ok (.aload_n 0, 1) := by decide +kernel
theorem dX9_laysFlat_64 : decode cX9_laysFlat 64 = .ok (.aload_n 0, 1) := by decide +kernel
theorem dX9_laysFlat_65 : decode cX9_laysFlat 65 = .ok (.getfield 7, 3) := by decide +kernel
theorem dX9_laysFlat_68 : decode cX9_laysFlat 68 = .ok (.bipush 58, 2) := by decide +kernel
theorem dX9_laysFlat_70 : decode cX9_laysFlat 70 = .ok (.iload_n 1, 1) := by decide +kernel
theorem dX9_laysFlat_71 : decode cX9_laysFlat 71 = .ok (.iadd, 1) := by decide +kernel
theorem dX9_laysFlat_72 : decode cX9_laysFlat 72 = .ok (.iaload, 1) := by decide +kernel
theorem dX9_laysFlat_73 : decode cX9_laysFlat 73 = .ok (.invokevirtual 232, 3) := by decide +kernel
theorem dX9_laysFlat_76 : decode cX9_laysFlat 76 = .ok (.istore_n 2, 1) := by decide +kernel
theorem dX9_laysFlat_77 : decode cX9_laysFlat 77 = .ok (.aload_n 0, 1) := by decide +kernel
theorem dX9_laysFlat_78 : decode cX9_laysFlat 78 = .ok (.iload_n 1, 1) := by decide +kernel
theorem dX9_laysFlat_79 : decode cX9_laysFlat 79 = .ok (.iload_n 1, 1) := by decide +kernel
theorem dX9_laysFlat_80 : decode cX9_laysFlat 80 = .ok (.iload_n 2, 1) := by decide +kernel
theorem dX9_laysFlat_81 : decode cX9_laysFlat 81 = .ok (.aload_n 0, 1) := by decide +kernel
theorem dX9_laysFlat_82 : decode cX9_laysFlat 82 = .ok (.getfield 7, 3) := by decide +kernel
theorem dX9_laysFlat_85 : decode cX9_laysFlat 85 = .ok (.bipush 49, 2) := by decide +kernel
theorem dX9_laysFlat_87 : decode cX9_laysFlat 87 = .ok (.iload_n 1, 1) := by decide +kernel
theorem dX9_laysFlat_88 : decode cX9_laysFlat 88 = .ok (.iadd, 1) := by decide +kernel
theorem dX9_laysFlat_89 : decode cX9_laysFlat 89 = .ok (.iaload, 1) := by decide +kernel
theorem dX9_laysFlat_90 : decode cX9_laysFlat 90 = .ok (.invokevirtual 247, 3) := by decide +kernel
theorem dX9_laysFlat_93 : decode cX9_laysFlat 93 = .ok (.aload_n 0, 1) := by decide +kernel
theorem dX9_laysFlat_94 : decode cX9_laysFlat 94 = .ok (.bipush 8, 2) := by decide +kernel
theorem dX9_laysFlat_96 : decode cX9_laysFlat 96 = .ok (.iload_n 1, 1) := by decide +kernel
theorem dX9_laysFlat_97 : decode cX9_laysFlat 97 = .ok (.iadd, 1) := by decide +kernel
theorem dX9_laysFlat_98 : decode cX9_laysFlat 98 = .ok (.iload_n 1, 1) := by decide +kernel
theorem dX9_laysFlat_99 : decode cX9_laysFlat 99 = .ok (.iconst 0, 1) := by decide +kernel
theorem dX9_laysFlat_100 : decode cX9_laysFlat 100 = .ok (.iload_n 2, 1) := by decide +kernel
theorem dX9_laysFlat_101 : decode cX9_laysFlat 101 = .ok (.invokevirtual 247, 3) := by decide +kernel
theorem dX9_laysFlat_104 : decode cX9_laysFlat 104 = .ok (.iinc 1 1, 3) := by decide +kernel
theorem dX9_laysFlat_107 : decode cX9_laysFlat 107 = .ok (.goto (-54), 3) := by decide +kernel
theorem dX9_laysFlat_7 : decode cX9_laysFlat 7 = .ok (.return_, 1) := by decide +kernel
abbrev rm_kX9_laysFlat : Room := { frames := 1, cells := 0, slots := 0, locals := 29 }
set_option maxHeartbeats 4000000 in
set_option maxRecDepth 100000 in
theorem kX9_laysFlat (l : Launch) (g : zL) (h0 : Nat) (h0_told : Nat) (h0_read : Nat) (h0_now : Nat) (h0_readNow : Nat) (h0_kept : Nat) (h0_undone : Int32) (h0_seed : Int32) (h0_hasPart : Int32) (h0_tape : Nat) (h0_taped : Int32) (h0_refused : Nat) (h0_faultKind : Int32) (h0_faultPlace : Int32) (h0_size : Int32) (h0_at : Int32) (h0_from : Int32) (h0_wrong : Int32) (h0_wrongAt : Int32) (h0_ownLetters : Nat) (h0_flats : Nat) (h0_isLaid : Int32) (h0_corner : Nat) (h0_wayX : Nat) (h0_wayY : Nat) (h0_normal : Nat) (h0_low : Nat) (h0_high : Nat) (h0_clear : Nat) (h0_ways : Nat) (h0_canBe : Nat) (h0_lain : Nat) (h0_canTool : Int32) (h0_fewestBy : Nat) (h0_sortOf : Nat) (h0_rows : Int32) (h0_seenFlange : Nat) (h0_seenLength : Nat) (f_h0_flats : Nat → Int32) (f_h0_told : Nat → Int32) (h0_told_3 : Int32) (h0_told_4 : Int32) (f_h0_now : Nat → Int32) (h0_now_0 : Int32) (hy0 : 0 ≤ h0_undone.toInt ∧ h0_undone.toInt ≤ 20) (hy1 : 0 ≤ h0_seed.toInt ∧ h0_seed.toInt ≤ 2147483647) (hy2 : 0 ≤ h0_hasPart.toInt ∧ h0_hasPart.toInt ≤ 1) (hy3 : 0 ≤ h0_taped.toInt ∧ h0_taped.toInt ≤ 1200) (hy4 : 0 ≤ h0_faultKind.toInt ∧ h0_faultKind.toInt ≤ 5) (hy5 : 0 ≤ h0_size.toInt ∧ h0_size.toInt ≤ 1200) (hy6 : 0 ≤ h0_at.toInt ∧ h0_at.toInt ≤ 1200) (hy7 : 0 ≤ h0_from.toInt ∧ h0_from.toInt ≤ 1200) (hy8 : 0 ≤ h0_wrong.toInt ∧ h0_wrong.toInt ≤ 5) (hy9 : 0 ≤ h0_isLaid.toInt ∧ h0_isLaid.toInt ≤ 1) (hy10 : 0 ≤ h0_canTool.toInt ∧ h0_canTool.toInt ≤ 255) (hy11 : 0 ≤ h0_rows.toInt ∧ h0_rows.toInt ≤ 8) (hy12 : pW mB f_h0_told) (hy13 : 0 ≤ h0_told_3.toInt ∧ h0_told_3.toInt ≤ 9) (hy14 : cEq f_h0_told 3 h0_told_3) (hy15 : 0 ≤ h0_told_4.toInt ∧ h0_told_4.toInt ≤ 8) (hy16 : cEq f_h0_told 4 h0_told_4) (hy17 : pW nB f_h0_now) (hy18 : 0 ≤ h0_now_0.toInt ∧ h0_now_0.toInt ≤ 255) (hy19 : cEq f_h0_now 0 h0_now_0) (hy20 : ((h0_hasPart.toInt = 0 ∧ h0_told_3.toInt = 0) ∨ (h0_hasPart.toInt = 1 ∧ 1 ≤ h0_told_3.toInt))) : zCv l g yX9_laysFlat cX9_laysFlat 3 none rm_kX9_laysFlat [.ref h0] [(h0, .inr (9, [.ref h0_told, .ref h0_read, .ref h0_now, .ref h0_readNow, .ref h0_kept, .int h0_undone, .int h0_seed, .int h0_hasPart, .ref h0_tape, .int h0_taped, .ref h0_refused, .int h0_faultKind, .int h0_faultPlace, .int h0_size, .int h0_at, .int h0_from, .int h0_wrong, .int h0_wrongAt, .ref h0_ownLetters, .ref h0_flats, .int h0_isLaid, .ref h0_corner, .ref h0_wayX, .ref h0_wayY, .ref h0_normal, .ref h0_low, .ref h0_high, .ref h0_clear, .ref h0_ways, .ref h0_canBe, .ref h0_lain, .int h0_canTool, .ref h0_fewestBy, .ref h0_sortOf, .int h0_rows, .ref h0_seenFlange, .ref h0_seenLength])), (h0_flats, .inl (g.2.1.1, 72, .inl f_h0_flats)), (h0_told, .inl (g.2.1.1, 103, .inl f_h0_told)), (h0_now, .inl (g.2.1.1, 21, .inl f_h0_now))] (fun (u : Int32 × (Nat → Int32)) => (1 ≤ u.1.toInt ∧ u.1.toInt ≤ 1)) (fun (u : Int32 × (Nat → Int32)) => [(h0, .inr (9, [.ref h0_told, .ref h0_read, .ref h0_now, .ref h0_readNow, .ref h0_kept, .int h0_undone, .int h0_seed, .int h0_hasPart, .ref h0_tape, .int h0_taped, .ref h0_refused, .int h0_faultKind, .int h0_faultPlace, .int h0_size, .int h0_at, .int h0_from, .int h0_wrong, .int h0_wrongAt, .ref h0_ownLetters, .ref h0_flats, .int u.1, .ref h0_corner, .ref h0_wayX, .ref h0_wayY, .ref h0_normal, .ref h0_low, .ref h0_high, .ref h0_clear, .ref h0_ways, .ref h0_canBe, .ref h0_lain, .int h0_canTool, .ref h0_fewestBy, .ref h0_sortOf, .int h0_rows, .ref h0_seenFlange, .ref h0_seenLength])), (h0_flats, .inl (g.2.1.1, 72, .inl u.2)), (h0_told, .inl (g.2.1.1, 103, .inl f_h0_told)), (h0_now, .inl (g.2.1.1, 21, .inl f_h0_now))]) := by
  refine zCv.mk2 (by decide) (Nat.le_of_ble_eq_true rfl) ?_
  intro p e s m below meth c A args Q hE hret hP hD hS ls hl
  obtain ⟨hx, hb, hr, hml, hown, hG, hlocks, hnm, hX, hA⟩ := hE
  have hown : s.vm.findClass RX9 = some m.cls := hown
  have hl : lv_has ls 3 [(0, .ref h0)] := hl
  refine lv_aload_n hx hb dX9_laysFlat_0 rfl (lv_at hl 0 rfl) ?_
  refine va_get (D := g.1) (ci := 9) (v := .int h0_isLaid) (C := RX9) (T := TX9) (N := 37) hx hb hG iX9 hown hX.1 hP 0 rfl rfl 20 (by decide) (hG _ wf_X9_72) (fun _ h9 => h9) rfl dX9_laysFlat_1 ?_
  refine lv_if_eq (tgt := 8) hx hb dX9_laysFlat_4 (by decide) (fun c1 => ?_) (fun c1 => ?_)
  · skip
    have c1i : h0_isLaid.toInt = (0 : Int) := (zc_eq (rfl : h0_isLaid.toInt = _) (show (0 : Int32).toInt = (0 : Int) from by decide)).mp c1
    refine lv_aload_n hx hb dX9_laysFlat_8 rfl (lv_at hl 0 rfl) ?_
    refine lv_iconst (v := 1) hx hb dX9_laysFlat_9 (by decide) ?_
    refine va_put (D := g.1) (ci := 9) (v := .int 1) (ty := .boolean) (C := RX9) (T := TX9) (N := 37) hx hb hG iX9 tyX9 tyX9_ok nmX9 hown hX.1 hP hD hS 0 rfl rfl 20 (by decide) (hG _ wf_X9_72) (fun _ h9 => h9) rfl (by decide +kernel) rfl rfl (Nat.le_of_ble_eq_true rfl) dX9_laysFlat_10 (fun H locs hP hD hS => ?_)
    have hP : va_P g.1 vwCl [(h0, .inr (9, [.ref h0_told, .ref h0_read, .ref h0_now, .ref h0_readNow, .ref h0_kept, .int h0_undone, .int h0_seed, .int h0_hasPart, .ref h0_tape, .int h0_taped, .ref h0_refused, .int h0_faultKind, .int h0_faultPlace, .int h0_size, .int h0_at, .int h0_from, .int h0_wrong, .int h0_wrongAt, .ref h0_ownLetters, .ref h0_flats, .int 1, .ref h0_corner, .ref h0_wayX, .ref h0_wayY, .ref h0_normal, .ref h0_low, .ref h0_high, .ref h0_clear, .ref h0_ways, .ref h0_canBe, .ref h0_lain, .int h0_canTool, .ref h0_fewestBy, .ref h0_sortOf, .int h0_rows, .ref h0_seenFlange, .ref h0_seenLength])), (h0_flats, .inl (g.2.1.1, 72, .inl f_h0_flats)), (h0_told, .inl (g.2.1.1, 103, .inl f_h0_told)), (h0_now, .inl (g.2.1.1, 21, .inl f_h0_now))] H := hP
    have hD : va_D A [(h0, .inr (9, [.ref h0_told, .ref h0_read, .ref h0_now, .ref h0_readNow, .ref h0_kept, .int h0_undone, .int h0_seed, .int h0_hasPart, .ref h0_tape, .int h0_taped, .ref h0_refused, .int h0_faultKind, .int h0_faultPlace, .int h0_size, .int h0_at, .int h0_from, .int h0_wrong, .int h0_wrongAt, .ref h0_ownLetters, .ref h0_flats, .int 1, .ref h0_corner, .ref h0_wayX, .ref h0_wayY, .ref h0_normal, .ref h0_low, .ref h0_high, .ref h0_clear, .ref h0_ways, .ref h0_canBe, .ref h0_lain, .int h0_canTool, .ref h0_fewestBy, .ref h0_sortOf, .int h0_rows, .ref h0_seenFlange, .ref h0_seenLength])), (h0_flats, .inl (g.2.1.1, 72, .inl f_h0_flats)), (h0_told, .inl (g.2.1.1, 103, .inl f_h0_told)), (h0_now, .inl (g.2.1.1, 21, .inl f_h0_now))] := hD
    refine lv_aload_n hx hb dX9_laysFlat_13 rfl (lv_at hl 0 rfl) ?_
    refine va_get (D := g.1) (ci := 9) (v := .ref h0_flats) (C := RX9) (T := TX9) (N := 37) hx hb hG iX9 hown hX.1 hP 0 rfl rfl 19 (by decide) (hG _ wf_X9_69) (fun _ h9 => h9) rfl dX9_laysFlat_14 ?_
    refine lv_iconst (v := 0) hx hb dX9_laysFlat_17 (by decide) ?_
    refine lv_iconst (v := 0) hx hb dX9_laysFlat_18 (by decide) ?_
    refine va_iast hx hb hX.1 hP hD hS 1 0 rfl rfl (zin (show (0 : Int32).toInt = (0 : Int) from by decide) ((show 0 ≤ (0 : Int) ∧ (0 : Int) < 72 from by decide))) dX9_laysFlat_19 (fun H locs hP hD hS => ?_)
    obtain ⟨f2, e3⟩ : ∃ z9 : Nat → Int32, z9 = upd f_h0_flats (0 : Int32).toNatClampNeg (0 : Int32) := ⟨_, rfl⟩
    rw [← e3] at hP hD
    have hP : va_P g.1 vwCl [(h0, .inr (9, [.ref h0_told, .ref h0_read, .ref h0_now, .ref h0_readNow, .ref h0_kept, .int h0_undone, .int h0_seed, .int h0_hasPart, .ref h0_tape, .int h0_taped, .ref h0_refused, .int h0_faultKind, .int h0_faultPlace, .int h0_size, .int h0_at, .int h0_from, .int h0_wrong, .int h0_wrongAt, .ref h0_ownLetters, .ref h0_flats, .int 1, .ref h0_corner, .ref h0_wayX, .ref h0_wayY, .ref h0_normal, .ref h0_low, .ref h0_high, .ref h0_clear, .ref h0_ways, .ref h0_canBe, .ref h0_lain, .int h0_canTool, .ref h0_fewestBy, .ref h0_sortOf, .int h0_rows, .ref h0_seenFlange, .ref h0_seenLength])), (h0_flats, .inl (g.2.1.1, 72, .inl f2)), (h0_told, .inl (g.2.1.1, 103, .inl f_h0_told)), (h0_now, .inl (g.2.1.1, 21, .inl f_h0_now))] H := hP
    have hD : va_D A [(h0, .inr (9, [.ref h0_told, .ref h0_read, .ref h0_now, .ref h0_readNow, .ref h0_kept, .int h0_undone, .int h0_seed, .int h0_hasPart, .ref h0_tape, .int h0_taped, .ref h0_refused, .int h0_faultKind, .int h0_faultPlace, .int h0_size, .int h0_at, .int h0_from, .int h0_wrong, .int h0_wrongAt, .ref h0_ownLetters, .ref h0_flats, .int 1, .ref h0_corner, .ref h0_wayX, .ref h0_wayY, .ref h0_normal, .ref h0_low, .ref h0_high, .ref h0_clear, .ref h0_ways, .ref h0_canBe, .ref h0_lain, .int h0_canTool, .ref h0_fewestBy, .ref h0_sortOf, .int h0_rows, .ref h0_seenFlange, .ref h0_seenLength])), (h0_flats, .inl (g.2.1.1, 72, .inl f2)), (h0_told, .inl (g.2.1.1, 103, .inl f_h0_told)), (h0_now, .inl (g.2.1.1, 21, .inl f_h0_now))] := hD
    refine lv_aload_n hx hb dX9_laysFlat_20 rfl (lv_at hl 0 rfl) ?_
    refine va_get (D := g.1) (ci := 9) (v := .ref h0_flats) (C := RX9) (T := TX9) (N := 37) hx hb hG iX9 hown hX.1 hP 0 rfl rfl 19 (by decide) (hG _ wf_X9_69) (fun _ h9 => h9) rfl dX9_laysFlat_21 ?_
    refine lv_iconst (v := 1) hx hb dX9_laysFlat_24 (by decide) ?_
    refine lv_iconst (v := 0) hx hb dX9_laysFlat_25 (by decide) ?_
    refine va_iast hx hb hX.1 hP hD hS 1 0 rfl rfl (zin (show (1 : Int32).toInt = (1 : Int) from by decide) ((show 0 ≤ (1 : Int) ∧ (1 : Int) < 72 from by decide))) dX9_laysFlat_26 (fun H locs hP hD hS => ?_)
    obtain ⟨f4, e5⟩ : ∃ z9 : Nat → Int32, z9 = upd f2 (1 : Int32).toNatClampNeg (0 : Int32) := ⟨_, rfl⟩
    rw [← e5] at hP hD
    have hP : va_P g.1 vwCl [(h0, .inr (9, [.ref h0_told, .ref h0_read, .ref h0_now, .ref h0_readNow, .ref h0_kept, .int h0_undone, .int h0_seed, .int h0_hasPart, .ref h0_tape, .int h0_taped, .ref h0_refused, .int h0_faultKind, .int h0_faultPlace, .int h0_size, .int h0_at, .int h0_from, .int h0_wrong, .int h0_wrongAt, .ref h0_ownLetters, .ref h0_flats, .int 1, .ref h0_corner, .ref h0_wayX, .ref h0_wayY, .ref h0_normal, .ref h0_low, .ref h0_high, .ref h0_clear, .ref h0_ways, .ref h0_canBe, .ref h0_lain, .int h0_canTool, .ref h0_fewestBy, .ref h0_sortOf, .int h0_rows, .ref h0_seenFlange, .ref h0_seenLength])), (h0_flats, .inl (g.2.1.1, 72, .inl f4)), (h0_told, .inl (g.2.1.1, 103, .inl f_h0_told)), (h0_now, .inl (g.2.1.1, 21, .inl f_h0_now))] H := hP
    have hD : va_D A [(h0, .inr (9, [.ref h0_told, .ref h0_read, .ref h0_now, .ref h0_readNow, .ref h0_kept, .int h0_undone, .int h0_seed, .int h0_hasPart, .ref h0_tape, .int h0_taped, .ref h0_refused, .int h0_faultKind, .int h0_faultPlace, .int h0_size, .int h0_at, .int h0_from, .int h0_wrong, .int h0_wrongAt, .ref h0_ownLetters, .ref h0_flats, .int 1, .ref h0_corner, .ref h0_wayX, .ref h0_wayY, .ref h0_normal, .ref h0_low, .ref h0_high, .ref h0_clear, .ref h0_ways, .ref h0_canBe, .ref h0_lain, .int h0_canTool, .ref h0_fewestBy, .ref h0_sortOf, .int h0_rows, .ref h0_seenFlange, .ref h0_seenLength])), (h0_flats, .inl (g.2.1.1, 72, .inl f4)), (h0_told, .inl (g.2.1.1, 103, .inl f_h0_told)), (h0_now, .inl (g.2.1.1, 21, .inl f_h0_now))] := hD
    refine lv_aload_n hx hb dX9_laysFlat_27 rfl (lv_at hl 0 rfl) ?_
    refine va_get (D := g.1) (ci := 9) (v := .ref h0_flats) (C := RX9) (T := TX9) (N := 37) hx hb hG iX9 hown hX.1 hP 0 rfl rfl 19 (by decide) (hG _ wf_X9_69) (fun _ h9 => h9) rfl dX9_laysFlat_28 ?_
    refine lv_iconst (v := 2) hx hb dX9_laysFlat_31 (by decide) ?_
    refine lv_aload_n hx hb dX9_laysFlat_32 rfl (lv_at hl 0 rfl) ?_
    refine va_get (D := g.1) (ci := 9) (v := .ref h0_told) (C := RX9) (T := TX9) (N := 37) hx hb hG iX9 hown hX.1 hP 0 rfl rfl 0 (by decide) (hG _ wf_X9_7) (fun _ h9 => h9) rfl dX9_laysFlat_33 ?_
    refine lv_iconst (v := 1) hx hb dX9_laysFlat_36 (by decide) ?_
    refine va_iald hx hb hX.1 hP 2 0 rfl rfl (zin (show (1 : Int32).toInt = (1 : Int) from by decide) ((show 0 ≤ (1 : Int) ∧ (1 : Int) < 103 from by decide))) dX9_laysFlat_37 ?_
    refine lv_topi (fun z6 e7 => ?_)
    refine va_iast hx hb hX.1 hP hD hS 1 0 rfl rfl (zin (show (2 : Int32).toInt = (2 : Int) from by decide) ((show 0 ≤ (2 : Int) ∧ (2 : Int) < 72 from by decide))) dX9_laysFlat_38 (fun H locs hP hD hS => ?_)
    obtain ⟨f8, e9⟩ : ∃ z9 : Nat → Int32, z9 = upd f4 (2 : Int32).toNatClampNeg z6 := ⟨_, rfl⟩
    rw [← e9] at hP hD
    have hP : va_P g.1 vwCl [(h0, .inr (9, [.ref h0_told, .ref h0_read, .ref h0_now, .ref h0_readNow, .ref h0_kept, .int h0_undone, .int h0_seed, .int h0_hasPart, .ref h0_tape, .int h0_taped, .ref h0_refused, .int h0_faultKind, .int h0_faultPlace, .int h0_size, .int h0_at, .int h0_from, .int h0_wrong, .int h0_wrongAt, .ref h0_ownLetters, .ref h0_flats, .int 1, .ref h0_corner, .ref h0_wayX, .ref h0_wayY, .ref h0_normal, .ref h0_low, .ref h0_high, .ref h0_clear, .ref h0_ways, .ref h0_canBe, .ref h0_lain, .int h0_canTool, .ref h0_fewestBy, .ref h0_sortOf, .int h0_rows, .ref h0_seenFlange, .ref h0_seenLength])), (h0_flats, .inl (g.2.1.1, 72, .inl f8)), (h0_told, .inl (g.2.1.1, 103, .inl f_h0_told)), (h0_now, .inl (g.2.1.1, 21, .inl f_h0_now))] H := hP
    have hD : va_D A [(h0, .inr (9, [.ref h0_told, .ref h0_read, .ref h0_now, .ref h0_readNow, .ref h0_kept, .int h0_undone, .int h0_seed, .int h0_hasPart, .ref h0_tape, .int h0_taped, .ref h0_refused, .int h0_faultKind, .int h0_faultPlace, .int h0_size, .int h0_at, .int h0_from, .int h0_wrong, .int h0_wrongAt, .ref h0_ownLetters, .ref h0_flats, .int 1, .ref h0_corner, .ref h0_wayX, .ref h0_wayY, .ref h0_normal, .ref h0_low, .ref h0_high, .ref h0_clear, .ref h0_ways, .ref h0_canBe, .ref h0_lain, .int h0_canTool, .ref h0_fewestBy, .ref h0_sortOf, .int h0_rows, .ref h0_seenFlange, .ref h0_seenLength])), (h0_flats, .inl (g.2.1.1, 72, .inl f8)), (h0_told, .inl (g.2.1.1, 103, .inl f_h0_told)), (h0_now, .inl (g.2.1.1, 21, .inl f_h0_now))] := hD
    refine lv_aload_n hx hb dX9_laysFlat_39 rfl (lv_at hl 0 rfl) ?_
    refine va_get (D := g.1) (ci := 9) (v := .ref h0_flats) (C := RX9) (T := TX9) (N := 37) hx hb hG iX9 hown hX.1 hP 0 rfl rfl 19 (by decide) (hG _ wf_X9_69) (fun _ h9 => h9) rfl dX9_laysFlat_40 ?_
    refine lv_iconst (v := 3) hx hb dX9_laysFlat_43 (by decide) ?_
    refine lv_aload_n hx hb dX9_laysFlat_44 rfl (lv_at hl 0 rfl) ?_
    refine va_get (D := g.1) (ci := 9) (v := .ref h0_told) (C := RX9) (T := TX9) (N := 37) hx hb hG iX9 hown hX.1 hP 0 rfl rfl 0 (by decide) (hG _ wf_X9_7) (fun _ h9 => h9) rfl dX9_laysFlat_45 ?_
    refine lv_iconst (v := 2) hx hb dX9_laysFlat_48 (by decide) ?_
    refine va_iald hx hb hX.1 hP 2 0 rfl rfl (zin (show (2 : Int32).toInt = (2 : Int) from by decide) ((show 0 ≤ (2 : Int) ∧ (2 : Int) < 103 from by decide))) dX9_laysFlat_49 ?_
    refine lv_topi (fun z10 e11 => ?_)
    refine va_iast hx hb hX.1 hP hD hS 1 0 rfl rfl (zin (show (3 : Int32).toInt = (3 : Int) from by decide) ((show 0 ≤ (3 : Int) ∧ (3 : Int) < 72 from by decide))) dX9_laysFlat_50 (fun H locs hP hD hS => ?_)
    obtain ⟨f12, e13⟩ : ∃ z9 : Nat → Int32, z9 = upd f8 (3 : Int32).toNatClampNeg z10 := ⟨_, rfl⟩
    rw [← e13] at hP hD
    have hP : va_P g.1 vwCl [(h0, .inr (9, [.ref h0_told, .ref h0_read, .ref h0_now, .ref h0_readNow, .ref h0_kept, .int h0_undone, .int h0_seed, .int h0_hasPart, .ref h0_tape, .int h0_taped, .ref h0_refused, .int h0_faultKind, .int h0_faultPlace, .int h0_size, .int h0_at, .int h0_from, .int h0_wrong, .int h0_wrongAt, .ref h0_ownLetters, .ref h0_flats, .int 1, .ref h0_corner, .ref h0_wayX, .ref h0_wayY, .ref h0_normal, .ref h0_low, .ref h0_high, .ref h0_clear, .ref h0_ways, .ref h0_canBe, .ref h0_lain, .int h0_canTool, .ref h0_fewestBy, .ref h0_sortOf, .int h0_rows, .ref h0_seenFlange, .ref h0_seenLength])), (h0_flats, .inl (g.2.1.1, 72, .inl f12)), (h0_told, .inl (g.2.1.1, 103, .inl f_h0_told)), (h0_now, .inl (g.2.1.1, 21, .inl f_h0_now))] H := hP
    have hD : va_D A [(h0, .inr (9, [.ref h0_told, .ref h0_read, .ref h0_now, .ref h0_readNow, .ref h0_kept, .int h0_undone, .int h0_seed, .int h0_hasPart, .ref h0_tape, .int h0_taped, .ref h0_refused, .int h0_faultKind, .int h0_faultPlace, .int h0_size, .int h0_at, .int h0_from, .int h0_wrong, .int h0_wrongAt, .ref h0_ownLetters, .ref h0_flats, .int 1, .ref h0_corner, .ref h0_wayX, .ref h0_wayY, .ref h0_normal, .ref h0_low, .ref h0_high, .ref h0_clear, .ref h0_ways, .ref h0_canBe, .ref h0_lain, .int h0_canTool, .ref h0_fewestBy, .ref h0_sortOf, .int h0_rows, .ref h0_seenFlange, .ref h0_seenLength])), (h0_flats, .inl (g.2.1.1, 72, .inl f12)), (h0_told, .inl (g.2.1.1, 103, .inl f_h0_told)), (h0_now, .inl (g.2.1.1, 21, .inl f_h0_now))] := hD
    refine lv_iconst (v := 1) hx hb dX9_laysFlat_51 (by decide) ?_
    refine lv_istore_n (lv' := [(1, .int 1), (0, .ref h0)]) hx hb dX9_laysFlat_52 rfl hl (by decide) rfl (fun ls hl => ?_)
    have L223 : ∀ (n : Nat) (v195 : Int32) (fn196 : Nat → Int32) (H : Heap) (locs : List Loc) (ls : Array Slot), 1 ≤ v195.toInt ∧ v195.toInt ≤ 9 → (10 - v195.toInt).toNat < n → va_P g.1 vwCl [(h0, .inr (9, [.ref h0_told, .ref h0_read, .ref h0_now, .ref h0_readNow, .ref h0_kept, .int h0_undone, .int h0_seed, .int h0_hasPart, .ref h0_tape, .int h0_taped, .ref h0_refused, .int h0_faultKind, .int h0_faultPlace, .int h0_size, .int h0_at, .int h0_from, .int h0_wrong, .int h0_wrongAt, .ref h0_ownLetters, .ref h0_flats, .int 1, .ref h0_corner, .ref h0_wayX, .ref h0_wayY, .ref h0_normal, .ref h0_low, .ref h0_high, .ref h0_clear, .ref h0_ways, .ref h0_canBe, .ref h0_lain, .int h0_canTool, .ref h0_fewestBy, .ref h0_sortOf, .int h0_rows, .ref h0_seenFlange, .ref h0_seenLength])), (h0_flats, .inl (g.2.1.1, 72, .inl fn196)), (h0_told, .inl (g.2.1.1, 103, .inl f_h0_told)), (h0_now, .inl (g.2.1.1, 21, .inl f_h0_now))] H → va_D A [(h0, .inr (9, [.ref h0_told, .ref h0_read, .ref h0_now, .ref h0_readNow, .ref h0_kept, .int h0_undone, .int h0_seed, .int h0_hasPart, .ref h0_tape, .int h0_taped, .ref h0_refused, .int h0_faultKind, .int h0_faultPlace, .int h0_size, .int h0_at, .int h0_from, .int h0_wrong, .int h0_wrongAt, .ref h0_ownLetters, .ref h0_flats, .int 1, .ref h0_corner, .ref h0_wayX, .ref h0_wayY, .ref h0_normal, .ref h0_low, .ref h0_high, .ref h0_clear, .ref h0_ways, .ref h0_canBe, .ref h0_lain, .int h0_canTool, .ref h0_fewestBy, .ref h0_sortOf, .int h0_rows, .ref h0_seenFlange, .ref h0_seenLength])), (h0_flats, .inl (g.2.1.1, 72, .inl fn196)), (h0_told, .inl (g.2.1.1, 103, .inl f_h0_told)), (h0_now, .inl (g.2.1.1, 21, .inl f_h0_now))] → va_S A s.heap H locs → lv_has ls 3 [(0, .ref h0), (1, .int v195)] → W p l e rm_kX9_laysFlat s m args below meth c H locs 0 0 Q (F0 m 53 ls []) := by
      intro n224
      induction n224 with
      | zero => intro v195 fn196 H locs ls i226 hm227; exact absurd hm227 (Nat.not_lt_zero _)
      | succ n224 ih225 =>
        intro v195 fn196 H locs ls i226 hm227 hP hD hS hl
        refine lv_iload_n hx hb dX9_laysFlat_53 rfl (lv_at hl 1 rfl) ?_
        refine lv_aload_n hx hb dX9_laysFlat_54 rfl (lv_at hl 0 rfl) ?_
        refine va_get (D := g.1) (ci := 9) (v := .ref h0_told) (C := RX9) (T := TX9) (N := 37) hx hb hG iX9 hown hX.1 hP 0 rfl rfl 0 (by decide) (hG _ wf_X9_7) (fun _ h9 => h9) rfl dX9_laysFlat_55 ?_
        refine lv_iconst (v := 3) hx hb dX9_laysFlat_58 (by decide) ?_
        refine va_iald hx hb hX.1 hP 2 0 rfl rfl (zin (show (3 : Int32).toInt = (3 : Int) from by decide) ((show 0 ≤ (3 : Int) ∧ (3 : Int) < 103 from by decide))) dX9_laysFlat_59 ?_
        refine zt (z := h0_told_3) (cEq.at hy14 (by decide)) ?_
        refine lv_icmp_ge (tgt := 110) hx hb dX9_laysFlat_60 (by decide) (fun c228 => ?_) (fun c228 => ?_)
        · skip
          have c228i : h0_told_3.toInt ≤ v195.toInt := (zc_le (rfl : h0_told_3.toInt = _) (rfl : v195.toInt = _)).mp c228
          exact hret ((1 : Int32), fn196) (Nat.le_of_ble_eq_true rfl) (Nat.le_of_ble_eq_true rfl) ((show 1 ≤ (1 : Int) ∧ (1 : Int) ≤ 1 from by decide)) hP hD hS dX9_laysFlat_110
        · skip
          have c228i : ¬ (h0_told_3.toInt ≤ v195.toInt) := fun q => c228 ((zc_le (rfl : h0_told_3.toInt = _) (rfl : v195.toInt = _)).mpr q)
          refine lv_aload_n hx hb dX9_laysFlat_63 rfl (lv_at hl 0 rfl) ?_
          refine lv_aload_n hx hb dX9_laysFlat_64 rfl (lv_at hl 0 rfl) ?_
          refine va_get (D := g.1) (ci := 9) (v := .ref h0_told) (C := RX9) (T := TX9) (N := 37) hx hb hG iX9 hown hX.1 hP 0 rfl rfl 0 (by decide) (hG _ wf_X9_7) (fun _ h9 => h9) rfl dX9_laysFlat_65 ?_
          refine lv_bipush (v := 58) hx hb dX9_laysFlat_68 (by decide) ?_
          refine lv_iload_n hx hb dX9_laysFlat_70 rfl (lv_at hl 1 rfl) ?_
          refine lv_iadd hx hb dX9_laysFlat_71 ?_
          refine lv_topi (fun z229 e230 => ?_)
          have f231 : z229.toInt = (58 : Int) + v195.toInt := za e230 (show (58 : Int32).toInt = (58 : Int) from by decide) (rfl : v195.toInt = _) (om_428 c228i hy13 i226)
          refine va_iald hx hb hX.1 hP 2 0 rfl rfl (zin (rfl : z229.toInt = _) (om_429 c228i f231 hy13 i226)) dX9_laysFlat_72 ?_
          refine lv_topi (fun z232 e233 => ?_)
          have f234 : 0 ≤ z232.toInt ∧ z232.toInt ≤ 9 := ((hy12.at e233 (rfl : z229.toInt = _) (om_430 f231 i226)).2.2.2.2.1).resolve_left (fun q9 => q9 (om_431 c228i f231 hy13 i226))
          refine zfi (wr := [(h0_flats, .inl (g.2.1.1, 72, .inl fn196))]) (va_runV (As := [.int z232]) (rest := []) ⟨hx, hb, hml, hown, hG⟩ (kX9_allowanceOf l g h0 z232 h0_told h0_read h0_now h0_readNow h0_kept h0_undone h0_seed h0_hasPart h0_tape h0_taped h0_refused h0_faultKind h0_faultPlace h0_size h0_at h0_from h0_wrong h0_wrongAt h0_ownLetters h0_flats (1 : Int32) h0_corner h0_wayX h0_wayY h0_normal h0_low h0_high h0_clear h0_ways h0_canBe h0_lain h0_canTool h0_fewestBy h0_sortOf h0_rows h0_seenFlange h0_seenLength f_h0_now h0_now_0 f_h0_told h0_told_3 h0_told_4 (om_155 f234) (om_27 hy0) (om_28 hy1) (om_29 hy2) (om_32 hy3) (om_31 hy4) (om_32 hy5) (om_32 hy6) (om_32 hy7) (om_31 hy8) ((show 0 ≤ (1 : Int) ∧ (1 : Int) ≤ 1 from by decide)) (om_13 hy10) (om_33 hy11) hy17 (om_13 hy18) hy19 hy12 (om_432 c228i hy13 i226) hy14 (om_33 hy15) hy16 (om_433 c228i hy2 hy20 i226) _) ⟨callB_of 1 hG (zGood wc_X9_allowanceOf) rfl rfl rfl (hG _ wini_X9) (hG _ wm_X9_232) hX9_allowanceOf ⟨Nat.le_of_ble_eq_true rfl, Nat.le_of_ble_eq_true rfl⟩, hG _ wi_X9_allowanceOf, hG _ wse_X9_X9_allowanceOf⟩ (zpreV (va_recv hX.1 hP (ci := 9) (q0 := 0) rfl rfl) hX hP hD hS hA [0, 3, 2] rfl (by decide)) rfl rfl hl.1 rfl (lv_room (Nat.le_of_ble_eq_true rfl)) dX9_laysFlat_73 ⟨Nat.le_of_ble_eq_true rfl, Nat.le_of_ble_eq_true rfl⟩) hP hD hS hA [0, 3, 2] [1] rfl rfl (by decide) (by decide) (fun r235 _ H locs hp hP hD hS => ?_)
          refine W.cs (cells' := 0) (slots' := 0) rfl rfl ?_
          have hP : va_P g.1 vwCl [(h0_flats, .inl (g.2.1.1, 72, .inl fn196)), (h0, .inr (9, [.ref h0_told, .ref h0_read, .ref h0_now, .ref h0_readNow, .ref h0_kept, .int h0_undone, .int h0_seed, .int h0_hasPart, .ref h0_tape, .int h0_taped, .ref h0_refused, .int h0_faultKind, .int h0_faultPlace, .int h0_size, .int h0_at, .int h0_from, .int h0_wrong, .int h0_wrongAt, .ref h0_ownLetters, .ref h0_flats, .int 1, .ref h0_corner, .ref h0_wayX, .ref h0_wayY, .ref h0_normal, .ref h0_low, .ref h0_high, .ref h0_clear, .ref h0_ways, .ref h0_canBe, .ref h0_lain, .int h0_canTool, .ref h0_fewestBy, .ref h0_sortOf, .int h0_rows, .ref h0_seenFlange, .ref h0_seenLength])), (h0_now, .inl (g.2.1.1, 21, .inl f_h0_now)), (h0_told, .inl (g.2.1.1, 103, .inl f_h0_told))] H := hP
          have hD : va_D A [(h0_flats, .inl (g.2.1.1, 72, .inl fn196)), (h0, .inr (9, [.ref h0_told, .ref h0_read, .ref h0_now, .ref h0_readNow, .ref h0_kept, .int h0_undone, .int h0_seed, .int h0_hasPart, .ref h0_tape, .int h0_taped, .ref h0_refused, .int h0_faultKind, .int h0_faultPlace, .int h0_size, .int h0_at, .int h0_from, .int h0_wrong, .int h0_wrongAt, .ref h0_ownLetters, .ref h0_flats, .int 1, .ref h0_corner, .ref h0_wayX, .ref h0_wayY, .ref h0_normal, .ref h0_low, .ref h0_high, .ref h0_clear, .ref h0_ways, .ref h0_canBe, .ref h0_lain, .int h0_canTool, .ref h0_fewestBy, .ref h0_sortOf, .int h0_rows, .ref h0_seenFlange, .ref h0_seenLength])), (h0_now, .inl (g.2.1.1, 21, .inl f_h0_now)), (h0_told, .inl (g.2.1.1, 103, .inl f_h0_told))] := hD
          refine lv_istore_n (lv' := [(2, .int r235), (0, .ref h0), (1, .int v195)]) hx hb dX9_laysFlat_76 rfl hl (by decide) rfl (fun ls hl => ?_)
          refine lv_aload_n hx hb dX9_laysFlat_77 rfl (lv_at hl 1 rfl) ?_
          refine lv_iload_n hx hb dX9_laysFlat_78 rfl (lv_at hl 2 rfl) ?_
          refine lv_iload_n hx hb dX9_laysFlat_79 rfl (lv_at hl 2 rfl) ?_
          refine lv_iload_n hx hb dX9_laysFlat_80 rfl (lv_at hl 0 rfl) ?_
          refine lv_aload_n hx hb dX9_laysFlat_81 rfl (lv_at hl 1 rfl) ?_
          refine va_get (D := g.1) (ci := 9) (v := .ref h0_told) (C := RX9) (T := TX9) (N := 37) hx hb hG iX9 hown hX.1 hP 1 rfl rfl 0 (by decide) (hG _ wf_X9_7) (fun _ h9 => h9) rfl dX9_laysFlat_82 ?_
          refine lv_bipush (v := 49) hx hb dX9_laysFlat_85 (by decide) ?_
          refine lv_iload_n hx hb dX9_laysFlat_87 rfl (lv_at hl 2 rfl) ?_
          refine lv_iadd hx hb dX9_laysFlat_88 ?_
          refine lv_topi (fun z236 e237 => ?_)
          have f238 : z236.toInt = (49 : Int) + v195.toInt := za e237 (show (49 : Int32).toInt = (49 : Int) from by decide) (rfl : v195.toInt = _) (om_434 c228i hy13 i226)
          refine va_iald hx hb hX.1 hP 3 0 rfl rfl (zin (rfl : z236.toInt = _) (om_435 c228i f238 hy13 i226)) dX9_laysFlat_89 ?_
          refine lv_topi (fun z239 e240 => ?_)
          refine zfv (wr := [(h0_now, .inl (g.2.1.1, 21, .inl f_h0_now))]) (va_runV (As := [.int v195, .int v195, .int r235, .int z239]) (rest := []) ⟨hx, hb, hml, hown, hG⟩ (kX9_laysBehind l g h0 v195 v195 r235 z239 h0_told h0_read h0_now h0_readNow h0_kept h0_undone h0_seed h0_hasPart h0_tape h0_taped h0_refused h0_faultKind h0_faultPlace h0_size h0_at h0_from h0_wrong h0_wrongAt h0_ownLetters h0_flats (1 : Int32) h0_corner h0_wayX h0_wayY h0_normal h0_low h0_high h0_clear h0_ways h0_canBe h0_lain h0_canTool h0_fewestBy h0_sortOf h0_rows h0_seenFlange h0_seenLength f_h0_told h0_told_3 h0_told_4 fn196 (om_437 c228i hy13 i226) (om_438 c228i hy13 i226) (om_27 hy0) (om_28 hy1) (om_29 hy2) (om_32 hy3) (om_31 hy4) (om_32 hy5) (om_32 hy6) (om_32 hy7) (om_31 hy8) ((show 0 ≤ (1 : Int) ∧ (1 : Int) ≤ 1 from by decide)) (om_13 hy10) (om_33 hy11) hy12 (om_432 c228i hy13 i226) hy14 (om_33 hy15) hy16 (om_433 c228i hy2 hy20 i226) _) ⟨callB_of 4 hG (zGood wc_X9_laysBehind) rfl rfl rfl (hG _ wini_X9) (hG _ wm_X9_247) hX9_laysBehind ⟨Nat.le_of_ble_eq_true rfl, Nat.le_of_ble_eq_true rfl⟩, hG _ wi_X9_laysBehind, hG _ wse_X9_X9_laysBehind⟩ (zpreV (va_recv hX.1 hP (ci := 9) (q0 := 1) rfl rfl) hX hP hD hS hA [1, 3, 0] rfl (by decide)) rfl rfl hl.1 rfl (lv_room (Nat.le_of_ble_eq_true rfl)) dX9_laysFlat_90 ⟨Nat.le_of_ble_eq_true rfl, Nat.le_of_ble_eq_true rfl⟩) hP hD hS hA [1, 3, 0] [2] rfl rfl (by decide) (by decide) (fun u242 H locs hp hP hD hS => ?_)
          refine W.cs (cells' := 0) (slots' := 0) rfl rfl ?_
          obtain ⟨f243, rfl⟩ : ∃ z9, z9 = u242 := ⟨_, rfl⟩
          have hP : va_P g.1 vwCl [(h0_now, .inl (g.2.1.1, 21, .inl f_h0_now)), (h0, .inr (9, [.ref h0_told, .ref h0_read, .ref h0_now, .ref h0_readNow, .ref h0_kept, .int h0_undone, .int h0_seed, .int h0_hasPart, .ref h0_tape, .int h0_taped, .ref h0_refused, .int h0_faultKind, .int h0_faultPlace, .int h0_size, .int h0_at, .int h0_from, .int h0_wrong, .int h0_wrongAt, .ref h0_ownLetters, .ref h0_flats, .int 1, .ref h0_corner, .ref h0_wayX, .ref h0_wayY, .ref h0_normal, .ref h0_low, .ref h0_high, .ref h0_clear, .ref h0_ways, .ref h0_canBe, .ref h0_lain, .int h0_canTool, .ref h0_fewestBy, .ref h0_sortOf, .int h0_rows, .ref h0_seenFlange, .ref h0_seenLength])), (h0_told, .inl (g.2.1.1, 103, .inl f_h0_told)), (h0_flats, .inl (g.2.1.1, 72, .inl f243))] H := hP
          have hD : va_D A [(h0_now, .inl (g.2.1.1, 21, .inl f_h0_now)), (h0, .inr (9, [.ref h0_told, .ref h0_read, .ref h0_now, .ref h0_readNow, .ref h0_kept, .int h0_undone, .int h0_seed, .int h0_hasPart, .ref h0_tape, .int h0_taped, .ref h0_refused, .int h0_faultKind, .int h0_faultPlace, .int h0_size, .int h0_at, .int h0_from, .int h0_wrong, .int h0_wrongAt, .ref h0_ownLetters, .ref h0_flats, .int 1, .ref h0_corner, .ref h0_wayX, .ref h0_wayY, .ref h0_normal, .ref h0_low, .ref h0_high, .ref h0_clear, .ref h0_ways, .ref h0_canBe, .ref h0_lain, .int h0_canTool, .ref h0_fewestBy, .ref h0_sortOf, .int h0_rows, .ref h0_seenFlange, .ref h0_seenLength])), (h0_told, .inl (g.2.1.1, 103, .inl f_h0_told)), (h0_flats, .inl (g.2.1.1, 72, .inl f243))] := hD
          refine lv_aload_n hx hb dX9_laysFlat_93 rfl (lv_at hl 1 rfl) ?_
          refine lv_bipush (v := 8) hx hb dX9_laysFlat_94 (by decide) ?_
          refine lv_iload_n hx hb dX9_laysFlat_96 rfl (lv_at hl 2 rfl) ?_
          refine lv_iadd hx hb dX9_laysFlat_97 ?_
          refine lv_topi (fun z244 e245 => ?_)
          have f246 : z244.toInt = (8 : Int) + v195.toInt := za e245 (show (8 : Int32).toInt = (8 : Int) from by decide) (rfl : v195.toInt = _) (om_439 c228i hy13 i226)
          refine lv_iload_n hx hb dX9_laysFlat_98 rfl (lv_at hl 2 rfl) ?_
          refine lv_iconst (v := 0) hx hb dX9_laysFlat_99 (by decide) ?_
          refine lv_iload_n hx hb dX9_laysFlat_100 rfl (lv_at hl 0 rfl) ?_
          refine zfv (wr := [(h0_now, .inl (g.2.1.1, 21, .inl f_h0_now))]) (va_runV (As := [.int z244, .int v195, .int 0, .int r235]) (rest := []) ⟨hx, hb, hml, hown, hG⟩ (kX9_laysBehind l g h0 z244 v195 (0 : Int32) r235 h0_told h0_read h0_now h0_readNow h0_kept h0_undone h0_seed h0_hasPart h0_tape h0_taped h0_refused h0_faultKind h0_faultPlace h0_size h0_at h0_from h0_wrong h0_wrongAt h0_ownLetters h0_flats (1 : Int32) h0_corner h0_wayX h0_wayY h0_normal h0_low h0_high h0_clear h0_ways h0_canBe h0_lain h0_canTool h0_fewestBy h0_sortOf h0_rows h0_seenFlange h0_seenLength f_h0_told h0_told_3 h0_told_4 f243 (om_440 c228i f246 hy13 i226) (om_438 c228i hy13 i226) (om_27 hy0) (om_28 hy1) (om_29 hy2) (om_32 hy3) (om_31 hy4) (om_32 hy5) (om_32 hy6) (om_32 hy7) (om_31 hy8) ((show 0 ≤ (1 : Int) ∧ (1 : Int) ≤ 1 from by decide)) (om_13 hy10) (om_33 hy11) hy12 (om_432 c228i hy13 i226) hy14 (om_33 hy15) hy16 (om_433 c228i hy2 hy20 i226) _) ⟨callB_of 4 hG (zGood wc_X9_laysBehind) rfl rfl rfl (hG _ wini_X9) (hG _ wm_X9_247) hX9_laysBehind ⟨Nat.le_of_ble_eq_true rfl, Nat.le_of_ble_eq_true rfl⟩, hG _ wi_X9_laysBehind, hG _ wse_X9_X9_laysBehind⟩ (zpreV (va_recv hX.1 hP (ci := 9) (q0 := 1) rfl rfl) hX hP hD hS hA [1, 2, 3] rfl (by decide)) rfl rfl hl.1 rfl (lv_room (Nat.le_of_ble_eq_true rfl)) dX9_laysFlat_101 ⟨Nat.le_of_ble_eq_true rfl, Nat.le_of_ble_eq_true rfl⟩) hP hD hS hA [1, 2, 3] [0] rfl rfl (by decide) (by decide) (fun u248 H locs hp hP hD hS => ?_)
          refine W.cs (cells' := 0) (slots' := 0) rfl rfl ?_
          obtain ⟨f249, rfl⟩ : ∃ z9, z9 = u248 := ⟨_, rfl⟩
          have hP : va_P g.1 vwCl [(h0_now, .inl (g.2.1.1, 21, .inl f_h0_now)), (h0, .inr (9, [.ref h0_told, .ref h0_read, .ref h0_now, .ref h0_readNow, .ref h0_kept, .int h0_undone, .int h0_seed, .int h0_hasPart, .ref h0_tape, .int h0_taped, .ref h0_refused, .int h0_faultKind, .int h0_faultPlace, .int h0_size, .int h0_at, .int h0_from, .int h0_wrong, .int h0_wrongAt, .ref h0_ownLetters, .ref h0_flats, .int 1, .ref h0_corner, .ref h0_wayX, .ref h0_wayY, .ref h0_normal, .ref h0_low, .ref h0_high, .ref h0_clear, .ref h0_ways, .ref h0_canBe, .ref h0_lain, .int h0_canTool, .ref h0_fewestBy, .ref h0_sortOf, .int h0_rows, .ref h0_seenFlange, .ref h0_seenLength])), (h0_told, .inl (g.2.1.1, 103, .inl f_h0_told)), (h0_flats, .inl (g.2.1.1, 72, .inl f249))] H := hP
          have hD : va_D A [(h0_now, .inl (g.2.1.1, 21, .inl f_h0_now)), (h0, .inr (9, [.ref h0_told, .ref h0_read, .ref h0_now, .ref h0_readNow, .ref h0_kept, .int h0_undone, .int h0_seed, .int h0_hasPart, .ref h0_tape, .int h0_taped, .ref h0_refused, .int h0_faultKind, .int h0_faultPlace, .int h0_size, .int h0_at, .int h0_from, .int h0_wrong, .int h0_wrongAt, .ref h0_ownLetters, .ref h0_flats, .int 1, .ref h0_corner, .ref h0_wayX, .ref h0_wayY, .ref h0_normal, .ref h0_low, .ref h0_high, .ref h0_clear, .ref h0_ways, .ref h0_canBe, .ref h0_lain, .int h0_canTool, .ref h0_fewestBy, .ref h0_sortOf, .int h0_rows, .ref h0_seenFlange, .ref h0_seenLength])), (h0_told, .inl (g.2.1.1, 103, .inl f_h0_told)), (h0_flats, .inl (g.2.1.1, 72, .inl f249))] := hD
          obtain ⟨z250, e251⟩ : ∃ y9 : Int32, y9 = v195 + 1 := ⟨_, rfl⟩
          have f252 : z250.toInt = v195.toInt + 1 := za e251 (rfl : v195.toInt = _) (show (1 : Int32).toInt = (1 : Int) from by decide) (om_130 c228i hy13 i226)
          refine lv_iinc (v := z250) (lv' := [(1, .int z250), (2, .int r235), (0, .ref h0)]) hx hb dX9_laysFlat_104 hl (k := 2) rfl (by rw [e251]; rfl) (by decide) rfl (fun ls hl => ?_)
          refine lv_goto (tgt := 53) hx hb dX9_laysFlat_107 (by decide) ?_
          exact ih225 z250 f249 H locs ls (om_131 c228i f252 hy13 i226) (zdec hm227 (om_132 c228i f252 hy13)) (hP.sub [1, 3, 2, 0] rfl) (hD.sub [1, 3, 2, 0] (by decide) rfl) hS (lv_sub hl [2, 0] rfl)
    exact L223 _ (1 : Int32) f12 H locs ls ((show 1 ≤ (1 : Int) ∧ (1 : Int) ≤ 9 from by decide)) (Nat.lt_succ_self _) hP hD hS (lv_sub hl [1, 0] rfl)
  · skip
    have c1i : ¬ (h0_isLaid.toInt = (0 : Int)) := fun q => c1 ((zc_eq (rfl : h0_isLaid.toInt = _) (show (0 : Int32).toInt = (0 : Int) from by decide)).mpr q)
    exact hret (h0_isLaid, f_h0_flats) (Nat.le_of_ble_eq_true rfl) (Nat.le_of_ble_eq_true rfl) (om_441 c1i hy9) hP hD hS dX9_laysFlat_7
theorem dX9_isPiece_0 : decode cX9_isPiece 0 = .ok (.aload_n 0, 1) := by decide +kernel
theorem dX9_isPiece_1 : decode cX9_isPiece 1 = .ok (.iload_n 1, 1) := by decide +kernel
theorem dX9_isPiece_2 : decode cX9_isPiece 2 = .ok (.invokevirtual 229, 3) := by decide +kernel
theorem dX9_isPiece_14 : decode cX9_isPiece 14 = .ok (.aload_n 0, 1) := by decide +kernel
theorem dX9_isPiece_15 : decode cX9_isPiece 15 = .ok (.iload_n 1, 1) := by decide +kernel
theorem dX9_isPiece_16 : decode cX9_isPiece 16 = .ok (.bipush 8, 2) := by decide +kernel
theorem dX9_isPiece_18 : decode cX9_isPiece 18 = .ok (.isub, 1) := by decide +kernel
theorem dX9_isPiece_19 : decode cX9_isPiece 19 = .ok (.invokevirtual 235, 3) := by decide +kernel
theorem dX9_isPiece_22 : decode cX9_isPiece 22 = .ok (.ifCond .eq 7, 3) := by decide +kernel
theorem dX9_isPiece_29 : decode cX9_isPiece 29 = .ok (.iconst 0, 1) := by decide +kernel
theorem dX9_isPiece_30 : decode cX9_isPiece 30 = .ok (.ireturn, 1) := by decide +kernel
theorem dX9_isPiece_25 : decode cX9_isPiece 25 = .ok (.iconst 1, 1) := by decide +kernel
theorem dX9_isPiece_26 : decode cX9_isPiece 26 = .ok (.goto 4, 3) := by decide +kernel
theorem dX9_isPiece_5 : decode cX9_isPiece 5 = .ok (.ifCond .eq 9, 3) := by decide +kernel
theorem dX9_isPiece_8 : decode cX9_isPiece 8 = .ok (.iload_n 1, 1) := by decide +kernel
theorem dX9_isPiece_9 : decode cX9_isPiece 9 = .ok (.bipush 9, 2) := by decide +kernel
theorem dX9_isPiece_11 : decode cX9_isPiece 11 = .ok (.if_icmp .lt 14, 3) := by decide +kernel
abbrev rm_kX9_isPiece : Room := { frames := 2, cells := 0, slots := 0, locals := 43 }
set_option maxHeartbeats 4000000 in
set_option maxRecDepth 100000 in
theorem kX9_isPiece (l : Launch) (g : zL) (h0 : Nat) (x1 : Int32) (h0_told : Nat) (h0_read : Nat) (h0_now : Nat) (h0_readNow : Nat) (h0_kept : Nat) (h0_undone : Int32) (h0_seed : Int32) (h0_hasPart : Int32) (h0_tape : Nat) (h0_taped : Int32) (h0_refused : Nat) (h0_faultKind : Int32) (h0_faultPlace : Int32) (h0_size : Int32) (h0_at : Int32) (h0_from : Int32) (h0_wrong : Int32) (h0_wrongAt : Int32) (h0_ownLetters : Nat) (h0_flats : Nat) (h0_isLaid : Int32) (h0_corner : Nat) (h0_wayX : Nat) (h0_wayY : Nat) (h0_normal : Nat) (h0_low : Nat) (h0_high : Nat) (h0_clear : Nat) (h0_ways : Nat) (h0_canBe : Nat) (h0_lain : Nat) (h0_canTool : Int32) (h0_fewestBy : Nat) (h0_sortOf : Nat) (h0_rows : Int32) (h0_seenFlange : Nat) (h0_seenLength : Nat) (f_h0_told : Nat → Int32) (h0_told_3 : Int32) (h0_told_4 : Int32) (hy0 : 0 ≤ h0_undone.toInt ∧ h0_undone.toInt ≤ 20) (hy1 : 0 ≤ h0_seed.toInt ∧ h0_seed.toInt ≤ 2147483647) (hy2 : 0 ≤ h0_hasPart.toInt ∧ h0_hasPart.toInt ≤ 1) (hy3 : 0 ≤ h0_taped.toInt ∧ h0_taped.toInt ≤ 1200) (hy4 : 0 ≤ h0_faultKind.toInt ∧ h0_faultKind.toInt ≤ 5) (hy5 : 0 ≤ h0_size.toInt ∧ h0_size.toInt ≤ 1200) (hy6 : 0 ≤ h0_at.toInt ∧ h0_at.toInt ≤ 1200) (hy7 : 0 ≤ h0_from.toInt ∧ h0_from.toInt ≤ 1200) (hy8 : 0 ≤ h0_wrong.toInt ∧ h0_wrong.toInt ≤ 5) (hy9 : 0 ≤ h0_isLaid.toInt ∧ h0_isLaid.toInt ≤ 1) (hy10 : 0 ≤ h0_canTool.toInt ∧ h0_canTool.toInt ≤ 255) (hy11 : 0 ≤ h0_rows.toInt ∧ h0_rows.toInt ≤ 8) (hy12 : pW mB f_h0_told) (hy13 : 0 ≤ h0_told_3.toInt ∧ h0_told_3.toInt ≤ 9) (hy14 : cEq f_h0_told 3 h0_told_3) (hy15 : 0 ≤ h0_told_4.toInt ∧ h0_told_4.toInt ≤ 8) (hy16 : cEq f_h0_told 4 h0_told_4) (hy17 : ((h0_hasPart.toInt = 0 ∧ h0_told_3.toInt = 0) ∨ (h0_hasPart.toInt = 1 ∧ 1 ≤ h0_told_3.toInt))) : zCi l g yX9_isPiece cX9_isPiece 2 (some .boolean) rm_kX9_isPiece [.ref h0, .int x1] [(h0, .inr (9, [.ref h0_told, .ref h0_read, .ref h0_now, .ref h0_readNow, .ref h0_kept, .int h0_undone, .int h0_seed, .int h0_hasPart, .ref h0_tape, .int h0_taped, .ref h0_refused, .int h0_faultKind, .int h0_faultPlace, .int h0_size, .int h0_at, .int h0_from, .int h0_wrong, .int h0_wrongAt, .ref h0_ownLetters, .ref h0_flats, .int h0_isLaid, .ref h0_corner, .ref h0_wayX, .ref h0_wayY, .ref h0_normal, .ref h0_low, .ref h0_high, .ref h0_clear, .ref h0_ways, .ref h0_canBe, .ref h0_lain, .int h0_canTool, .ref h0_fewestBy, .ref h0_sortOf, .int h0_rows, .ref h0_seenFlange, .ref h0_seenLength])), (h0_told, .inl (g.2.1.1, 103, .inl f_h0_told))] (fun (r : Int32) (u : Unit) => (0 ≤ r.toInt ∧ r.toInt ≤ 1) ∧ ((r.toInt = 0 ∨ (0 ≤ x1.toInt ∧ x1.toInt ≤ 16 ∧ h0_hasPart.toInt = 1 ∧ 1 ≤ h0_told_3.toInt)))) (fun (u : Unit) => [(h0, .inr (9, [.ref h0_told, .ref h0_read, .ref h0_now, .ref h0_readNow, .ref h0_kept, .int h0_undone, .int h0_seed, .int h0_hasPart, .ref h0_tape, .int h0_taped, .ref h0_refused, .int h0_faultKind, .int h0_faultPlace, .int h0_size, .int h0_at, .int h0_from, .int h0_wrong, .int h0_wrongAt, .ref h0_ownLetters, .ref h0_flats, .int h0_isLaid, .ref h0_corner, .ref h0_wayX, .ref h0_wayY, .ref h0_normal, .ref h0_low, .ref h0_high, .ref h0_clear, .ref h0_ways, .ref h0_canBe, .ref h0_lain, .int h0_canTool, .ref h0_fewestBy, .ref h0_sortOf, .int h0_rows, .ref h0_seenFlange, .ref h0_seenLength])), (h0_told, .inl (g.2.1.1, 103, .inl f_h0_told))]) := by
  refine zCi.mk2 (by decide) (Nat.le_of_ble_eq_true rfl) ?_
  intro p e s m below meth c A args Q hE hret hP hD hS ls hl
  obtain ⟨hx, hb, hr, hml, hown, hG, hlocks, hnm, hX, hA⟩ := hE
  have hown : s.vm.findClass RX9 = some m.cls := hown
  have hl : lv_has ls 2 [(0, .ref h0), (1, .int x1)] := hl
  refine lv_aload_n hx hb dX9_isPiece_0 rfl (lv_at hl 0 rfl) ?_
  refine lv_iload_n hx hb dX9_isPiece_1 rfl (lv_at hl 1 rfl) ?_
  refine zfi (wr := []) (va_runV (As := [.int x1]) (rest := []) ⟨hx, hb, hml, hown, hG⟩ (kX9_isFlange l g h0 x1 h0_told h0_read h0_now h0_readNow h0_kept h0_undone h0_seed h0_hasPart h0_tape h0_taped h0_refused h0_faultKind h0_faultPlace h0_size h0_at h0_from h0_wrong h0_wrongAt h0_ownLetters h0_flats h0_isLaid h0_corner h0_wayX h0_wayY h0_normal h0_low h0_high h0_clear h0_ways h0_canBe h0_lain h0_canTool h0_fewestBy h0_sortOf h0_rows h0_seenFlange h0_seenLength f_h0_told h0_told_3 h0_told_4 (om_27 hy0) (om_28 hy1) (om_29 hy2) (om_32 hy3) (om_31 hy4) (om_32 hy5) (om_32 hy6) (om_32 hy7) (om_31 hy8) (om_29 hy9) (om_13 hy10) (om_33 hy11) hy12 (om_155 hy13) hy14 (om_33 hy15) hy16 (om_331 hy13 hy17 hy2) _) ⟨callB_of 1 hG (zGood wc_X9_isFlange) rfl rfl rfl (hG _ wini_X9) (hG _ wm_X9_229) hX9_isFlange ⟨Nat.le_of_ble_eq_true rfl, Nat.le_of_ble_eq_true rfl⟩, hG _ wi_X9_isFlange, hG _ wse_X9_X9_isFlange⟩ (zpreV (va_recv hX.1 hP (ci := 9) (q0 := 0) rfl rfl) hX hP hD hS hA [0, 1] rfl (by decide)) rfl rfl hl.1 rfl (lv_room (Nat.le_of_ble_eq_true rfl)) dX9_isPiece_2 ⟨Nat.le_of_ble_eq_true rfl, Nat.le_of_ble_eq_true rfl⟩) hP hD hS hA [0, 1] [] rfl rfl (by decide) (by decide) (fun r1 _ H locs hp hP hD hS => ?_)
  refine W.cs (cells' := 0) (slots' := 0) rfl rfl ?_
  obtain ⟨hq2, hq3⟩ : (0 ≤ r1.toInt ∧ r1.toInt ≤ 1) ∧ ((r1.toInt = 0 ∨ (0 ≤ x1.toInt ∧ x1.toInt ≤ 8 ∧ x1.toInt < h0_told_3.toInt ∧ h0_hasPart.toInt = 1 ∧ 1 ≤ h0_told_3.toInt))) := hp
  have hP : va_P g.1 vwCl [(h0, .inr (9, [.ref h0_told, .ref h0_read, .ref h0_now, .ref h0_readNow, .ref h0_kept, .int h0_undone, .int h0_seed, .int h0_hasPart, .ref h0_tape, .int h0_taped, .ref h0_refused, .int h0_faultKind, .int h0_faultPlace, .int h0_size, .int h0_at, .int h0_from, .int h0_wrong, .int h0_wrongAt, .ref h0_ownLetters, .ref h0_flats, .int h0_isLaid, .ref h0_corner, .ref h0_wayX, .ref h0_wayY, .ref h0_normal, .ref h0_low, .ref h0_high, .ref h0_clear, .ref h0_ways, .ref h0_canBe, .ref h0_lain, .int h0_canTool, .ref h0_fewestBy, .ref h0_sortOf, .int h0_rows, .ref h0_seenFlange, .ref h0_seenLength])), (h0_told, .inl (g.2.1.1, 103, .inl f_h0_told))] H := hP
  have hD : va_D A [(h0, .inr (9, [.ref h0_told, .ref h0_read, .ref h0_now, .ref h0_readNow, .ref h0_kept, .int h0_undone, .int h0_seed, .int h0_hasPart, .ref h0_tape, .int h0_taped, .ref h0_refused, .int h0_faultKind, .int h0_faultPlace, .int h0_size, .int h0_at, .int h0_from, .int h0_wrong, .int h0_wrongAt, .ref h0_ownLetters, .ref h0_flats, .int h0_isLaid, .ref h0_corner, .ref h0_wayX, .ref h0_wayY, .ref h0_normal, .ref h0_low, .ref h0_high, .ref h0_clear, .ref h0_ways, .ref h0_canBe, .ref h0_lain, .int h0_canTool, .ref h0_fewestBy, .ref h0_sortOf, .int h0_rows, .ref h0_seenFlange, .ref h0_seenLength])), (h0_told, .inl (g.2.1.1, 103, .inl f_h0_told))] := hD
  have J6 : ∀  (H : Heap) (locs : List Loc) (ls : Array Slot), va_P g.1 vwCl [(h0, .inr (9, [.ref h0_told, .ref h0_read, .ref h0_now, .ref h0_readNow, .ref h0_kept, .int h0_undone, .int h0_seed, .int h0_hasPart, .ref h0_tape, .int h0_taped, .ref h0_refused, .int h0_faultKind, .int h0_faultPlace, .int h0_size, .int h0_at, .int h0_from, .int h0_wrong, .int h0_wrongAt, .ref h0_ownLetters, .ref h0_flats, .int h0_isLaid, .ref h0_corner, .ref h0_wayX, .ref h0_wayY, .ref h0_normal, .ref h0_low, .ref h0_high, .ref h0_clear, .ref h0_ways, .ref h0_canBe, .ref h0_lain, .int h0_canTool, .ref h0_fewestBy, .ref h0_sortOf, .int h0_rows, .ref h0_seenFlange, .ref h0_seenLength])), (h0_told, .inl (g.2.1.1, 103, .inl f_h0_told))] H → va_D A [(h0, .inr (9, [.ref h0_told, .ref h0_read, .ref h0_now, .ref h0_readNow, .ref h0_kept, .int h0_undone, .int h0_seed, .int h0_hasPart, .ref h0_tape, .int h0_taped, .ref h0_refused, .int h0_faultKind, .int h0_faultPlace, .int h0_size, .int h0_at, .int h0_from, .int h0_wrong, .int h0_wrongAt, .ref h0_ownLetters, .ref h0_flats, .int h0_isLaid, .ref h0_corner, .ref h0_wayX, .ref h0_wayY, .ref h0_normal, .ref h0_low, .ref h0_high, .ref h0_clear, .ref h0_ways, .ref h0_canBe, .ref h0_lain, .int h0_canTool, .ref h0_fewestBy, .ref h0_sortOf, .int h0_rows, .ref h0_seenFlange, .ref h0_seenLength])), (h0_told, .inl (g.2.1.1, 103, .inl f_h0_told))] → va_S A s.heap H locs → lv_has ls 2 [(0, .ref h0), (1, .int x1)] → W p l e rm_kX9_isPiece s m args below meth c H locs 0 0 Q (F0 m 14 ls []) := by
    intro  H locs ls  hP hD hS hl
    refine lv_aload_n hx hb dX9_isPiece_14 rfl (lv_at hl 0 rfl) ?_
    refine lv_iload_n hx hb dX9_isPiece_15 rfl (lv_at hl 1 rfl) ?_
    refine lv_bipush (v := 8) hx hb dX9_isPiece_16 (by decide) ?_
    refine lv_isub hx hb dX9_isPiece_18 ?_
    refine lv_topi (fun z7 e8 => ?_)
    have f9 : (z7.toInt = x1.toInt - (8 : Int) ∨ z7.toInt = x1.toInt - (8 : Int) + 4294967296) := zs_w e8 (rfl : x1.toInt = _) (show (8 : Int32).toInt = (8 : Int) from by decide) (by decide)
    refine zfi (wr := []) (va_runV (As := [.int z7]) (rest := []) ⟨hx, hb, hml, hown, hG⟩ (kX9_isBend l g h0 z7 h0_told h0_read h0_now h0_readNow h0_kept h0_undone h0_seed h0_hasPart h0_tape h0_taped h0_refused h0_faultKind h0_faultPlace h0_size h0_at h0_from h0_wrong h0_wrongAt h0_ownLetters h0_flats h0_isLaid h0_corner h0_wayX h0_wayY h0_normal h0_low h0_high h0_clear h0_ways h0_canBe h0_lain h0_canTool h0_fewestBy h0_sortOf h0_rows h0_seenFlange h0_seenLength f_h0_told h0_told_3 h0_told_4 (om_27 hy0) (om_28 hy1) (om_29 hy2) (om_32 hy3) (om_31 hy4) (om_32 hy5) (om_32 hy6) (om_32 hy7) (om_31 hy8) (om_29 hy9) (om_13 hy10) (om_33 hy11) hy12 (om_155 hy13) hy14 (om_33 hy15) hy16 (om_331 hy13 hy17 hy2) _) ⟨callB_of 1 hG (zGood wc_X9_isBend) rfl rfl rfl (hG _ wini_X9) (hG _ wm_X9_235) hX9_isBend ⟨Nat.le_of_ble_eq_true rfl, Nat.le_of_ble_eq_true rfl⟩, hG _ wi_X9_isBend, hG _ wse_X9_X9_isBend⟩ (zpreV (va_recv hX.1 hP (ci := 9) (q0 := 0) rfl rfl) hX hP hD hS hA [0, 1] rfl (by decide)) rfl rfl hl.1 rfl (lv_room (Nat.le_of_ble_eq_true rfl)) dX9_isPiece_19 ⟨Nat.le_of_ble_eq_true rfl, Nat.le_of_ble_eq_true rfl⟩) hP hD hS hA [0, 1] [] rfl rfl (by decide) (by decide) (fun r10 _ H locs hp hP hD hS => ?_)
    refine W.cs (cells' := 0) (slots' := 0) rfl rfl ?_
    obtain ⟨hq11, hq12⟩ : (0 ≤ r10.toInt ∧ r10.toInt ≤ 1) ∧ ((r10.toInt = 0 ∨ (1 ≤ z7.toInt ∧ z7.toInt ≤ 8 ∧ z7.toInt < h0_told_3.toInt ∧ h0_hasPart.toInt = 1 ∧ 2 ≤ h0_told_3.toInt))) := hp
    have hP : va_P g.1 vwCl [(h0, .inr (9, [.ref h0_told, .ref h0_read, .ref h0_now, .ref h0_readNow, .ref h0_kept, .int h0_undone, .int h0_seed, .int h0_hasPart, .ref h0_tape, .int h0_taped, .ref h0_refused, .int h0_faultKind, .int h0_faultPlace, .int h0_size, .int h0_at, .int h0_from, .int h0_wrong, .int h0_wrongAt, .ref h0_ownLetters, .ref h0_flats, .int h0_isLaid, .ref h0_corner, .ref h0_wayX, .ref h0_wayY, .ref h0_normal, .ref h0_low, .ref h0_high, .ref h0_clear, .ref h0_ways, .ref h0_canBe, .ref h0_lain, .int h0_canTool, .ref h0_fewestBy, .ref h0_sortOf, .int h0_rows, .ref h0_seenFlange, .ref h0_seenLength])), (h0_told, .inl (g.2.1.1, 103, .inl f_h0_told))] H := hP
    have hD : va_D A [(h0, .inr (9, [.ref h0_told, .ref h0_read, .ref h0_now, .ref h0_readNow, .ref h0_kept, .int h0_undone, .int h0_seed, .int h0_hasPart, .ref h0_tape, .int h0_taped, .ref h0_refused, .int h0_faultKind, .int h0_faultPlace, .int h0_size, .int h0_at, .int h0_from, .int h0_wrong, .int h0_wrongAt, .ref h0_ownLetters, .ref h0_flats, .int h0_isLaid, .ref h0_corner, .ref h0_wayX, .ref h0_wayY, .ref h0_normal, .ref h0_low, .ref h0_high, .ref h0_clear, .ref h0_ways, .ref h0_canBe, .ref h0_lain, .int h0_canTool, .ref h0_fewestBy, .ref h0_sortOf, .int h0_rows, .ref h0_seenFlange, .ref h0_seenLength])), (h0_told, .inl (g.2.1.1, 103, .inl f_h0_told))] := hD
    refine lv_if_eq (tgt := 29) hx hb dX9_isPiece_22 (by decide) (fun c13 => ?_) (fun c13 => ?_)
    · skip
      have c13i : r10.toInt = (0 : Int) := (zc_eq (rfl : r10.toInt = _) (show (0 : Int32).toInt = (0 : Int) from by decide)).mp c13
      refine lv_iconst (v := 0) hx hb dX9_isPiece_29 (by decide) ?_
      exact hret (0 : Int32) () (Nat.le_of_ble_eq_true rfl) (Nat.le_of_ble_eq_true rfl) rfl ⟨(show 0 ≤ (0 : Int) ∧ (0 : Int) ≤ 1 from by decide), om_442⟩ hP hD hS dX9_isPiece_30
    · skip
      have c13i : ¬ (r10.toInt = (0 : Int)) := fun q => c13 ((zc_eq (rfl : r10.toInt = _) (show (0 : Int32).toInt = (0 : Int) from by decide)).mpr q)
      refine lv_iconst (v := 1) hx hb dX9_isPiece_25 (by decide) ?_
      refine lv_goto (tgt := 30) hx hb dX9_isPiece_26 (by decide) ?_
      exact hret (1 : Int32) () (Nat.le_of_ble_eq_true rfl) (Nat.le_of_ble_eq_true rfl) rfl ⟨(show 0 ≤ (1 : Int) ∧ (1 : Int) ≤ 1 from by decide), om_443 (zr x1) c13i f9 hq11 hq12 hy2⟩ hP hD hS dX9_isPiece_30
  refine lv_if_eq (tgt := 14) hx hb dX9_isPiece_5 (by decide) (fun c14 => ?_) (fun c14 => ?_)
  · skip
    have c14i : r1.toInt = (0 : Int) := (zc_eq (rfl : r1.toInt = _) (show (0 : Int32).toInt = (0 : Int) from by decide)).mp c14
    exact J6 H locs ls  hP hD hS (lv_sub hl [0, 1] rfl)
  · skip
    have c14i : ¬ (r1.toInt = (0 : Int)) := fun q => c14 ((zc_eq (rfl : r1.toInt = _) (show (0 : Int32).toInt = (0 : Int) from by decide)).mpr q)
    refine lv_iload_n hx hb dX9_isPiece_8 rfl (lv_at hl 1 rfl) ?_
    refine lv_bipush (v := 9) hx hb dX9_isPiece_9 (by decide) ?_
    refine lv_icmp_lt (tgt := 25) hx hb dX9_isPiece_11 (by decide) (fun c15 => ?_) (fun c15 => (c15 ((zc_lt (rfl : x1.toInt = _) (show (9 : Int32).toInt = (9 : Int) from by decide)).mpr (om_444 c14i hq2 hq3))).elim)
    refine lv_iconst (v := 1) hx hb dX9_isPiece_25 (by decide) ?_
    refine lv_goto (tgt := 30) hx hb dX9_isPiece_26 (by decide) ?_
    exact hret (1 : Int32) () (Nat.le_of_ble_eq_true rfl) (Nat.le_of_ble_eq_true rfl) rfl ⟨(show 0 ≤ (1 : Int) ∧ (1 : Int) ≤ 1 from by decide), om_445 c14i hq2 hq3 hy2⟩ hP hD hS dX9_isPiece_30
theorem dX9_flat_0 : decode cX9_flat 0 = .ok (.aload_n 0, 1) := by decide +kernel
theorem dX9_flat_1 : decode cX9_flat 1 = .ok (.iload_n 1, 1) := by decide +kernel
theorem dX9_flat_2 : decode cX9_flat 2 = .ok (.invokevirtual 251, 3) := by decide +kernel
theorem dX9_flat_5 : decode cX9_flat 5 = .ok (.ifCond .eq 12, 3) := by decide +kernel
theorem dX9_flat_17 : decode cX9_flat 17 = .ok (.ldc 254, 2) := by decide +kernel
theorem dX9_flat_19 : decode cX9_flat 19 = .ok (.ireturn, 1) := by decide +kernel
theorem dX9_flat_8 : decode cX9_flat 8 = .ok (.iload_n 2, 1) := by decide +kernel
theorem dX9_flat_9 : decode cX9_flat 9 = .ok (.iconst 0, 1) := by decide +kernel
theorem dX9_flat_10 : decode cX9_flat 10 = .ok (.iconst 3, 1) := by decide +kernel
theorem dX9_flat_11 : decode cX9_flat 11 = .ok (.invokestatic 163, 3) := by decide +kernel
theorem dX9_flat_14 : decode cX9_flat 14 = .ok (.ifCond .ne 6, 3) := by decide +kernel
theorem dX9_flat_20 : decode cX9_flat 20 = .ok (.aload_n 0, 1) := by decide +kernel
theorem dX9_flat_21 : decode cX9_flat 21 = .ok (.invokevirtual 255, 3) := by decide +kernel
theorem dX9_flat_24 : decode cX9_flat 24 = .ok (.aload_n 0, 1) := by decide +kernel
theorem dX9_flat_25 : decode cX9_flat 25 = .ok (.getfield 69, 3) := by decide +kernel
theorem dX9_flat_28 : decode cX9_flat 28 = .ok (.iconst 4, 1) := by decide +kernel
theorem dX9_flat_29 : decode cX9_flat 29 = .ok (.iload_n 1, 1) := by decide +kernel
theorem dX9_flat_30 : decode cX9_flat 30 = .ok (.imul, 1) := by decide +kernel
theorem dX9_flat_31 : decode cX9_flat 31 = .ok (.iload_n 2, 1) := by decide +kernel
theorem dX9_flat_32 : decode cX9_flat 32 = .ok (.iadd, 1) := by decide +kernel
theorem dX9_flat_33 : decode cX9_flat 33 = .ok (.iaload, 1) := by decide +kernel
theorem dX9_flat_34 : decode cX9_flat 34 = .ok (.ireturn, 1) := by decide +kernel
abbrev rm_kX9_flat : Room := { frames := 3, cells := 0, slots := 0, locals := 64 }
set_option maxHeartbeats 4000000 in
set_option maxRecDepth 100000 in
theorem kX9_flat (l : Launch) (g : zL) (h0 : Nat) (x1 : Int32) (x2 : Int32) (h0_told : Nat) (h0_read : Nat) (h0_now : Nat) (h0_readNow : Nat) (h0_kept : Nat) (h0_undone : Int32) (h0_seed : Int32) (h0_hasPart : Int32) (h0_tape : Nat) (h0_taped : Int32) (h0_refused : Nat) (h0_faultKind : Int32) (h0_faultPlace : Int32) (h0_size : Int32) (h0_at : Int32) (h0_from : Int32) (h0_wrong : Int32) (h0_wrongAt : Int32) (h0_ownLetters : Nat) (h0_flats : Nat) (h0_isLaid : Int32) (h0_corner : Nat) (h0_wayX : Nat) (h0_wayY : Nat) (h0_normal : Nat) (h0_low : Nat) (h0_high : Nat) (h0_clear : Nat) (h0_ways : Nat) (h0_canBe : Nat) (h0_lain : Nat) (h0_canTool : Int32) (h0_fewestBy : Nat) (h0_sortOf : Nat) (h0_rows : Int32) (h0_seenFlange : Nat) (h0_seenLength : Nat) (f_h0_told : Nat → Int32) (h0_told_3 : Int32) (h0_told_4 : Int32) (f_h0_flats : Nat → Int32) (f_h0_now : Nat → Int32) (h0_now_0 : Int32) (hy0 : 0 ≤ h0_undone.toInt ∧ h0_undone.toInt ≤ 20) (hy1 : 0 ≤ h0_seed.toInt ∧ h0_seed.toInt ≤ 2147483647) (hy2 : 0 ≤ h0_hasPart.toInt ∧ h0_hasPart.toInt ≤ 1) (hy3 : 0 ≤ h0_taped.toInt ∧ h0_taped.toInt ≤ 1200) (hy4 : 0 ≤ h0_faultKind.toInt ∧ h0_faultKind.toInt ≤ 5) (hy5 : 0 ≤ h0_size.toInt ∧ h0_size.toInt ≤ 1200) (hy6 : 0 ≤ h0_at.toInt ∧ h0_at.toInt ≤ 1200) (hy7 : 0 ≤ h0_from.toInt ∧ h0_from.toInt ≤ 1200) (hy8 : 0 ≤ h0_wrong.toInt ∧ h0_wrong.toInt ≤ 5) (hy9 : 0 ≤ h0_isLaid.toInt ∧ h0_isLaid.toInt ≤ 1) (hy10 : 0 ≤ h0_canTool.toInt ∧ h0_canTool.toInt ≤ 255) (hy11 : 0 ≤ h0_rows.toInt ∧ h0_rows.toInt ≤ 8) (hy12 : pW mB f_h0_told) (hy13 : 0 ≤ h0_told_3.toInt ∧ h0_told_3.toInt ≤ 9) (hy14 : cEq f_h0_told 3 h0_told_3) (hy15 : 0 ≤ h0_told_4.toInt ∧ h0_told_4.toInt ≤ 8) (hy16 : cEq f_h0_told 4 h0_told_4) (hy17 : pW nB f_h0_now) (hy18 : 0 ≤ h0_now_0.toInt ∧ h0_now_0.toInt ≤ 255) (hy19 : cEq f_h0_now 0 h0_now_0) (hy20 : ((h0_hasPart.toInt = 0 ∧ h0_told_3.toInt = 0) ∨ (h0_hasPart.toInt = 1 ∧ 1 ≤ h0_told_3.toInt))) : zCi l g yX9_flat cX9_flat 3 (some .int) rm_kX9_flat [.ref h0, .int x1, .int x2] [(h0, .inr (9, [.ref h0_told, .ref h0_read, .ref h0_now, .ref h0_readNow, .ref h0_kept, .int h0_undone, .int h0_seed, .int h0_hasPart, .ref h0_tape, .int h0_taped, .ref h0_refused, .int h0_faultKind, .int h0_faultPlace, .int h0_size, .int h0_at, .int h0_from, .int h0_wrong, .int h0_wrongAt, .ref h0_ownLetters, .ref h0_flats, .int h0_isLaid, .ref h0_corner, .ref h0_wayX, .ref h0_wayY, .ref h0_normal, .ref h0_low, .ref h0_high, .ref h0_clear, .ref h0_ways, .ref h0_canBe, .ref h0_lain, .int h0_canTool, .ref h0_fewestBy, .ref h0_sortOf, .int h0_rows, .ref h0_seenFlange, .ref h0_seenLength])), (h0_told, .inl (g.2.1.1, 103, .inl f_h0_told)), (h0_flats, .inl (g.2.1.1, 72, .inl f_h0_flats)), (h0_now, .inl (g.2.1.1, 21, .inl f_h0_now))] (fun (r : Int32) (u : Int32 × (Nat → Int32)) => (0 ≤ u.1.toInt ∧ u.1.toInt ≤ 1)) (fun (u : Int32 × (Nat → Int32)) => [(h0, .inr (9, [.ref h0_told, .ref h0_read, .ref h0_now, .ref h0_readNow, .ref h0_kept, .int h0_undone, .int h0_seed, .int h0_hasPart, .ref h0_tape, .int h0_taped, .ref h0_refused, .int h0_faultKind, .int h0_faultPlace, .int h0_size, .int h0_at, .int h0_from, .int h0_wrong, .int h0_wrongAt, .ref h0_ownLetters, .ref h0_flats, .int u.1, .ref h0_corner, .ref h0_wayX, .ref h0_wayY, .ref h0_normal, .ref h0_low, .ref h0_high, .ref h0_clear, .ref h0_ways, .ref h0_canBe, .ref h0_lain, .int h0_canTool, .ref h0_fewestBy, .ref h0_sortOf, .int h0_rows, .ref h0_seenFlange, .ref h0_seenLength])), (h0_told, .inl (g.2.1.1, 103, .inl f_h0_told)), (h0_flats, .inl (g.2.1.1, 72, .inl u.2)), (h0_now, .inl (g.2.1.1, 21, .inl f_h0_now))]) := by
  refine zCi.mk2 (by decide) (Nat.le_of_ble_eq_true rfl) ?_
  intro p e s m below meth c A args Q hE hret hP hD hS ls hl
  obtain ⟨hx, hb, hr, hml, hown, hG, hlocks, hnm, hX, hA⟩ := hE
  have hown : s.vm.findClass RX9 = some m.cls := hown
  have hl : lv_has ls 3 [(0, .ref h0), (1, .int x1), (2, .int x2)] := hl
  refine lv_aload_n hx hb dX9_flat_0 rfl (lv_at hl 0 rfl) ?_
  refine lv_iload_n hx hb dX9_flat_1 rfl (lv_at hl 1 rfl) ?_
  refine zfi (wr := [(h0_flats, .inl (g.2.1.1, 72, .inl f_h0_flats)), (h0_now, .inl (g.2.1.1, 21, .inl f_h0_now))]) (va_runV (As := [.int x1]) (rest := []) ⟨hx, hb, hml, hown, hG⟩ (kX9_isPiece l g h0 x1 h0_told h0_read h0_now h0_readNow h0_kept h0_undone h0_seed h0_hasPart h0_tape h0_taped h0_refused h0_faultKind h0_faultPlace h0_size h0_at h0_from h0_wrong h0_wrongAt h0_ownLetters h0_flats h0_isLaid h0_corner h0_wayX h0_wayY h0_normal h0_low h0_high h0_clear h0_ways h0_canBe h0_lain h0_canTool h0_fewestBy h0_sortOf h0_rows h0_seenFlange h0_seenLength f_h0_told h0_told_3 h0_told_4 (om_27 hy0) (om_28 hy1) (om_29 hy2) (om_32 hy3) (om_31 hy4) (om_32 hy5) (om_32 hy6) (om_32 hy7) (om_31 hy8) (om_29 hy9) (om_13 hy10) (om_33 hy11) hy12 (om_155 hy13) hy14 (om_33 hy15) hy16 (om_324 hy13 hy2 hy20) _) ⟨callB_of 1 hG (zGood wc_X9_isPiece) rfl rfl rfl (hG _ wini_X9) (hG _ wm_X9_251) hX9_isPiece ⟨Nat.le_of_ble_eq_true rfl, Nat.le_of_ble_eq_true rfl⟩, hG _ wi_X9_isPiece, hG _ wse_X9_X9_isPiece⟩ (zpreV (va_recv hX.1 hP (ci := 9) (q0 := 0) rfl rfl) hX hP hD hS hA [0, 1] rfl (by decide)) rfl rfl hl.1 rfl (lv_room (Nat.le_of_ble_eq_true rfl)) dX9_flat_2 ⟨Nat.le_of_ble_eq_true rfl, Nat.le_of_ble_eq_true rfl⟩) hP hD hS hA [0, 1] [2, 3] rfl rfl (by decide) (by decide) (fun r1 _ H locs hp hP hD hS => ?_)
  refine W.cs (cells' := 0) (slots' := 0) rfl rfl ?_
  obtain ⟨hq2, hq3⟩ : (0 ≤ r1.toInt ∧ r1.toInt ≤ 1) ∧ ((r1.toInt = 0 ∨ (0 ≤ x1.toInt ∧ x1.toInt ≤ 16 ∧ h0_hasPart.toInt = 1 ∧ 1 ≤ h0_told_3.toInt))) := hp
  have hP : va_P g.1 vwCl [(h0_flats, .inl (g.2.1.1, 72, .inl f_h0_flats)), (h0_now, .inl (g.2.1.1, 21, .inl f_h0_now)), (h0, .inr (9, [.ref h0_told, .ref h0_read, .ref h0_now, .ref h0_readNow, .ref h0_kept, .int h0_undone, .int h0_seed, .int h0_hasPart, .ref h0_tape, .int h0_taped, .ref h0_refused, .int h0_faultKind, .int h0_faultPlace, .int h0_size, .int h0_at, .int h0_from, .int h0_wrong, .int h0_wrongAt, .ref h0_ownLetters, .ref h0_flats, .int h0_isLaid, .ref h0_corner, .ref h0_wayX, .ref h0_wayY, .ref h0_normal, .ref h0_low, .ref h0_high, .ref h0_clear, .ref h0_ways, .ref h0_canBe, .ref h0_lain, .int h0_canTool, .ref h0_fewestBy, .ref h0_sortOf, .int h0_rows, .ref h0_seenFlange, .ref h0_seenLength])), (h0_told, .inl (g.2.1.1, 103, .inl f_h0_told))] H := hP
  have hD : va_D A [(h0_flats, .inl (g.2.1.1, 72, .inl f_h0_flats)), (h0_now, .inl (g.2.1.1, 21, .inl f_h0_now)), (h0, .inr (9, [.ref h0_told, .ref h0_read, .ref h0_now, .ref h0_readNow, .ref h0_kept, .int h0_undone, .int h0_seed, .int h0_hasPart, .ref h0_tape, .int h0_taped, .ref h0_refused, .int h0_faultKind, .int h0_faultPlace, .int h0_size, .int h0_at, .int h0_from, .int h0_wrong, .int h0_wrongAt, .ref h0_ownLetters, .ref h0_flats, .int h0_isLaid, .ref h0_corner, .ref h0_wayX, .ref h0_wayY, .ref h0_normal, .ref h0_low, .ref h0_high, .ref h0_clear, .ref h0_ways, .ref h0_canBe, .ref h0_lain, .int h0_canTool, .ref h0_fewestBy, .ref h0_sortOf, .int h0_rows, .ref h0_seenFlange, .ref h0_seenLength])), (h0_told, .inl (g.2.1.1, 103, .inl f_h0_told))] := hD
  refine lv_if_eq (tgt := 17) hx hb dX9_flat_5 (by decide) (fun c4 => ?_) (fun c4 => ?_)
  · skip
    have c4i : r1.toInt = (0 : Int) := (zc_eq (rfl : r1.toInt = _) (show (0 : Int32).toInt = (0 : Int) from by decide)).mp c4
    refine lv_ldc (v := (-1000000)) hx hb hown (hG _ wk_X9_254) dX9_flat_17 ?_
    exact hret (-1000000 : Int32) (h0_isLaid, f_h0_flats) (Nat.le_of_ble_eq_true rfl) (Nat.le_of_ble_eq_true rfl) rfl (om_29 hy9) (hP.sub [2, 3, 0, 1] rfl) (hD.sub [2, 3, 0, 1] (by decide) rfl) hS dX9_flat_19
  · skip
    have c4i : ¬ (r1.toInt = (0 : Int)) := fun q => c4 ((zc_eq (rfl : r1.toInt = _) (show (0 : Int32).toInt = (0 : Int) from by decide)).mpr q)
    refine lv_iload_n hx hb dX9_flat_8 rfl (lv_at hl 2 rfl) ?_
    refine lv_iconst (v := 0) hx hb dX9_flat_9 (by decide) ?_
    refine lv_iconst (v := 3) hx hb dX9_flat_10 (by decide) ?_
    refine zfi (wr := [(h0_flats, .inl (g.2.1.1, 72, .inl f_h0_flats)), (h0_now, .inl (g.2.1.1, 21, .inl f_h0_now)), (h0, .inr (9, [.ref h0_told, .ref h0_read, .ref h0_now, .ref h0_readNow, .ref h0_kept, .int h0_undone, .int h0_seed, .int h0_hasPart, .ref h0_tape, .int h0_taped, .ref h0_refused, .int h0_faultKind, .int h0_faultPlace, .int h0_size, .int h0_at, .int h0_from, .int h0_wrong, .int h0_wrongAt, .ref h0_ownLetters, .ref h0_flats, .int h0_isLaid, .ref h0_corner, .ref h0_wayX, .ref h0_wayY, .ref h0_normal, .ref h0_low, .ref h0_high, .ref h0_clear, .ref h0_ways, .ref h0_canBe, .ref h0_lain, .int h0_canTool, .ref h0_fewestBy, .ref h0_sortOf, .int h0_rows, .ref h0_seenFlange, .ref h0_seenLength])), (h0_told, .inl (g.2.1.1, 103, .inl f_h0_told))]) (va_runS (As := [.int x2, .int 0, .int 3]) (rest := []) ⟨hx, hb, hml, hown, hG⟩ (kX9_isIn l g x2 (0 : Int32) (3 : Int32) _) ⟨callB_of 3 hG (zGood wc_X9_isIn) rfl rfl rfl (hG _ wini_X9) (hG _ wm_X9_163) hX9_isIn ⟨Nat.le_of_ble_eq_true rfl, Nat.le_of_ble_eq_true rfl⟩, hG _ ws_X9_isIn⟩ (zpreS hX hP hD hS hA [] rfl (by decide)) rfl rfl hl.1 rfl (lv_room (Nat.le_of_ble_eq_true rfl)) dX9_flat_11 ⟨Nat.le_of_ble_eq_true rfl, Nat.le_of_ble_eq_true rfl⟩) hP hD hS hA [] [0, 1, 2, 3] rfl rfl (by decide) (by decide) (fun r5 _ H locs hp hP hD hS => ?_)
    refine W.cs (cells' := 0) (slots' := 0) rfl rfl ?_
    obtain ⟨hq6, hq7, hq8⟩ : (0 ≤ r5.toInt ∧ r5.toInt ≤ 1) ∧ ((r5.toInt = 0 ∨ ((0 : Int) ≤ x2.toInt ∧ x2.toInt ≤ (3 : Int)))) ∧ ((r5.toInt = 1 ∨ ¬ ((0 : Int) ≤ x2.toInt ∧ x2.toInt ≤ (3 : Int)))) := hp
    have hP : va_P g.1 vwCl [(h0_flats, .inl (g.2.1.1, 72, .inl f_h0_flats)), (h0_now, .inl (g.2.1.1, 21, .inl f_h0_now)), (h0, .inr (9, [.ref h0_told, .ref h0_read, .ref h0_now, .ref h0_readNow, .ref h0_kept, .int h0_undone, .int h0_seed, .int h0_hasPart, .ref h0_tape, .int h0_taped, .ref h0_refused, .int h0_faultKind, .int h0_faultPlace, .int h0_size, .int h0_at, .int h0_from, .int h0_wrong, .int h0_wrongAt, .ref h0_ownLetters, .ref h0_flats, .int h0_isLaid, .ref h0_corner, .ref h0_wayX, .ref h0_wayY, .ref h0_normal, .ref h0_low, .ref h0_high, .ref h0_clear, .ref h0_ways, .ref h0_canBe, .ref h0_lain, .int h0_canTool, .ref h0_fewestBy, .ref h0_sortOf, .int h0_rows, .ref h0_seenFlange, .ref h0_seenLength])), (h0_told, .inl (g.2.1.1, 103, .inl f_h0_told))] H := hP
    have hD : va_D A [(h0_flats, .inl (g.2.1.1, 72, .inl f_h0_flats)), (h0_now, .inl (g.2.1.1, 21, .inl f_h0_now)), (h0, .inr (9, [.ref h0_told, .ref h0_read, .ref h0_now, .ref h0_readNow, .ref h0_kept, .int h0_undone, .int h0_seed, .int h0_hasPart, .ref h0_tape, .int h0_taped, .ref h0_refused, .int h0_faultKind, .int h0_faultPlace, .int h0_size, .int h0_at, .int h0_from, .int h0_wrong, .int h0_wrongAt, .ref h0_ownLetters, .ref h0_flats, .int h0_isLaid, .ref h0_corner, .ref h0_wayX, .ref h0_wayY, .ref h0_normal, .ref h0_low, .ref h0_high, .ref h0_clear, .ref h0_ways, .ref h0_canBe, .ref h0_lain, .int h0_canTool, .ref h0_fewestBy, .ref h0_sortOf, .int h0_rows, .ref h0_seenFlange, .ref h0_seenLength])), (h0_told, .inl (g.2.1.1, 103, .inl f_h0_told))] := hD
    refine lv_if_ne (tgt := 20) hx hb dX9_flat_14 (by decide) (fun c9 => ?_) (fun c9 => ?_)
    · skip
      have c9i : ¬ (r5.toInt = (0 : Int)) := fun q => c9 ((zc_eq (rfl : r5.toInt = _) (show (0 : Int32).toInt = (0 : Int) from by decide)).mpr q)
      refine lv_aload_n hx hb dX9_flat_20 rfl (lv_at hl 0 rfl) ?_
      refine zfv (wr := []) (va_runV (As := []) (rest := []) ⟨hx, hb, hml, hown, hG⟩ (kX9_laysFlat l g h0 h0_told h0_read h0_now h0_readNow h0_kept h0_undone h0_seed h0_hasPart h0_tape h0_taped h0_refused h0_faultKind h0_faultPlace h0_size h0_at h0_from h0_wrong h0_wrongAt h0_ownLetters h0_flats h0_isLaid h0_corner h0_wayX h0_wayY h0_normal h0_low h0_high h0_clear h0_ways h0_canBe h0_lain h0_canTool h0_fewestBy h0_sortOf h0_rows h0_seenFlange h0_seenLength f_h0_flats f_h0_told h0_told_3 h0_told_4 f_h0_now h0_now_0 (om_27 hy0) (om_28 hy1) (om_29 hy2) (om_32 hy3) (om_31 hy4) (om_32 hy5) (om_32 hy6) (om_32 hy7) (om_31 hy8) (om_29 hy9) (om_13 hy10) (om_33 hy11) hy12 (om_155 hy13) hy14 (om_33 hy15) hy16 hy17 (om_13 hy18) hy19 (om_446 c4i hq2 hq3 hy2) _) ⟨callB_of 0 hG (zGood wc_X9_laysFlat) rfl rfl rfl (hG _ wini_X9) (hG _ wm_X9_255) hX9_laysFlat ⟨Nat.le_of_ble_eq_true rfl, Nat.le_of_ble_eq_true rfl⟩, hG _ wi_X9_laysFlat, hG _ wse_X9_X9_laysFlat⟩ (zpreV (va_recv hX.1 hP (ci := 9) (q0 := 2) rfl rfl) hX hP hD hS hA [2, 0, 3, 1] rfl (by decide)) rfl rfl hl.1 rfl (lv_room (Nat.le_of_ble_eq_true rfl)) dX9_flat_21 ⟨Nat.le_of_ble_eq_true rfl, Nat.le_of_ble_eq_true rfl⟩) hP hD hS hA [2, 0, 3, 1] [] rfl rfl (by decide) (by decide) (fun u11 H locs hp hP hD hS => ?_)
      refine W.cs (cells' := 0) (slots' := 0) rfl rfl ?_
      obtain ⟨v12, f13⟩ := u11
      have hq14 : 1 ≤ v12.toInt ∧ v12.toInt ≤ 1 := hp
      have hP : va_P g.1 vwCl [(h0, .inr (9, [.ref h0_told, .ref h0_read, .ref h0_now, .ref h0_readNow, .ref h0_kept, .int h0_undone, .int h0_seed, .int h0_hasPart, .ref h0_tape, .int h0_taped, .ref h0_refused, .int h0_faultKind, .int h0_faultPlace, .int h0_size, .int h0_at, .int h0_from, .int h0_wrong, .int h0_wrongAt, .ref h0_ownLetters, .ref h0_flats, .int v12, .ref h0_corner, .ref h0_wayX, .ref h0_wayY, .ref h0_normal, .ref h0_low, .ref h0_high, .ref h0_clear, .ref h0_ways, .ref h0_canBe, .ref h0_lain, .int h0_canTool, .ref h0_fewestBy, .ref h0_sortOf, .int h0_rows, .ref h0_seenFlange, .ref h0_seenLength])), (h0_flats, .inl (g.2.1.1, 72, .inl f13)), (h0_told, .inl (g.2.1.1, 103, .inl f_h0_told)), (h0_now, .inl (g.2.1.1, 21, .inl f_h0_now))] H := hP
      have hD : va_D A [(h0, .inr (9, [.ref h0_told, .ref h0_read, .ref h0_now, .ref h0_readNow, .ref h0_kept, .int h0_undone, .int h0_seed, .int h0_hasPart, .ref h0_tape, .int h0_taped, .ref h0_refused, .int h0_faultKind, .int h0_faultPlace, .int h0_size, .int h0_at, .int h0_from, .int h0_wrong, .int h0_wrongAt, .ref h0_ownLetters, .ref h0_flats, .int v12, .ref h0_corner, .ref h0_wayX, .ref h0_wayY, .ref h0_normal, .ref h0_low, .ref h0_high, .ref h0_clear, .ref h0_ways, .ref h0_canBe, .ref h0_lain, .int h0_canTool, .ref h0_fewestBy, .ref h0_sortOf, .int h0_rows, .ref h0_seenFlange, .ref h0_seenLength])), (h0_flats, .inl (g.2.1.1, 72, .inl f13)), (h0_told, .inl (g.2.1.1, 103, .inl f_h0_told)), (h0_now, .inl (g.2.1.1, 21, .inl f_h0_now))] := hD
      refine lv_aload_n hx hb dX9_flat_24 rfl (lv_at hl 0 rfl) ?_
      refine va_get (D := g.1) (ci := 9) (v := .ref h0_flats) (C := RX9) (T := TX9) (N := 37) hx hb hG iX9 hown hX.1 hP 0 rfl rfl 19 (by decide) (hG _ wf_X9_69) (fun _ h9 => h9) rfl dX9_flat_25 ?_
      refine lv_iconst (v := 4) hx hb dX9_flat_28 (by decide) ?_
      refine lv_iload_n hx hb dX9_flat_29 rfl (lv_at hl 1 rfl) ?_
      refine lv_imul hx hb dX9_flat_30 ?_
      refine lv_topi (fun z15 e16 => ?_)
      have f17 : z15.toInt = (4 : Int) * x1.toInt := zm e16 (show (4 : Int32).toInt = (4 : Int) from by decide) (rfl : x1.toInt = _) (om_447 c4i hq2 hq3)
      refine lv_iload_n hx hb dX9_flat_31 rfl (lv_at hl 2 rfl) ?_
      refine lv_iadd hx hb dX9_flat_32 ?_
      refine lv_topi (fun z18 e19 => ?_)
      have f20 : z18.toInt = z15.toInt + x2.toInt := za e19 (rfl : z15.toInt = _) (rfl : x2.toInt = _) (om_448 c4i c9i f17 hq2 hq3 hq6 hq7)
      refine va_iald hx hb hX.1 hP 1 0 rfl rfl (zin (rfl : z18.toInt = _) (om_449 c4i c9i f17 f20 hq2 hq3 hq6 hq7)) dX9_flat_33 ?_
      refine lv_topi (fun z21 e22 => ?_)
      exact hret z21 (v12, f13) (Nat.le_of_ble_eq_true rfl) (Nat.le_of_ble_eq_true rfl) rfl (om_450 hq14) (hP.sub [0, 2, 1, 3] rfl) (hD.sub [0, 2, 1, 3] (by decide) rfl) hS dX9_flat_34
    · skip
      have c9i : r5.toInt = (0 : Int) := (zc_eq (rfl : r5.toInt = _) (show (0 : Int32).toInt = (0 : Int) from by decide)).mp c9
      refine lv_ldc (v := (-1000000)) hx hb hown (hG _ wk_X9_254) dX9_flat_17 ?_
      exact hret (-1000000 : Int32) (h0_isLaid, f_h0_flats) (Nat.le_of_ble_eq_true rfl) (Nat.le_of_ble_eq_true rfl) rfl (om_29 hy9) (hP.sub [2, 3, 0, 1] rfl) (hD.sub [2, 3, 0, 1] (by decide) rfl) hS dX9_flat_19
theorem dX9_flatBox_0 : decode cX9_flatBox 0 = .ok (.aload_n 0, 1) := by decide +kernel
theorem dX9_flatBox_1 : decode cX9_flatBox 1 = .ok (.getfield 32, 3) := by decide +kernel
theorem dX9_flatBox_4 : decode cX9_flatBox 4 = .ok (.ifCond .eq 12, 3) := by decide +kernel
theorem dX9_flatBox_16 : decode cX9_flatBox 16 = .ok (.ldc 254, 2) := by decide +kernel
theorem dX9_flatBox_18 : decode cX9_flatBox 18 = .ok (.ireturn, 1) := by decide +kernel
theorem dX9_flatBox_7 : decode cX9_flatBox 7 = .ok (.iload_n 1, 1) := by decide +kernel
theorem dX9_flatBox_8 : decode cX9_flatBox 8 = .ok (.iconst 0, 1) := by decide +kernel
theorem dX9_flatBox_9 : decode cX9_flatBox 9 = .ok (.iconst 4, 1) := by decide +kernel
theorem dX9_flatBox_10 : decode cX9_flatBox 10 = .ok (.invokestatic 163, 3) := by decide +kernel
theorem dX9_flatBox_13 : decode cX9_flatBox 13 = .ok (.ifCond .ne 6, 3) := by decide +kernel
theorem dX9_flatBox_19 : decode cX9_flatBox 19 = .ok (.aload_n 0, 1) := by decide +kernel
theorem dX9_flatBox_20 : decode cX9_flatBox 20 = .ok (.invokevirtual 255, 3) := by decide +kernel
theorem dX9_flatBox_23 : decode cX9_flatBox 23 = .ok (.iload_n 1, 1) := by decide +kernel
theorem dX9_flatBox_24 : decode cX9_flatBox 24 = .ok (.iconst 4, 1) := by decide +kernel
theorem dX9_flatBox_38 : decode cX9_flatBox 38 = .ok (.istore_n 2, 1) := by decide +kernel
theorem dX9_flatBox_39 : decode cX9_flatBox 39 = .ok (.iconst 0, 1) := by decide +kernel
theorem dX9_flatBox_40 : decode cX9_flatBox 40 = .ok (.istore_n 3, 1) := by decide +kernel
theorem dX9_flatBox_41 : decode cX9_flatBox 41 = .ok (.iload_n 3, 1) := by decide +kernel
theorem dX9_flatBox_42 : decode cX9_flatBox 42 = .ok (.bipush 17, 2) := by decide +kernel
theorem dX9_flatBox_44 : decode cX9_flatBox 44 = .ok (.if_icmp .ge 109, 3) := by decide +kernel
theorem dX9_flatBox_153 : decode cX9_flatBox 153 = .ok (.iload_n 2, 1) := by decide +kernel
theorem dX9_flatBox_154 : decode cX9_flatBox 154 = .ok (.ireturn, 1) := by decide +kernel
theorem dX9_flatBox_47 : decode cX9_flatBox 47 = .ok (.aload_n 0, 1) := by decide +kernel
theorem dX9_flatBox_48 : decode cX9_flatBox 48 = .ok (.iload_n 3, 1) := by decide +kernel
theorem dX9_flatBox_49 : decode cX9_flatBox 49 = .ok (.invokevirtual 251, 3) := by decide +kernel
theorem dX9_flatBox_147 : decode cX9_flatBox 147 = .ok (.iinc 3 1, 3) := by decide +kernel
theorem dX9_flatBox_150 : decode cX9_flatBox 150 = .ok (.goto (-109), 3) := by decide +kernel
theorem dX9_flatBox_52 : decode cX9_flatBox 52 = .ok (.ifCond .ne 6, 3) := by decide +kernel
theorem dX9_flatBox_58 : decode cX9_flatBox 58 = .ok (.iload_n 1, 1) := by decide +kernel
theorem dX9_flatBox_59 : decode cX9_flatBox 59 = .ok (.iconst 4, 1) := by decide +kernel
theorem dX9_flatBox_60 : decode cX9_flatBox 60 = .ok (.if_icmp .ne 50, 3) := by decide +kernel
theorem dX9_flatBox_110 : decode cX9_flatBox 110 = .ok (.iload_n 1, 1) := by decide +kernel
theorem dX9_flatBox_111 : decode cX9_flatBox 111 = .ok (.iconst 2, 1) := by decide +kernel
theorem dX9_flatBox_146 : decode cX9_flatBox 146 = .ok (.istore_n 2, 1) := by decide +kernel
theorem dX9_flatBox_112 : decode cX9_flatBox 112 = .ok (.if_icmp .ge 20, 3) := by decide +kernel
theorem dX9_flatBox_132 : decode cX9_flatBox 132 = .ok (.iload_n 2, 1) := by decide +kernel
theorem dX9_flatBox_133 : decode cX9_flatBox 133 = .ok (.aload_n 0, 1) := by decide +kernel
theorem dX9_flatBox_134 : decode cX9_flatBox 134 = .ok (.getfield 69, 3) := by decide +kernel
theorem dX9_flatBox_137 : decode cX9_flatBox 137 = .ok (.iconst 4, 1) := by decide +kernel
theorem dX9_flatBox_138 : decode cX9_flatBox 138 = .ok (.iload_n 3, 1) := by decide +kernel
theorem dX9_flatBox_139 : decode cX9_flatBox 139 = .ok (.imul, 1) := by decide +kernel
theorem dX9_flatBox_140 : decode cX9_flatBox 140 = .ok (.iload_n 1, 1) := by decide +kernel
theorem dX9_flatBox_141 : decode cX9_flatBox 141 = .ok (.iadd, 1) := by decide +kernel
theorem dX9_flatBox_142 : decode cX9_flatBox 142 = .ok (.iaload, 1) := by decide +kernel
theorem dX9_flatBox_143 : decode cX9_flatBox 143 = .ok (.invokestatic 184, 3) := by decide +kernel
theorem dX9_flatBox_115 : decode cX9_flatBox 115 = .ok (.iload_n 2, 1) := by decide +kernel
theorem dX9_flatBox_116 : decode cX9_flatBox 116 = .ok (.aload_n 0, 1) := by decide +kernel
theorem dX9_flatBox_117 : decode cX9_flatBox 117 = .ok (.getfield 69, 3) := by decide +kernel
theorem dX9_flatBox_120 : decode cX9_flatBox 120 = .ok (.iconst 4, 1) := by decide +kernel
theorem dX9_flatBox_121 : decode cX9_flatBox 121 = .ok (.iload_n 3, 1) := by decide +kernel
theorem dX9_flatBox_122 : decode cX9_flatBox 122 = .ok (.imul, 1) := by decide +kernel
theorem dX9_flatBox_123 : decode cX9_flatBox 123 = .ok (.iload_n 1, 1) := by decide +kernel
theorem dX9_flatBox_124 : decode cX9_flatBox 124 = .ok (.iadd, 1) := by decide +kernel
theorem dX9_flatBox_125 : decode cX9_flatBox 125 = .ok (.iaload, 1) := by decide +kernel
theorem dX9_flatBox_126 : decode cX9_flatBox 126 = .ok (.invokestatic 181, 3) := by decide +kernel
theorem dX9_flatBox_129 : decode cX9_flatBox 129 = .ok (.goto 17, 3) := by decide +kernel
theorem dX9_flatBox_63 : decode cX9_flatBox 63 = .ok (.iload_n 2, 1) := by decide +kernel
theorem dX9_flatBox_64 : decode cX9_flatBox 64 = .ok (.aload_n 0, 1) := by decide +kernel
theorem dX9_flatBox_65 : decode cX9_flatBox 65 = .ok (.getfield 69, 3) := by decide +kernel
theorem dX9_flatBox_68 : decode cX9_flatBox 68 = .ok (.iconst 4, 1) := by decide +kernel
theorem dX9_flatBox_69 : decode cX9_flatBox 69 = .ok (.iload_n 3, 1) := by decide +kernel
theorem dX9_flatBox_70 : decode cX9_flatBox 70 = .ok (.imul, 1) := by decide +kernel
theorem dX9_flatBox_71 : decode cX9_flatBox 71 = .ok (.iconst 2, 1) := by decide +kernel
theorem dX9_flatBox_72 : decode cX9_flatBox 72 = .ok (.iadd, 1) := by decide +kernel
theorem dX9_flatBox_73 : decode cX9_flatBox 73 = .ok (.iaload, 1) := by decide +kernel
theorem dX9_flatBox_74 : decode cX9_flatBox 74 = .ok (.aload_n 0, 1) := by decide +kernel
theorem dX9_flatBox_75 : decode cX9_flatBox 75 = .ok (.getfield 69, 3) := by decide +kernel
theorem dX9_flatBox_78 : decode cX9_flatBox 78 = .ok (.iconst 4, 1) := by decide +kernel
theorem dX9_flatBox_79 : decode cX9_flatBox 79 = .ok (.iload_n 3, 1) := by decide +kernel
theorem dX9_flatBox_80 : decode cX9_flatBox 80 = .ok (.imul, 1) := by decide +kernel
theorem dX9_flatBox_81 : decode cX9_flatBox 81 = .ok (.iaload, 1) := by decide +kernel
theorem dX9_flatBox_82 : decode cX9_flatBox 82 = .ok (.isub, 1) := by decide +kernel
theorem dX9_flatBox_83 : decode cX9_flatBox 83 = .ok (.aload_n 0, 1) := by decide +kernel
theorem dX9_flatBox_84 : decode cX9_flatBox 84 = .ok (.getfield 69, 3) := by decide +kernel
theorem dX9_flatBox_87 : decode cX9_flatBox 87 = .ok (.iconst 4, 1) := by decide +kernel
theorem dX9_flatBox_88 : decode cX9_flatBox 88 = .ok (.iload_n 3, 1) := by decide +kernel
theorem dX9_flatBox_89 : decode cX9_flatBox 89 = .ok (.imul, 1) := by decide +kernel
theorem dX9_flatBox_90 : decode cX9_flatBox 90 = .ok (.iconst 3, 1) := by decide +kernel
theorem dX9_flatBox_91 : decode cX9_flatBox 91 = .ok (.iadd, 1) := by decide +kernel
theorem dX9_flatBox_92 : decode cX9_flatBox 92 = .ok (.iaload, 1) := by decide +kernel
theorem dX9_flatBox_93 : decode cX9_flatBox 93 = .ok (.aload_n 0, 1) := by decide +kernel
theorem dX9_flatBox_94 : decode cX9_flatBox 94 = .ok (.getfield 69, 3) := by decide +kernel
theorem dX9_flatBox_97 : decode cX9_flatBox 97 = .ok (.iconst 4, 1) := by decide +kernel
theorem dX9_flatBox_98 : decode cX9_flatBox 98 = .ok (.iload_n 3, 1) := by decide +kernel
theorem dX9_flatBox_99 : decode cX9_flatBox 99 = .ok (.imul, 1) := by decide +kernel
theorem dX9_flatBox_100 : decode cX9_flatBox 100 = .ok (.iconst 1, 1) := by decide +kernel
theorem dX9_flatBox_101 : decode cX9_flatBox 101 = .ok (.iadd, 1) := by decide +kernel
theorem dX9_flatBox_102 : decode cX9_flatBox 102 = .ok (.iaload, 1) := by decide +kernel
theorem dX9_flatBox_103 : decode cX9_flatBox 103 = .ok (.isub, 1) := by decide +kernel
theorem dX9_flatBox_104 : decode cX9_flatBox 104 = .ok (.imul, 1) := by decide +kernel
theorem dX9_flatBox_105 : decode cX9_flatBox 105 = .ok (.iadd, 1) := by decide +kernel
theorem dX9_flatBox_106 : decode cX9_flatBox 106 = .ok (.istore_n 2, 1) := by decide +kernel
theorem dX9_flatBox_107 : decode cX9_flatBox 107 = .ok (.goto 40, 3) := by decide +kernel
theorem dX9_flatBox_55 : decode cX9_flatBox 55 = .ok (.goto 92, 3) := by decide +kernel
theorem dX9_flatBox_25 : decode cX9_flatBox 25 = .ok (.if_icmp .ne 7, 3) := by decide +kernel
theorem dX9_flatBox_32 : decode cX9_flatBox 32 = .ok (.aload_n 0, 1) := by decide +kernel
theorem dX9_flatBox_33 : decode cX9_flatBox 33 = .ok (.getfield 69, 3) := by decide +kernel
theorem dX9_flatBox_36 : decode cX9_flatBox 36 = .ok (.iload_n 1, 1) := by decide +kernel
theorem dX9_flatBox_37 : decode cX9_flatBox 37 = .ok (.iaload, 1) := by decide +kernel
theorem dX9_flatBox_28 : decode cX9_flatBox 28 = .ok (.iconst 0, 1) := by decide +kernel
theorem dX9_flatBox_29 : decode cX9_flatBox 29 = .ok (.goto 9, 3) := by decide +kernel
abbrev rm_kX9_flatBox : Room := { frames := 3, cells := 0, slots := 0, locals := 64 }
set_option maxHeartbeats 4000000 in
set_option maxRecDepth 100000 in
theorem kX9_flatBox (l : Launch) (g : zL) (h0 : Nat) (x1 : Int32) (h0_told : Nat) (h0_read : Nat) (h0_now : Nat) (h0_readNow : Nat) (h0_kept : Nat) (h0_undone : Int32) (h0_seed : Int32) (h0_hasPart : Int32) (h0_tape : Nat) (h0_taped : Int32) (h0_refused : Nat) (h0_faultKind : Int32) (h0_faultPlace : Int32) (h0_size : Int32) (h0_at : Int32) (h0_from : Int32) (h0_wrong : Int32) (h0_wrongAt : Int32) (h0_ownLetters : Nat) (h0_flats : Nat) (h0_isLaid : Int32) (h0_corner : Nat) (h0_wayX : Nat) (h0_wayY : Nat) (h0_normal : Nat) (h0_low : Nat) (h0_high : Nat) (h0_clear : Nat) (h0_ways : Nat) (h0_canBe : Nat) (h0_lain : Nat) (h0_canTool : Int32) (h0_fewestBy : Nat) (h0_sortOf : Nat) (h0_rows : Int32) (h0_seenFlange : Nat) (h0_seenLength : Nat) (f_h0_flats : Nat → Int32) (f_h0_told : Nat → Int32) (h0_told_3 : Int32) (h0_told_4 : Int32) (f_h0_now : Nat → Int32) (h0_now_0 : Int32) (hy0 : 0 ≤ h0_undone.toInt ∧ h0_undone.toInt ≤ 20) (hy1 : 0 ≤ h0_seed.toInt ∧ h0_seed.toInt ≤ 2147483647) (hy2 : 0 ≤ h0_hasPart.toInt ∧ h0_hasPart.toInt ≤ 1) (hy3 : 0 ≤ h0_taped.toInt ∧ h0_taped.toInt ≤ 1200) (hy4 : 0 ≤ h0_faultKind.toInt ∧ h0_faultKind.toInt ≤ 5) (hy5 : 0 ≤ h0_size.toInt ∧ h0_size.toInt ≤ 1200) (hy6 : 0 ≤ h0_at.toInt ∧ h0_at.toInt ≤ 1200) (hy7 : 0 ≤ h0_from.toInt ∧ h0_from.toInt ≤ 1200) (hy8 : 0 ≤ h0_wrong.toInt ∧ h0_wrong.toInt ≤ 5) (hy9 : 0 ≤ h0_isLaid.toInt ∧ h0_isLaid.toInt ≤ 1) (hy10 : 0 ≤ h0_canTool.toInt ∧ h0_canTool.toInt ≤ 255) (hy11 : 0 ≤ h0_rows.toInt ∧ h0_rows.toInt ≤ 8) (hy12 : pW mB f_h0_told) (hy13 : 0 ≤ h0_told_3.toInt ∧ h0_told_3.toInt ≤ 9) (hy14 : cEq f_h0_told 3 h0_told_3) (hy15 : 0 ≤ h0_told_4.toInt ∧ h0_told_4.toInt ≤ 8) (hy16 : cEq f_h0_told 4 h0_told_4) (hy17 : pW nB f_h0_now) (hy18 : 0 ≤ h0_now_0.toInt ∧ h0_now_0.toInt ≤ 255) (hy19 : cEq f_h0_now 0 h0_now_0) (hy20 : ((h0_hasPart.toInt = 0 ∧ h0_told_3.toInt = 0) ∨ (h0_hasPart.toInt = 1 ∧ 1 ≤ h0_told_3.toInt))) : zCi l g yX9_flatBox cX9_flatBox 4 (some .int) rm_kX9_flatBox [.ref h0, .int x1] [(h0, .inr (9, [.ref h0_told, .ref h0_read, .ref h0_now, .ref h0_readNow, .ref h0_kept, .int h0_undone, .int h0_seed, .int h0_hasPart, .ref h0_tape, .int h0_taped, .ref h0_refused, .int h0_faultKind, .int h0_faultPlace, .int h0_size, .int h0_at, .int h0_from, .int h0_wrong, .int h0_wrongAt, .ref h0_ownLetters, .ref h0_flats, .int h0_isLaid, .ref h0_corner, .ref h0_wayX, .ref h0_wayY, .ref h0_normal, .ref h0_low, .ref h0_high, .ref h0_clear, .ref h0_ways, .ref h0_canBe, .ref h0_lain, .int h0_canTool, .ref h0_fewestBy, .ref h0_sortOf, .int h0_rows, .ref h0_seenFlange, .ref h0_seenLength])), (h0_flats, .inl (g.2.1.1, 72, .inl f_h0_flats)), (h0_told, .inl (g.2.1.1, 103, .inl f_h0_told)), (h0_now, .inl (g.2.1.1, 21, .inl f_h0_now))] (fun (r : Int32) (u : Int32 × (Nat → Int32)) => (0 ≤ u.1.toInt ∧ u.1.toInt ≤ 1)) (fun (u : Int32 × (Nat → Int32)) => [(h0, .inr (9, [.ref h0_told, .ref h0_read, .ref h0_now, .ref h0_readNow, .ref h0_kept, .int h0_undone, .int h0_seed, .int h0_hasPart, .ref h0_tape, .int h0_taped, .ref h0_refused, .int h0_faultKind, .int h0_faultPlace, .int h0_size, .int h0_at, .int h0_from, .int h0_wrong, .int h0_wrongAt, .ref h0_ownLetters, .ref h0_flats, .int u.1, .ref h0_corner, .ref h0_wayX, .ref h0_wayY, .ref h0_normal, .ref h0_low, .ref h0_high, .ref h0_clear, .ref h0_ways, .ref h0_canBe, .ref h0_lain, .int h0_canTool, .ref h0_fewestBy, .ref h0_sortOf, .int h0_rows, .ref h0_seenFlange, .ref h0_seenLength])), (h0_flats, .inl (g.2.1.1, 72, .inl u.2)), (h0_told, .inl (g.2.1.1, 103, .inl f_h0_told)), (h0_now, .inl (g.2.1.1, 21, .inl f_h0_now))]) := by
  refine zCi.mk2 (by decide) (Nat.le_of_ble_eq_true rfl) ?_
  intro p e s m below meth c A args Q hE hret hP hD hS ls hl
  obtain ⟨hx, hb, hr, hml, hown, hG, hlocks, hnm, hX, hA⟩ := hE
  have hown : s.vm.findClass RX9 = some m.cls := hown
  have hl : lv_has ls 4 [(0, .ref h0), (1, .int x1)] := hl
  refine lv_aload_n hx hb dX9_flatBox_0 rfl (lv_at hl 0 rfl) ?_
  refine va_get (D := g.1) (ci := 9) (v := .int h0_hasPart) (C := RX9) (T := TX9) (N := 37) hx hb hG iX9 hown hX.1 hP 0 rfl rfl 7 (by decide) (hG _ wf_X9_32) (fun _ h9 => h9) rfl dX9_flatBox_1 ?_
  refine lv_if_eq (tgt := 16) hx hb dX9_flatBox_4 (by decide) (fun c1 => ?_) (fun c1 => ?_)
  · skip
    have c1i : h0_hasPart.toInt = (0 : Int) := (zc_eq (rfl : h0_hasPart.toInt = _) (show (0 : Int32).toInt = (0 : Int) from by decide)).mp c1
    refine lv_ldc (v := (-1000000)) hx hb hown (hG _ wk_X9_254) dX9_flatBox_16 ?_
    exact hret (-1000000 : Int32) (h0_isLaid, f_h0_flats) (Nat.le_of_ble_eq_true rfl) (Nat.le_of_ble_eq_true rfl) rfl (om_29 hy9) hP hD hS dX9_flatBox_18
  · skip
    have c1i : ¬ (h0_hasPart.toInt = (0 : Int)) := fun q => c1 ((zc_eq (rfl : h0_hasPart.toInt = _) (show (0 : Int32).toInt = (0 : Int) from by decide)).mpr q)
    refine lv_iload_n hx hb dX9_flatBox_7 rfl (lv_at hl 1 rfl) ?_
    refine lv_iconst (v := 0) hx hb dX9_flatBox_8 (by decide) ?_
    refine lv_iconst (v := 4) hx hb dX9_flatBox_9 (by decide) ?_
    refine zfi (wr := [(h0, .inr (9, [.ref h0_told, .ref h0_read, .ref h0_now, .ref h0_readNow, .ref h0_kept, .int h0_undone, .int h0_seed, .int h0_hasPart, .ref h0_tape, .int h0_taped, .ref h0_refused, .int h0_faultKind, .int h0_faultPlace, .int h0_size, .int h0_at, .int h0_from, .int h0_wrong, .int h0_wrongAt, .ref h0_ownLetters, .ref h0_flats, .int h0_isLaid, .ref h0_corner, .ref h0_wayX, .ref h0_wayY, .ref h0_normal, .ref h0_low, .ref h0_high, .ref h0_clear, .ref h0_ways, .ref h0_canBe, .ref h0_lain, .int h0_canTool, .ref h0_fewestBy, .ref h0_sortOf, .int h0_rows, .ref h0_seenFlange, .ref h0_seenLength])), (h0_flats, .inl (g.2.1.1, 72, .inl f_h0_flats)), (h0_told, .inl (g.2.1.1, 103, .inl f_h0_told)), (h0_now, .inl (g.2.1.1, 21, .inl f_h0_now))]) (va_runS (As := [.int x1, .int 0, .int 4]) (rest := []) ⟨hx, hb, hml, hown, hG⟩ (kX9_isIn l g x1 (0 : Int32) (4 : Int32) _) ⟨callB_of 3 hG (zGood wc_X9_isIn) rfl rfl rfl (hG _ wini_X9) (hG _ wm_X9_163) hX9_isIn ⟨Nat.le_of_ble_eq_true rfl, Nat.le_of_ble_eq_true rfl⟩, hG _ ws_X9_isIn⟩ (zpreS hX hP hD hS hA [] rfl (by decide)) rfl rfl hl.1 rfl (lv_room (Nat.le_of_ble_eq_true rfl)) dX9_flatBox_10 ⟨Nat.le_of_ble_eq_true rfl, Nat.le_of_ble_eq_true rfl⟩) hP hD hS hA [] [0, 1, 2, 3] rfl rfl (by decide) (by decide) (fun r2 _ H locs hp hP hD hS => ?_)
    refine W.cs (cells' := 0) (slots' := 0) rfl rfl ?_
    obtain ⟨hq3, hq4, hq5⟩ : (0 ≤ r2.toInt ∧ r2.toInt ≤ 1) ∧ ((r2.toInt = 0 ∨ ((0 : Int) ≤ x1.toInt ∧ x1.toInt ≤ (4 : Int)))) ∧ ((r2.toInt = 1 ∨ ¬ ((0 : Int) ≤ x1.toInt ∧ x1.toInt ≤ (4 : Int)))) := hp
    have hP : va_P g.1 vwCl [(h0, .inr (9, [.ref h0_told, .ref h0_read, .ref h0_now, .ref h0_readNow, .ref h0_kept, .int h0_undone, .int h0_seed, .int h0_hasPart, .ref h0_tape, .int h0_taped, .ref h0_refused, .int h0_faultKind, .int h0_faultPlace, .int h0_size, .int h0_at, .int h0_from, .int h0_wrong, .int h0_wrongAt, .ref h0_ownLetters, .ref h0_flats, .int h0_isLaid, .ref h0_corner, .ref h0_wayX, .ref h0_wayY, .ref h0_normal, .ref h0_low, .ref h0_high, .ref h0_clear, .ref h0_ways, .ref h0_canBe, .ref h0_lain, .int h0_canTool, .ref h0_fewestBy, .ref h0_sortOf, .int h0_rows, .ref h0_seenFlange, .ref h0_seenLength])), (h0_flats, .inl (g.2.1.1, 72, .inl f_h0_flats)), (h0_told, .inl (g.2.1.1, 103, .inl f_h0_told)), (h0_now, .inl (g.2.1.1, 21, .inl f_h0_now))] H := hP
    have hD : va_D A [(h0, .inr (9, [.ref h0_told, .ref h0_read, .ref h0_now, .ref h0_readNow, .ref h0_kept, .int h0_undone, .int h0_seed, .int h0_hasPart, .ref h0_tape, .int h0_taped, .ref h0_refused, .int h0_faultKind, .int h0_faultPlace, .int h0_size, .int h0_at, .int h0_from, .int h0_wrong, .int h0_wrongAt, .ref h0_ownLetters, .ref h0_flats, .int h0_isLaid, .ref h0_corner, .ref h0_wayX, .ref h0_wayY, .ref h0_normal, .ref h0_low, .ref h0_high, .ref h0_clear, .ref h0_ways, .ref h0_canBe, .ref h0_lain, .int h0_canTool, .ref h0_fewestBy, .ref h0_sortOf, .int h0_rows, .ref h0_seenFlange, .ref h0_seenLength])), (h0_flats, .inl (g.2.1.1, 72, .inl f_h0_flats)), (h0_told, .inl (g.2.1.1, 103, .inl f_h0_told)), (h0_now, .inl (g.2.1.1, 21, .inl f_h0_now))] := hD
    refine lv_if_ne (tgt := 19) hx hb dX9_flatBox_13 (by decide) (fun c6 => ?_) (fun c6 => ?_)
    · skip
      have c6i : ¬ (r2.toInt = (0 : Int)) := fun q => c6 ((zc_eq (rfl : r2.toInt = _) (show (0 : Int32).toInt = (0 : Int) from by decide)).mpr q)
      refine lv_aload_n hx hb dX9_flatBox_19 rfl (lv_at hl 0 rfl) ?_
      refine zfv (wr := []) (va_runV (As := []) (rest := []) ⟨hx, hb, hml, hown, hG⟩ (kX9_laysFlat l g h0 h0_told h0_read h0_now h0_readNow h0_kept h0_undone h0_seed h0_hasPart h0_tape h0_taped h0_refused h0_faultKind h0_faultPlace h0_size h0_at h0_from h0_wrong h0_wrongAt h0_ownLetters h0_flats h0_isLaid h0_corner h0_wayX h0_wayY h0_normal h0_low h0_high h0_clear h0_ways h0_canBe h0_lain h0_canTool h0_fewestBy h0_sortOf h0_rows h0_seenFlange h0_seenLength f_h0_flats f_h0_told h0_told_3 h0_told_4 f_h0_now h0_now_0 (om_27 hy0) (om_28 hy1) (om_29 hy2) (om_32 hy3) (om_31 hy4) (om_32 hy5) (om_32 hy6) (om_32 hy7) (om_31 hy8) (om_29 hy9) (om_13 hy10) (om_33 hy11) hy12 (om_155 hy13) hy14 (om_33 hy15) hy16 hy17 (om_13 hy18) hy19 (om_400 c1i hy2 hy20) _) ⟨callB_of 0 hG (zGood wc_X9_laysFlat) rfl rfl rfl (hG _ wini_X9) (hG _ wm_X9_255) hX9_laysFlat ⟨Nat.le_of_ble_eq_true rfl, Nat.le_of_ble_eq_true rfl⟩, hG _ wi_X9_laysFlat, hG _ wse_X9_X9_laysFlat⟩ (zpreV (va_recv hX.1 hP (ci := 9) (q0 := 0) rfl rfl) hX hP hD hS hA [0, 1, 2, 3] rfl (by decide)) rfl rfl hl.1 rfl (lv_room (Nat.le_of_ble_eq_true rfl)) dX9_flatBox_20 ⟨Nat.le_of_ble_eq_true rfl, Nat.le_of_ble_eq_true rfl⟩) hP hD hS hA [0, 1, 2, 3] [] rfl rfl (by decide) (by decide) (fun u8 H locs hp hP hD hS => ?_)
      refine W.cs (cells' := 0) (slots' := 0) rfl rfl ?_
      obtain ⟨v9, f10⟩ := u8
      have hq11 : 1 ≤ v9.toInt ∧ v9.toInt ≤ 1 := hp
      have hP : va_P g.1 vwCl [(h0, .inr (9, [.ref h0_told, .ref h0_read, .ref h0_now, .ref h0_readNow, .ref h0_kept, .int h0_undone, .int h0_seed, .int h0_hasPart, .ref h0_tape, .int h0_taped, .ref h0_refused, .int h0_faultKind, .int h0_faultPlace, .int h0_size, .int h0_at, .int h0_from, .int h0_wrong, .int h0_wrongAt, .ref h0_ownLetters, .ref h0_flats, .int v9, .ref h0_corner, .ref h0_wayX, .ref h0_wayY, .ref h0_normal, .ref h0_low, .ref h0_high, .ref h0_clear, .ref h0_ways, .ref h0_canBe, .ref h0_lain, .int h0_canTool, .ref h0_fewestBy, .ref h0_sortOf, .int h0_rows, .ref h0_seenFlange, .ref h0_seenLength])), (h0_flats, .inl (g.2.1.1, 72, .inl f10)), (h0_told, .inl (g.2.1.1, 103, .inl f_h0_told)), (h0_now, .inl (g.2.1.1, 21, .inl f_h0_now))] H := hP
      have hD : va_D A [(h0, .inr (9, [.ref h0_told, .ref h0_read, .ref h0_now, .ref h0_readNow, .ref h0_kept, .int h0_undone, .int h0_seed, .int h0_hasPart, .ref h0_tape, .int h0_taped, .ref h0_refused, .int h0_faultKind, .int h0_faultPlace, .int h0_size, .int h0_at, .int h0_from, .int h0_wrong, .int h0_wrongAt, .ref h0_ownLetters, .ref h0_flats, .int v9, .ref h0_corner, .ref h0_wayX, .ref h0_wayY, .ref h0_normal, .ref h0_low, .ref h0_high, .ref h0_clear, .ref h0_ways, .ref h0_canBe, .ref h0_lain, .int h0_canTool, .ref h0_fewestBy, .ref h0_sortOf, .int h0_rows, .ref h0_seenFlange, .ref h0_seenLength])), (h0_flats, .inl (g.2.1.1, 72, .inl f10)), (h0_told, .inl (g.2.1.1, 103, .inl f_h0_told)), (h0_now, .inl (g.2.1.1, 21, .inl f_h0_now))] := hD
      refine lv_iload_n hx hb dX9_flatBox_23 rfl (lv_at hl 1 rfl) ?_
      refine lv_iconst (v := 4) hx hb dX9_flatBox_24 (by decide) ?_
      have J16 : ∀  (v15 : Int32) (H : Heap) (locs : List Loc) (ls : Array Slot), va_P g.1 vwCl [(h0, .inr (9, [.ref h0_told, .ref h0_read, .ref h0_now, .ref h0_readNow, .ref h0_kept, .int h0_undone, .int h0_seed, .int h0_hasPart, .ref h0_tape, .int h0_taped, .ref h0_refused, .int h0_faultKind, .int h0_faultPlace, .int h0_size, .int h0_at, .int h0_from, .int h0_wrong, .int h0_wrongAt, .ref h0_ownLetters, .ref h0_flats, .int v9, .ref h0_corner, .ref h0_wayX, .ref h0_wayY, .ref h0_normal, .ref h0_low, .ref h0_high, .ref h0_clear, .ref h0_ways, .ref h0_canBe, .ref h0_lain, .int h0_canTool, .ref h0_fewestBy, .ref h0_sortOf, .int h0_rows, .ref h0_seenFlange, .ref h0_seenLength])), (h0_flats, .inl (g.2.1.1, 72, .inl f10)), (h0_told, .inl (g.2.1.1, 103, .inl f_h0_told)), (h0_now, .inl (g.2.1.1, 21, .inl f_h0_now))] H → va_D A [(h0, .inr (9, [.ref h0_told, .ref h0_read, .ref h0_now, .ref h0_readNow, .ref h0_kept, .int h0_undone, .int h0_seed, .int h0_hasPart, .ref h0_tape, .int h0_taped, .ref h0_refused, .int h0_faultKind, .int h0_faultPlace, .int h0_size, .int h0_at, .int h0_from, .int h0_wrong, .int h0_wrongAt, .ref h0_ownLetters, .ref h0_flats, .int v9, .ref h0_corner, .ref h0_wayX, .ref h0_wayY, .ref h0_normal, .ref h0_low, .ref h0_high, .ref h0_clear, .ref h0_ways, .ref h0_canBe, .ref h0_lain, .int h0_canTool, .ref h0_fewestBy, .ref h0_sortOf, .int h0_rows, .ref h0_seenFlange, .ref h0_seenLength])), (h0_flats, .inl (g.2.1.1, 72, .inl f10)), (h0_told, .inl (g.2.1.1, 103, .inl f_h0_told)), (h0_now, .inl (g.2.1.1, 21, .inl f_h0_now))] → va_S A s.heap H locs → lv_has ls 4 [(0, .ref h0), (1, .int x1)] → W p l e rm_kX9_flatBox s m args below meth c H locs 0 0 Q (F0 m 38 ls [.int v15]) := by
        intro v15 H locs ls  hP hD hS hl
        refine lv_istore_n (lv' := [(2, .int v15), (0, .ref h0), (1, .int x1)]) hx hb dX9_flatBox_38 rfl hl (by decide) rfl (fun ls hl => ?_)
        refine lv_iconst (v := 0) hx hb dX9_flatBox_39 (by decide) ?_
        refine lv_istore_n (lv' := [(3, .int 0), (2, .int v15), (0, .ref h0), (1, .int x1)]) hx hb dX9_flatBox_40 rfl hl (by decide) rfl (fun ls hl => ?_)
        have L1345 : ∀ (n : Nat) (v1170 : Int32) (v1171 : Int32) (H : Heap) (locs : List Loc) (ls : Array Slot), 0 ≤ v1171.toInt ∧ v1171.toInt ≤ 17 → (18 - v1171.toInt).toNat < n → va_P g.1 vwCl [(h0, .inr (9, [.ref h0_told, .ref h0_read, .ref h0_now, .ref h0_readNow, .ref h0_kept, .int h0_undone, .int h0_seed, .int h0_hasPart, .ref h0_tape, .int h0_taped, .ref h0_refused, .int h0_faultKind, .int h0_faultPlace, .int h0_size, .int h0_at, .int h0_from, .int h0_wrong, .int h0_wrongAt, .ref h0_ownLetters, .ref h0_flats, .int v9, .ref h0_corner, .ref h0_wayX, .ref h0_wayY, .ref h0_normal, .ref h0_low, .ref h0_high, .ref h0_clear, .ref h0_ways, .ref h0_canBe, .ref h0_lain, .int h0_canTool, .ref h0_fewestBy, .ref h0_sortOf, .int h0_rows, .ref h0_seenFlange, .ref h0_seenLength])), (h0_flats, .inl (g.2.1.1, 72, .inl f10)), (h0_told, .inl (g.2.1.1, 103, .inl f_h0_told)), (h0_now, .inl (g.2.1.1, 21, .inl f_h0_now))] H → va_D A [(h0, .inr (9, [.ref h0_told, .ref h0_read, .ref h0_now, .ref h0_readNow, .ref h0_kept, .int h0_undone, .int h0_seed, .int h0_hasPart, .ref h0_tape, .int h0_taped, .ref h0_refused, .int h0_faultKind, .int h0_faultPlace, .int h0_size, .int h0_at, .int h0_from, .int h0_wrong, .int h0_wrongAt, .ref h0_ownLetters, .ref h0_flats, .int v9, .ref h0_corner, .ref h0_wayX, .ref h0_wayY, .ref h0_normal, .ref h0_low, .ref h0_high, .ref h0_clear, .ref h0_ways, .ref h0_canBe, .ref h0_lain, .int h0_canTool, .ref h0_fewestBy, .ref h0_sortOf, .int h0_rows, .ref h0_seenFlange, .ref h0_seenLength])), (h0_flats, .inl (g.2.1.1, 72, .inl f10)), (h0_told, .inl (g.2.1.1, 103, .inl f_h0_told)), (h0_now, .inl (g.2.1.1, 21, .inl f_h0_now))] → va_S A s.heap H locs → lv_has ls 4 [(0, .ref h0), (1, .int x1), (2, .int v1170), (3, .int v1171)] → W p l e rm_kX9_flatBox s m args below meth c H locs 0 0 Q (F0 m 41 ls []) := by
          intro n1346
          induction n1346 with
          | zero => intro v1170 v1171 H locs ls i1348 hm1349; exact absurd hm1349 (Nat.not_lt_zero _)
          | succ n1346 ih1347 =>
            intro v1170 v1171 H locs ls i1348 hm1349 hP hD hS hl
            refine lv_iload_n hx hb dX9_flatBox_41 rfl (lv_at hl 3 rfl) ?_
            refine lv_bipush (v := 17) hx hb dX9_flatBox_42 (by decide) ?_
            refine lv_icmp_ge (tgt := 153) hx hb dX9_flatBox_44 (by decide) (fun c1350 => ?_) (fun c1350 => ?_)
            · skip
              have c1350i : (17 : Int) ≤ v1171.toInt := (zc_le (show (17 : Int32).toInt = (17 : Int) from by decide) (rfl : v1171.toInt = _)).mp c1350
              refine lv_iload_n hx hb dX9_flatBox_153 rfl (lv_at hl 2 rfl) ?_
              exact hret v1170 (v9, f10) (Nat.le_of_ble_eq_true rfl) (Nat.le_of_ble_eq_true rfl) rfl (om_450 hq11) hP hD hS dX9_flatBox_154
            · skip
              have c1350i : ¬ ((17 : Int) ≤ v1171.toInt) := fun q => c1350 ((zc_le (show (17 : Int32).toInt = (17 : Int) from by decide) (rfl : v1171.toInt = _)).mpr q)
              refine lv_aload_n hx hb dX9_flatBox_47 rfl (lv_at hl 0 rfl) ?_
              refine lv_iload_n hx hb dX9_flatBox_48 rfl (lv_at hl 3 rfl) ?_
              refine zfi (wr := [(h0_flats, .inl (g.2.1.1, 72, .inl f10)), (h0_now, .inl (g.2.1.1, 21, .inl f_h0_now))]) (va_runV (As := [.int v1171]) (rest := []) ⟨hx, hb, hml, hown, hG⟩ (kX9_isPiece l g h0 v1171 h0_told h0_read h0_now h0_readNow h0_kept h0_undone h0_seed h0_hasPart h0_tape h0_taped h0_refused h0_faultKind h0_faultPlace h0_size h0_at h0_from h0_wrong h0_wrongAt h0_ownLetters h0_flats v9 h0_corner h0_wayX h0_wayY h0_normal h0_low h0_high h0_clear h0_ways h0_canBe h0_lain h0_canTool h0_fewestBy h0_sortOf h0_rows h0_seenFlange h0_seenLength f_h0_told h0_told_3 h0_told_4 (om_27 hy0) (om_28 hy1) (om_29 hy2) (om_32 hy3) (om_31 hy4) (om_32 hy5) (om_32 hy6) (om_32 hy7) (om_31 hy8) (om_450 hq11) (om_13 hy10) (om_33 hy11) hy12 (om_155 hy13) hy14 (om_33 hy15) hy16 (om_400 c1i hy2 hy20) _) ⟨callB_of 1 hG (zGood wc_X9_isPiece) rfl rfl rfl (hG _ wini_X9) (hG _ wm_X9_251) hX9_isPiece ⟨Nat.le_of_ble_eq_true rfl, Nat.le_of_ble_eq_true rfl⟩, hG _ wi_X9_isPiece, hG _ wse_X9_X9_isPiece⟩ (zpreV (va_recv hX.1 hP (ci := 9) (q0 := 0) rfl rfl) hX hP hD hS hA [0, 2] rfl (by decide)) rfl rfl hl.1 rfl (lv_room (Nat.le_of_ble_eq_true rfl)) dX9_flatBox_49 ⟨Nat.le_of_ble_eq_true rfl, Nat.le_of_ble_eq_true rfl⟩) hP hD hS hA [0, 2] [1, 3] rfl rfl (by decide) (by decide) (fun r1351 _ H locs hp hP hD hS => ?_)
              refine W.cs (cells' := 0) (slots' := 0) rfl rfl ?_
              obtain ⟨hq1352, hq1353⟩ : (0 ≤ r1351.toInt ∧ r1351.toInt ≤ 1) ∧ ((r1351.toInt = 0 ∨ (0 ≤ v1171.toInt ∧ v1171.toInt ≤ 16 ∧ h0_hasPart.toInt = 1 ∧ 1 ≤ h0_told_3.toInt))) := hp
              have hP : va_P g.1 vwCl [(h0_flats, .inl (g.2.1.1, 72, .inl f10)), (h0_now, .inl (g.2.1.1, 21, .inl f_h0_now)), (h0, .inr (9, [.ref h0_told, .ref h0_read, .ref h0_now, .ref h0_readNow, .ref h0_kept, .int h0_undone, .int h0_seed, .int h0_hasPart, .ref h0_tape, .int h0_taped, .ref h0_refused, .int h0_faultKind, .int h0_faultPlace, .int h0_size, .int h0_at, .int h0_from, .int h0_wrong, .int h0_wrongAt, .ref h0_ownLetters, .ref h0_flats, .int v9, .ref h0_corner, .ref h0_wayX, .ref h0_wayY, .ref h0_normal, .ref h0_low, .ref h0_high, .ref h0_clear, .ref h0_ways, .ref h0_canBe, .ref h0_lain, .int h0_canTool, .ref h0_fewestBy, .ref h0_sortOf, .int h0_rows, .ref h0_seenFlange, .ref h0_seenLength])), (h0_told, .inl (g.2.1.1, 103, .inl f_h0_told))] H := hP
              have hD : va_D A [(h0_flats, .inl (g.2.1.1, 72, .inl f10)), (h0_now, .inl (g.2.1.1, 21, .inl f_h0_now)), (h0, .inr (9, [.ref h0_told, .ref h0_read, .ref h0_now, .ref h0_readNow, .ref h0_kept, .int h0_undone, .int h0_seed, .int h0_hasPart, .ref h0_tape, .int h0_taped, .ref h0_refused, .int h0_faultKind, .int h0_faultPlace, .int h0_size, .int h0_at, .int h0_from, .int h0_wrong, .int h0_wrongAt, .ref h0_ownLetters, .ref h0_flats, .int v9, .ref h0_corner, .ref h0_wayX, .ref h0_wayY, .ref h0_normal, .ref h0_low, .ref h0_high, .ref h0_clear, .ref h0_ways, .ref h0_canBe, .ref h0_lain, .int h0_canTool, .ref h0_fewestBy, .ref h0_sortOf, .int h0_rows, .ref h0_seenFlange, .ref h0_seenLength])), (h0_told, .inl (g.2.1.1, 103, .inl f_h0_told))] := hD
              have J1437 : ∀  (v1436 : Int32) (H : Heap) (locs : List Loc) (ls : Array Slot), va_P g.1 vwCl [(h0_flats, .inl (g.2.1.1, 72, .inl f10)), (h0_now, .inl (g.2.1.1, 21, .inl f_h0_now)), (h0, .inr (9, [.ref h0_told, .ref h0_read, .ref h0_now, .ref h0_readNow, .ref h0_kept, .int h0_undone, .int h0_seed, .int h0_hasPart, .ref h0_tape, .int h0_taped, .ref h0_refused, .int h0_faultKind, .int h0_faultPlace, .int h0_size, .int h0_at, .int h0_from, .int h0_wrong, .int h0_wrongAt, .ref h0_ownLetters, .ref h0_flats, .int v9, .ref h0_corner, .ref h0_wayX, .ref h0_wayY, .ref h0_normal, .ref h0_low, .ref h0_high, .ref h0_clear, .ref h0_ways, .ref h0_canBe, .ref h0_lain, .int h0_canTool, .ref h0_fewestBy, .ref h0_sortOf, .int h0_rows, .ref h0_seenFlange, .ref h0_seenLength])), (h0_told, .inl (g.2.1.1, 103, .inl f_h0_told))] H → va_D A [(h0_flats, .inl (g.2.1.1, 72, .inl f10)), (h0_now, .inl (g.2.1.1, 21, .inl f_h0_now)), (h0, .inr (9, [.ref h0_told, .ref h0_read, .ref h0_now, .ref h0_readNow, .ref h0_kept, .int h0_undone, .int h0_seed, .int h0_hasPart, .ref h0_tape, .int h0_taped, .ref h0_refused, .int h0_faultKind, .int h0_faultPlace, .int h0_size, .int h0_at, .int h0_from, .int h0_wrong, .int h0_wrongAt, .ref h0_ownLetters, .ref h0_flats, .int v9, .ref h0_corner, .ref h0_wayX, .ref h0_wayY, .ref h0_normal, .ref h0_low, .ref h0_high, .ref h0_clear, .ref h0_ways, .ref h0_canBe, .ref h0_lain, .int h0_canTool, .ref h0_fewestBy, .ref h0_sortOf, .int h0_rows, .ref h0_seenFlange, .ref h0_seenLength])), (h0_told, .inl (g.2.1.1, 103, .inl f_h0_told))] → va_S A s.heap H locs → lv_has ls 4 [(0, .ref h0), (1, .int x1), (2, .int v1436), (3, .int v1171)] → W p l e rm_kX9_flatBox s m args below meth c H locs 0 0 Q (F0 m 147 ls []) := by
                intro v1436 H locs ls  hP hD hS hl
                obtain ⟨z1438, e1439⟩ : ∃ y9 : Int32, y9 = v1171 + 1 := ⟨_, rfl⟩
                have f1440 : z1438.toInt = v1171.toInt + 1 := za e1439 (rfl : v1171.toInt = _) (show (1 : Int32).toInt = (1 : Int) from by decide) (om_451 c1350i i1348)
                refine lv_iinc (v := z1438) (lv' := [(3, .int z1438), (0, .ref h0), (1, .int x1), (2, .int v1436)]) hx hb dX9_flatBox_147 hl (k := 3) rfl (by rw [e1439]; rfl) (by decide) rfl (fun ls hl => ?_)
                refine lv_goto (tgt := 41) hx hb dX9_flatBox_150 (by decide) ?_
                exact ih1347 v1436 z1438 H locs ls (om_452 c1350i f1440 i1348) (zdec hm1349 (om_453 c1350i f1440)) (hP.sub [2, 0, 3, 1] rfl) (hD.sub [2, 0, 3, 1] (by decide) rfl) hS (lv_sub hl [1, 2, 3, 0] rfl)
              refine lv_if_ne (tgt := 58) hx hb dX9_flatBox_52 (by decide) (fun c1441 => ?_) (fun c1441 => ?_)
              · skip
                have c1441i : ¬ (r1351.toInt = (0 : Int)) := fun q => c1441 ((zc_eq (rfl : r1351.toInt = _) (show (0 : Int32).toInt = (0 : Int) from by decide)).mpr q)
                refine lv_iload_n hx hb dX9_flatBox_58 rfl (lv_at hl 1 rfl) ?_
                refine lv_iconst (v := 4) hx hb dX9_flatBox_59 (by decide) ?_
                refine lv_icmp_ne (tgt := 110) hx hb dX9_flatBox_60 (by decide) (fun c1442 => ?_) (fun c1442 => ?_)
                · skip
                  have c1442i : ¬ (x1.toInt = (4 : Int)) := fun q => c1442 ((zc_eq (rfl : x1.toInt = _) (show (4 : Int32).toInt = (4 : Int) from by decide)).mpr q)
                  refine lv_iload_n hx hb dX9_flatBox_110 rfl (lv_at hl 1 rfl) ?_
                  refine lv_iconst (v := 2) hx hb dX9_flatBox_111 (by decide) ?_
                  have J1465 : ∀  (v1464 : Int32) (H : Heap) (locs : List Loc) (ls : Array Slot), va_P g.1 vwCl [(h0_flats, .inl (g.2.1.1, 72, .inl f10)), (h0_now, .inl (g.2.1.1, 21, .inl f_h0_now)), (h0, .inr (9, [.ref h0_told, .ref h0_read, .ref h0_now, .ref h0_readNow, .ref h0_kept, .int h0_undone, .int h0_seed, .int h0_hasPart, .ref h0_tape, .int h0_taped, .ref h0_refused, .int h0_faultKind, .int h0_faultPlace, .int h0_size, .int h0_at, .int h0_from, .int h0_wrong, .int h0_wrongAt, .ref h0_ownLetters, .ref h0_flats, .int v9, .ref h0_corner, .ref h0_wayX, .ref h0_wayY, .ref h0_normal, .ref h0_low, .ref h0_high, .ref h0_clear, .ref h0_ways, .ref h0_canBe, .ref h0_lain, .int h0_canTool, .ref h0_fewestBy, .ref h0_sortOf, .int h0_rows, .ref h0_seenFlange, .ref h0_seenLength])), (h0_told, .inl (g.2.1.1, 103, .inl f_h0_told))] H → va_D A [(h0_flats, .inl (g.2.1.1, 72, .inl f10)), (h0_now, .inl (g.2.1.1, 21, .inl f_h0_now)), (h0, .inr (9, [.ref h0_told, .ref h0_read, .ref h0_now, .ref h0_readNow, .ref h0_kept, .int h0_undone, .int h0_seed, .int h0_hasPart, .ref h0_tape, .int h0_taped, .ref h0_refused, .int h0_faultKind, .int h0_faultPlace, .int h0_size, .int h0_at, .int h0_from, .int h0_wrong, .int h0_wrongAt, .ref h0_ownLetters, .ref h0_flats, .int v9, .ref h0_corner, .ref h0_wayX, .ref h0_wayY, .ref h0_normal, .ref h0_low, .ref h0_high, .ref h0_clear, .ref h0_ways, .ref h0_canBe, .ref h0_lain, .int h0_canTool, .ref h0_fewestBy, .ref h0_sortOf, .int h0_rows, .ref h0_seenFlange, .ref h0_seenLength])), (h0_told, .inl (g.2.1.1, 103, .inl f_h0_told))] → va_S A s.heap H locs → lv_has ls 4 [(0, .ref h0), (1, .int x1), (2, .int v1170), (3, .int v1171)] → W p l e rm_kX9_flatBox s m args below meth c H locs 0 0 Q (F0 m 146 ls [.int v1464]) := by
                    intro v1464 H locs ls  hP hD hS hl
                    refine lv_istore_n (lv' := [(2, .int v1464), (0, .ref h0), (1, .int x1), (3, .int v1171)]) hx hb dX9_flatBox_146 rfl hl (by decide) rfl (fun ls hl => ?_)
                    exact J1437 v1464 H locs ls  hP hD hS (lv_sub hl [1, 2, 0, 3] rfl)
                  refine lv_icmp_ge (tgt := 132) hx hb dX9_flatBox_112 (by decide) (fun c1466 => ?_) (fun c1466 => ?_)
                  · skip
                    have c1466i : (2 : Int) ≤ x1.toInt := (zc_le (show (2 : Int32).toInt = (2 : Int) from by decide) (rfl : x1.toInt = _)).mp c1466
                    refine lv_iload_n hx hb dX9_flatBox_132 rfl (lv_at hl 2 rfl) ?_
                    refine lv_aload_n hx hb dX9_flatBox_133 rfl (lv_at hl 0 rfl) ?_
                    refine va_get (D := g.1) (ci := 9) (v := .ref h0_flats) (C := RX9) (T := TX9) (N := 37) hx hb hG iX9 hown hX.1 hP 2 rfl rfl 19 (by decide) (hG _ wf_X9_69) (fun _ h9 => h9) rfl dX9_flatBox_134 ?_
                    refine lv_iconst (v := 4) hx hb dX9_flatBox_137 (by decide) ?_
                    refine lv_iload_n hx hb dX9_flatBox_138 rfl (lv_at hl 3 rfl) ?_
                    refine lv_imul hx hb dX9_flatBox_139 ?_
                    refine lv_topi (fun z1467 e1468 => ?_)
                    have f1469 : z1467.toInt = (4 : Int) * v1171.toInt := zm e1468 (show (4 : Int32).toInt = (4 : Int) from by decide) (rfl : v1171.toInt = _) (om_454 c1350i i1348)
                    refine lv_iload_n hx hb dX9_flatBox_140 rfl (lv_at hl 1 rfl) ?_
                    refine lv_iadd hx hb dX9_flatBox_141 ?_
                    refine lv_topi (fun z1470 e1471 => ?_)
                    have f1472 : z1470.toInt = z1467.toInt + x1.toInt := za e1471 (rfl : z1467.toInt = _) (rfl : x1.toInt = _) (om_455 c1350i c1466i c6i f1469 hq3 hq4 i1348)
                    refine va_iald hx hb hX.1 hP 0 0 rfl rfl (zin (rfl : z1470.toInt = _) (om_456 c1350i c1466i c6i f1469 f1472 hq3 hq4 i1348)) dX9_flatBox_142 ?_
                    refine lv_topi (fun z1473 e1474 => ?_)
                    refine zfi (wr := [(h0_flats, .inl (g.2.1.1, 72, .inl f10)), (h0_now, .inl (g.2.1.1, 21, .inl f_h0_now)), (h0, .inr (9, [.ref h0_told, .ref h0_read, .ref h0_now, .ref h0_readNow, .ref h0_kept, .int h0_undone, .int h0_seed, .int h0_hasPart, .ref h0_tape, .int h0_taped, .ref h0_refused, .int h0_faultKind, .int h0_faultPlace, .int h0_size, .int h0_at, .int h0_from, .int h0_wrong, .int h0_wrongAt, .ref h0_ownLetters, .ref h0_flats, .int v9, .ref h0_corner, .ref h0_wayX, .ref h0_wayY, .ref h0_normal, .ref h0_low, .ref h0_high, .ref h0_clear, .ref h0_ways, .ref h0_canBe, .ref h0_lain, .int h0_canTool, .ref h0_fewestBy, .ref h0_sortOf, .int h0_rows, .ref h0_seenFlange, .ref h0_seenLength])), (h0_told, .inl (g.2.1.1, 103, .inl f_h0_told))]) (va_runS (As := [.int v1170, .int z1473]) (rest := []) ⟨hx, hb, hml, hown, hG⟩ (kX9_greater l g v1170 z1473 _) ⟨callB_of 2 hG (zGood wc_X9_greater) rfl rfl rfl (hG _ wini_X9) (hG _ wm_X9_184) hX9_greater ⟨Nat.le_of_ble_eq_true rfl, Nat.le_of_ble_eq_true rfl⟩, hG _ ws_X9_greater⟩ (zpreS hX hP hD hS hA [] rfl (by decide)) rfl rfl hl.1 rfl (lv_room (Nat.le_of_ble_eq_true rfl)) dX9_flatBox_143 ⟨Nat.le_of_ble_eq_true rfl, Nat.le_of_ble_eq_true rfl⟩) hP hD hS hA [] [0, 1, 2, 3] rfl rfl (by decide) (by decide) (fun r1475 _ H locs hp hP hD hS => ?_)
                    refine W.cs (cells' := 0) (slots' := 0) rfl rfl ?_
                    have hq1476 : v1170.toInt ≤ r1475.toInt ∧ z1473.toInt ≤ r1475.toInt ∧ (r1475.toInt = v1170.toInt ∨ r1475.toInt = z1473.toInt) := hp
                    have hP : va_P g.1 vwCl [(h0_flats, .inl (g.2.1.1, 72, .inl f10)), (h0_now, .inl (g.2.1.1, 21, .inl f_h0_now)), (h0, .inr (9, [.ref h0_told, .ref h0_read, .ref h0_now, .ref h0_readNow, .ref h0_kept, .int h0_undone, .int h0_seed, .int h0_hasPart, .ref h0_tape, .int h0_taped, .ref h0_refused, .int h0_faultKind, .int h0_faultPlace, .int h0_size, .int h0_at, .int h0_from, .int h0_wrong, .int h0_wrongAt, .ref h0_ownLetters, .ref h0_flats, .int v9, .ref h0_corner, .ref h0_wayX, .ref h0_wayY, .ref h0_normal, .ref h0_low, .ref h0_high, .ref h0_clear, .ref h0_ways, .ref h0_canBe, .ref h0_lain, .int h0_canTool, .ref h0_fewestBy, .ref h0_sortOf, .int h0_rows, .ref h0_seenFlange, .ref h0_seenLength])), (h0_told, .inl (g.2.1.1, 103, .inl f_h0_told))] H := hP
                    have hD : va_D A [(h0_flats, .inl (g.2.1.1, 72, .inl f10)), (h0_now, .inl (g.2.1.1, 21, .inl f_h0_now)), (h0, .inr (9, [.ref h0_told, .ref h0_read, .ref h0_now, .ref h0_readNow, .ref h0_kept, .int h0_undone, .int h0_seed, .int h0_hasPart, .ref h0_tape, .int h0_taped, .ref h0_refused, .int h0_faultKind, .int h0_faultPlace, .int h0_size, .int h0_at, .int h0_from, .int h0_wrong, .int h0_wrongAt, .ref h0_ownLetters, .ref h0_flats, .int v9, .ref h0_corner, .ref h0_wayX, .ref h0_wayY, .ref h0_normal, .ref h0_low, .ref h0_high, .ref h0_clear, .ref h0_ways, .ref h0_canBe, .ref h0_lain, .int h0_canTool, .ref h0_fewestBy, .ref h0_sortOf, .int h0_rows, .ref h0_seenFlange, .ref h0_seenLength])), (h0_told, .inl (g.2.1.1, 103, .inl f_h0_told))] := hD
                    exact J1465 r1475 H locs ls  hP hD hS (lv_sub hl [0, 1, 2, 3] rfl)
                  · skip
                    have c1466i : ¬ ((2 : Int) ≤ x1.toInt) := fun q => c1466 ((zc_le (show (2 : Int32).toInt = (2 : Int) from by decide) (rfl : x1.toInt = _)).mpr q)
                    refine lv_iload_n hx hb dX9_flatBox_115 rfl (lv_at hl 2 rfl) ?_
                    refine lv_aload_n hx hb dX9_flatBox_116 rfl (lv_at hl 0 rfl) ?_
                    refine va_get (D := g.1) (ci := 9) (v := .ref h0_flats) (C := RX9) (T := TX9) (N := 37) hx hb hG iX9 hown hX.1 hP 2 rfl rfl 19 (by decide) (hG _ wf_X9_69) (fun _ h9 => h9) rfl dX9_flatBox_117 ?_
                    refine lv_iconst (v := 4) hx hb dX9_flatBox_120 (by decide) ?_
                    refine lv_iload_n hx hb dX9_flatBox_121 rfl (lv_at hl 3 rfl) ?_
                    refine lv_imul hx hb dX9_flatBox_122 ?_
                    refine lv_topi (fun z1477 e1478 => ?_)
                    have f1479 : z1477.toInt = (4 : Int) * v1171.toInt := zm e1478 (show (4 : Int32).toInt = (4 : Int) from by decide) (rfl : v1171.toInt = _) (om_454 c1350i i1348)
                    refine lv_iload_n hx hb dX9_flatBox_123 rfl (lv_at hl 1 rfl) ?_
                    refine lv_iadd hx hb dX9_flatBox_124 ?_
                    refine lv_topi (fun z1480 e1481 => ?_)
                    have f1482 : z1480.toInt = z1477.toInt + x1.toInt := za e1481 (rfl : z1477.toInt = _) (rfl : x1.toInt = _) (om_457 (zr x1) c1350i c1466i f1479 i1348)
                    refine va_iald hx hb hX.1 hP 0 0 rfl rfl (zin (rfl : z1480.toInt = _) (om_458 c1350i c1466i c6i f1479 f1482 hq3 hq4 i1348)) dX9_flatBox_125 ?_
                    refine lv_topi (fun z1483 e1484 => ?_)
                    refine zfi (wr := [(h0_flats, .inl (g.2.1.1, 72, .inl f10)), (h0_now, .inl (g.2.1.1, 21, .inl f_h0_now)), (h0, .inr (9, [.ref h0_told, .ref h0_read, .ref h0_now, .ref h0_readNow, .ref h0_kept, .int h0_undone, .int h0_seed, .int h0_hasPart, .ref h0_tape, .int h0_taped, .ref h0_refused, .int h0_faultKind, .int h0_faultPlace, .int h0_size, .int h0_at, .int h0_from, .int h0_wrong, .int h0_wrongAt, .ref h0_ownLetters, .ref h0_flats, .int v9, .ref h0_corner, .ref h0_wayX, .ref h0_wayY, .ref h0_normal, .ref h0_low, .ref h0_high, .ref h0_clear, .ref h0_ways, .ref h0_canBe, .ref h0_lain, .int h0_canTool, .ref h0_fewestBy, .ref h0_sortOf, .int h0_rows, .ref h0_seenFlange, .ref h0_seenLength])), (h0_told, .inl (g.2.1.1, 103, .inl f_h0_told))]) (va_runS (As := [.int v1170, .int z1483]) (rest := []) ⟨hx, hb, hml, hown, hG⟩ (kX9_lesser l g v1170 z1483 _) ⟨callB_of 2 hG (zGood wc_X9_lesser) rfl rfl rfl (hG _ wini_X9) (hG _ wm_X9_181) hX9_lesser ⟨Nat.le_of_ble_eq_true rfl, Nat.le_of_ble_eq_true rfl⟩, hG _ ws_X9_lesser⟩ (zpreS hX hP hD hS hA [] rfl (by decide)) rfl rfl hl.1 rfl (lv_room (Nat.le_of_ble_eq_true rfl)) dX9_flatBox_126 ⟨Nat.le_of_ble_eq_true rfl, Nat.le_of_ble_eq_true rfl⟩) hP hD hS hA [] [0, 1, 2, 3] rfl rfl (by decide) (by decide) (fun r1485 _ H locs hp hP hD hS => ?_)
                    refine W.cs (cells' := 0) (slots' := 0) rfl rfl ?_
                    have hq1486 : r1485.toInt ≤ v1170.toInt ∧ r1485.toInt ≤ z1483.toInt ∧ (r1485.toInt = v1170.toInt ∨ r1485.toInt = z1483.toInt) := hp
                    have hP : va_P g.1 vwCl [(h0_flats, .inl (g.2.1.1, 72, .inl f10)), (h0_now, .inl (g.2.1.1, 21, .inl f_h0_now)), (h0, .inr (9, [.ref h0_told, .ref h0_read, .ref h0_now, .ref h0_readNow, .ref h0_kept, .int h0_undone, .int h0_seed, .int h0_hasPart, .ref h0_tape, .int h0_taped, .ref h0_refused, .int h0_faultKind, .int h0_faultPlace, .int h0_size, .int h0_at, .int h0_from, .int h0_wrong, .int h0_wrongAt, .ref h0_ownLetters, .ref h0_flats, .int v9, .ref h0_corner, .ref h0_wayX, .ref h0_wayY, .ref h0_normal, .ref h0_low, .ref h0_high, .ref h0_clear, .ref h0_ways, .ref h0_canBe, .ref h0_lain, .int h0_canTool, .ref h0_fewestBy, .ref h0_sortOf, .int h0_rows, .ref h0_seenFlange, .ref h0_seenLength])), (h0_told, .inl (g.2.1.1, 103, .inl f_h0_told))] H := hP
                    have hD : va_D A [(h0_flats, .inl (g.2.1.1, 72, .inl f10)), (h0_now, .inl (g.2.1.1, 21, .inl f_h0_now)), (h0, .inr (9, [.ref h0_told, .ref h0_read, .ref h0_now, .ref h0_readNow, .ref h0_kept, .int h0_undone, .int h0_seed, .int h0_hasPart, .ref h0_tape, .int h0_taped, .ref h0_refused, .int h0_faultKind, .int h0_faultPlace, .int h0_size, .int h0_at, .int h0_from, .int h0_wrong, .int h0_wrongAt, .ref h0_ownLetters, .ref h0_flats, .int v9, .ref h0_corner, .ref h0_wayX, .ref h0_wayY, .ref h0_normal, .ref h0_low, .ref h0_high, .ref h0_clear, .ref h0_ways, .ref h0_canBe, .ref h0_lain, .int h0_canTool, .ref h0_fewestBy, .ref h0_sortOf, .int h0_rows, .ref h0_seenFlange, .ref h0_seenLength])), (h0_told, .inl (g.2.1.1, 103, .inl f_h0_told))] := hD
                    refine lv_goto (tgt := 146) hx hb dX9_flatBox_129 (by decide) ?_
                    exact J1465 r1485 H locs ls  hP hD hS (lv_sub hl [0, 1, 2, 3] rfl)
                · skip
                  have c1442i : x1.toInt = (4 : Int) := (zc_eq (rfl : x1.toInt = _) (show (4 : Int32).toInt = (4 : Int) from by decide)).mp c1442
                  refine lv_iload_n hx hb dX9_flatBox_63 rfl (lv_at hl 2 rfl) ?_
                  refine lv_aload_n hx hb dX9_flatBox_64 rfl (lv_at hl 0 rfl) ?_
                  refine va_get (D := g.1) (ci := 9) (v := .ref h0_flats) (C := RX9) (T := TX9) (N := 37) hx hb hG iX9 hown hX.1 hP 2 rfl rfl 19 (by decide) (hG _ wf_X9_69) (fun _ h9 => h9) rfl dX9_flatBox_65 ?_
                  refine lv_iconst (v := 4) hx hb dX9_flatBox_68 (by decide) ?_
                  refine lv_iload_n hx hb dX9_flatBox_69 rfl (lv_at hl 3 rfl) ?_
                  refine lv_imul hx hb dX9_flatBox_70 ?_
                  refine lv_topi (fun z1487 e1488 => ?_)
                  have f1489 : z1487.toInt = (4 : Int) * v1171.toInt := zm e1488 (show (4 : Int32).toInt = (4 : Int) from by decide) (rfl : v1171.toInt = _) (om_454 c1350i i1348)
                  refine lv_iconst (v := 2) hx hb dX9_flatBox_71 (by decide) ?_
                  refine lv_iadd hx hb dX9_flatBox_72 ?_
                  refine lv_topi (fun z1490 e1491 => ?_)
                  have f1492 : z1490.toInt = z1487.toInt + (2 : Int) := za e1491 (rfl : z1487.toInt = _) (show (2 : Int32).toInt = (2 : Int) from by decide) (om_459 c1350i f1489 i1348)
                  refine va_iald hx hb hX.1 hP 0 0 rfl rfl (zin (rfl : z1490.toInt = _) (om_460 c1350i f1489 f1492 i1348)) dX9_flatBox_73 ?_
                  refine lv_topi (fun z1493 e1494 => ?_)
                  refine lv_aload_n hx hb dX9_flatBox_74 rfl (lv_at hl 0 rfl) ?_
                  refine va_get (D := g.1) (ci := 9) (v := .ref h0_flats) (C := RX9) (T := TX9) (N := 37) hx hb hG iX9 hown hX.1 hP 2 rfl rfl 19 (by decide) (hG _ wf_X9_69) (fun _ h9 => h9) rfl dX9_flatBox_75 ?_
                  refine lv_iconst (v := 4) hx hb dX9_flatBox_78 (by decide) ?_
                  refine lv_iload_n hx hb dX9_flatBox_79 rfl (lv_at hl 3 rfl) ?_
                  refine lv_imul hx hb dX9_flatBox_80 ?_
                  refine lv_topi (fun z1495 e1496 => ?_)
                  have f1497 : z1495.toInt = (4 : Int) * v1171.toInt := zm e1496 (show (4 : Int32).toInt = (4 : Int) from by decide) (rfl : v1171.toInt = _) (om_454 c1350i i1348)
                  refine va_iald hx hb hX.1 hP 0 0 rfl rfl (zin (rfl : z1495.toInt = _) (om_461 c1350i f1497 i1348)) dX9_flatBox_81 ?_
                  refine lv_topi (fun z1498 e1499 => ?_)
                  refine lv_isub hx hb dX9_flatBox_82 ?_
                  refine lv_topi (fun z1500 e1501 => ?_)
                  refine lv_aload_n hx hb dX9_flatBox_83 rfl (lv_at hl 0 rfl) ?_
                  refine va_get (D := g.1) (ci := 9) (v := .ref h0_flats) (C := RX9) (T := TX9) (N := 37) hx hb hG iX9 hown hX.1 hP 2 rfl rfl 19 (by decide) (hG _ wf_X9_69) (fun _ h9 => h9) rfl dX9_flatBox_84 ?_
                  refine lv_iconst (v := 4) hx hb dX9_flatBox_87 (by decide) ?_
                  refine lv_iload_n hx hb dX9_flatBox_88 rfl (lv_at hl 3 rfl) ?_
                  refine lv_imul hx hb dX9_flatBox_89 ?_
                  refine lv_topi (fun z1502 e1503 => ?_)
                  have f1504 : z1502.toInt = (4 : Int) * v1171.toInt := zm e1503 (show (4 : Int32).toInt = (4 : Int) from by decide) (rfl : v1171.toInt = _) (om_454 c1350i i1348)
                  refine lv_iconst (v := 3) hx hb dX9_flatBox_90 (by decide) ?_
                  refine lv_iadd hx hb dX9_flatBox_91 ?_
                  refine lv_topi (fun z1505 e1506 => ?_)
                  have f1507 : z1505.toInt = z1502.toInt + (3 : Int) := za e1506 (rfl : z1502.toInt = _) (show (3 : Int32).toInt = (3 : Int) from by decide) (om_462 c1350i f1504 i1348)
                  refine va_iald hx hb hX.1 hP 0 0 rfl rfl (zin (rfl : z1505.toInt = _) (om_463 c1350i f1504 f1507 i1348)) dX9_flatBox_92 ?_
                  refine lv_topi (fun z1508 e1509 => ?_)
                  refine lv_aload_n hx hb dX9_flatBox_93 rfl (lv_at hl 0 rfl) ?_
                  refine va_get (D := g.1) (ci := 9) (v := .ref h0_flats) (C := RX9) (T := TX9) (N := 37) hx hb hG iX9 hown hX.1 hP 2 rfl rfl 19 (by decide) (hG _ wf_X9_69) (fun _ h9 => h9) rfl dX9_flatBox_94 ?_
                  refine lv_iconst (v := 4) hx hb dX9_flatBox_97 (by decide) ?_
                  refine lv_iload_n hx hb dX9_flatBox_98 rfl (lv_at hl 3 rfl) ?_
                  refine lv_imul hx hb dX9_flatBox_99 ?_
                  refine lv_topi (fun z1510 e1511 => ?_)
                  have f1512 : z1510.toInt = (4 : Int) * v1171.toInt := zm e1511 (show (4 : Int32).toInt = (4 : Int) from by decide) (rfl : v1171.toInt = _) (om_454 c1350i i1348)
                  refine lv_iconst (v := 1) hx hb dX9_flatBox_100 (by decide) ?_
                  refine lv_iadd hx hb dX9_flatBox_101 ?_
                  refine lv_topi (fun z1513 e1514 => ?_)
                  have f1515 : z1513.toInt = z1510.toInt + (1 : Int) := za e1514 (rfl : z1510.toInt = _) (show (1 : Int32).toInt = (1 : Int) from by decide) (om_464 c1350i f1512 i1348)
                  refine va_iald hx hb hX.1 hP 0 0 rfl rfl (zin (rfl : z1513.toInt = _) (om_465 c1350i f1512 f1515 i1348)) dX9_flatBox_102 ?_
                  refine lv_topi (fun z1516 e1517 => ?_)
                  refine lv_isub hx hb dX9_flatBox_103 ?_
                  refine lv_topi (fun z1518 e1519 => ?_)
                  refine lv_imul hx hb dX9_flatBox_104 ?_
                  refine lv_topi (fun z1520 e1521 => ?_)
                  refine lv_iadd hx hb dX9_flatBox_105 ?_
                  refine lv_topi (fun z1522 e1523 => ?_)
                  refine lv_istore_n (lv' := [(2, .int z1522), (0, .ref h0), (1, .int x1), (3, .int v1171)]) hx hb dX9_flatBox_106 rfl hl (by decide) rfl (fun ls hl => ?_)
                  refine lv_goto (tgt := 147) hx hb dX9_flatBox_107 (by decide) ?_
                  exact J1437 z1522 H locs ls  hP hD hS (lv_sub hl [1, 2, 0, 3] rfl)
              · skip
                have c1441i : r1351.toInt = (0 : Int) := (zc_eq (rfl : r1351.toInt = _) (show (0 : Int32).toInt = (0 : Int) from by decide)).mp c1441
                refine lv_goto (tgt := 147) hx hb dX9_flatBox_55 (by decide) ?_
                exact J1437 v1170 H locs ls  hP hD hS (lv_sub hl [0, 1, 2, 3] rfl)
        exact L1345 _ v15 (0 : Int32) H locs ls ((show 0 ≤ (0 : Int) ∧ (0 : Int) ≤ 17 from by decide)) (Nat.lt_succ_self _) hP hD hS (lv_sub hl [2, 3, 1, 0] rfl)
      refine lv_icmp_ne (tgt := 32) hx hb dX9_flatBox_25 (by decide) (fun c1524 => ?_) (fun c1524 => ?_)
      · skip
        have c1524i : ¬ (x1.toInt = (4 : Int)) := fun q => c1524 ((zc_eq (rfl : x1.toInt = _) (show (4 : Int32).toInt = (4 : Int) from by decide)).mpr q)
        refine lv_aload_n hx hb dX9_flatBox_32 rfl (lv_at hl 0 rfl) ?_
        refine va_get (D := g.1) (ci := 9) (v := .ref h0_flats) (C := RX9) (T := TX9) (N := 37) hx hb hG iX9 hown hX.1 hP 0 rfl rfl 19 (by decide) (hG _ wf_X9_69) (fun _ h9 => h9) rfl dX9_flatBox_33 ?_
        refine lv_iload_n hx hb dX9_flatBox_36 rfl (lv_at hl 1 rfl) ?_
        refine va_iald hx hb hX.1 hP 1 0 rfl rfl (zin (rfl : x1.toInt = _) (om_466 c1524i c6i hq3 hq4)) dX9_flatBox_37 ?_
        refine lv_topi (fun z1525 e1526 => ?_)
        exact J16 z1525 H locs ls  hP hD hS (lv_sub hl [0, 1] rfl)
      · skip
        have c1524i : x1.toInt = (4 : Int) := (zc_eq (rfl : x1.toInt = _) (show (4 : Int32).toInt = (4 : Int) from by decide)).mp c1524
        refine lv_iconst (v := 0) hx hb dX9_flatBox_28 (by decide) ?_
        refine lv_goto (tgt := 38) hx hb dX9_flatBox_29 (by decide) ?_
        exact J16 (0 : Int32) H locs ls  hP hD hS (lv_sub hl [0, 1] rfl)
    · skip
      have c6i : r2.toInt = (0 : Int) := (zc_eq (rfl : r2.toInt = _) (show (0 : Int32).toInt = (0 : Int) from by decide)).mp c6
      refine lv_ldc (v := (-1000000)) hx hb hown (hG _ wk_X9_254) dX9_flatBox_16 ?_
      exact hret (-1000000 : Int32) (h0_isLaid, f_h0_flats) (Nat.le_of_ble_eq_true rfl) (Nat.le_of_ble_eq_true rfl) rfl (om_29 hy9) hP hD hS dX9_flatBox_18
theorem dX9_doOverlap_0 : decode cX9_doOverlap 0 = .ok (.iconst 1, 1) := by decide +kernel
theorem dX9_doOverlap_1 : decode cX9_doOverlap 1 = .ok (.istore_n 3, 1) := by decide +kernel
theorem dX9_doOverlap_2 : decode cX9_doOverlap 2 = .ok (.iconst 0, 1) := by decide +kernel
theorem dX9_doOverlap_3 : decode cX9_doOverlap 3 = .ok (.istore 4, 2) := by decide +kernel
theorem dX9_doOverlap_5 : decode cX9_doOverlap 5 = .ok (.iload 4, 2) := by decide +kernel
theorem dX9_doOverlap_7 : decode cX9_doOverlap 7 = .ok (.iconst 2, 1) := by decide +kernel
theorem dX9_doOverlap_8 : decode cX9_doOverlap 8 = .ok (.if_icmp .ge 76, 3) := by decide +kernel
theorem dX9_doOverlap_84 : decode cX9_doOverlap 84 = .ok (.iload_n 3, 1) := by decide +kernel
theorem dX9_doOverlap_85 : decode cX9_doOverlap 85 = .ok (.ireturn, 1) := by decide +kernel
theorem dX9_doOverlap_11 : decode cX9_doOverlap 11 = .ok (.iload_n 3, 1) := by decide +kernel
theorem dX9_doOverlap_77 : decode cX9_doOverlap 77 = .ok (.istore_n 3, 1) := by decide +kernel
theorem dX9_doOverlap_78 : decode cX9_doOverlap 78 = .ok (.iinc 4 1, 3) := by decide +kernel
theorem dX9_doOverlap_81 : decode cX9_doOverlap 81 = .ok (.goto (-76), 3) := by decide +kernel
theorem dX9_doOverlap_76 : decode cX9_doOverlap 76 = .ok (.iconst 0, 1) := by decide +kernel
theorem dX9_doOverlap_12 : decode cX9_doOverlap 12 = .ok (.ifCond .eq 64, 3) := by decide +kernel
theorem dX9_doOverlap_15 : decode cX9_doOverlap 15 = .ok (.aload_n 0, 1) := by decide +kernel
theorem dX9_doOverlap_16 : decode cX9_doOverlap 16 = .ok (.getfield 69, 3) := by decide +kernel
theorem dX9_doOverlap_19 : decode cX9_doOverlap 19 = .ok (.iconst 4, 1) := by decide +kernel
theorem dX9_doOverlap_20 : decode cX9_doOverlap 20 = .ok (.iload_n 1, 1) := by decide +kernel
theorem dX9_doOverlap_21 : decode cX9_doOverlap 21 = .ok (.imul, 1) := by decide +kernel
theorem dX9_doOverlap_22 : decode cX9_doOverlap 22 = .ok (.iconst 2, 1) := by decide +kernel
theorem dX9_doOverlap_23 : decode cX9_doOverlap 23 = .ok (.iadd, 1) := by decide +kernel
theorem dX9_doOverlap_24 : decode cX9_doOverlap 24 = .ok (.iload 4, 2) := by decide +kernel
theorem dX9_doOverlap_26 : decode cX9_doOverlap 26 = .ok (.iadd, 1) := by decide +kernel
theorem dX9_doOverlap_27 : decode cX9_doOverlap 27 = .ok (.iaload, 1) := by decide +kernel
theorem dX9_doOverlap_28 : decode cX9_doOverlap 28 = .ok (.aload_n 0, 1) := by decide +kernel
theorem dX9_doOverlap_29 : decode cX9_doOverlap 29 = .ok (.getfield 69, 3) := by decide +kernel
theorem dX9_doOverlap_32 : decode cX9_doOverlap 32 = .ok (.iconst 4, 1) := by decide +kernel
theorem dX9_doOverlap_33 : decode cX9_doOverlap 33 = .ok (.iload_n 2, 1) := by decide +kernel
theorem dX9_doOverlap_34 : decode cX9_doOverlap 34 = .ok (.imul, 1) := by decide +kernel
theorem dX9_doOverlap_35 : decode cX9_doOverlap 35 = .ok (.iconst 2, 1) := by decide +kernel
theorem dX9_doOverlap_36 : decode cX9_doOverlap 36 = .ok (.iadd, 1) := by decide +kernel
theorem dX9_doOverlap_37 : decode cX9_doOverlap 37 = .ok (.iload 4, 2) := by decide +kernel
theorem dX9_doOverlap_39 : decode cX9_doOverlap 39 = .ok (.iadd, 1) := by decide +kernel
theorem dX9_doOverlap_40 : decode cX9_doOverlap 40 = .ok (.iaload, 1) := by decide +kernel
theorem dX9_doOverlap_41 : decode cX9_doOverlap 41 = .ok (.invokestatic 181, 3) := by decide +kernel
theorem dX9_doOverlap_44 : decode cX9_doOverlap 44 = .ok (.aload_n 0, 1) := by decide +kernel
theorem dX9_doOverlap_45 : decode cX9_doOverlap 45 = .ok (.getfield 69, 3) := by decide +kernel
theorem dX9_doOverlap_48 : decode cX9_doOverlap 48 = .ok (.iconst 4, 1) := by decide +kernel
theorem dX9_doOverlap_49 : decode cX9_doOverlap 49 = .ok (.iload_n 1, 1) := by decide +kernel
theorem dX9_doOverlap_50 : decode cX9_doOverlap 50 = .ok (.imul, 1) := by decide +kernel
theorem dX9_doOverlap_51 : decode cX9_doOverlap 51 = .ok (.iload 4, 2) := by decide +kernel
theorem dX9_doOverlap_53 : decode cX9_doOverlap 53 = .ok (.iadd, 1) := by decide +kernel
theorem dX9_doOverlap_54 : decode cX9_doOverlap 54 = .ok (.iaload, 1) := by decide +kernel
theorem dX9_doOverlap_55 : decode cX9_doOverlap 55 = .ok (.aload_n 0, 1) := by decide +kernel
theorem dX9_doOverlap_56 : decode cX9_doOverlap 56 = .ok (.getfield 69, 3) := by decide +kernel
theorem dX9_doOverlap_59 : decode cX9_doOverlap 59 = .ok (.iconst 4, 1) := by decide +kernel
theorem dX9_doOverlap_60 : decode cX9_doOverlap 60 = .ok (.iload_n 2, 1) := by decide +kernel
theorem dX9_doOverlap_61 : decode cX9_doOverlap 61 = .ok (.imul, 1) := by decide +kernel
theorem dX9_doOverlap_62 : decode cX9_doOverlap 62 = .ok (.iload 4, 2) := by decide +kernel
theorem dX9_doOverlap_64 : decode cX9_doOverlap 64 = .ok (.iadd, 1) := by decide +kernel
theorem dX9_doOverlap_65 : decode cX9_doOverlap 65 = .ok (.iaload, 1) := by decide +kernel
theorem dX9_doOverlap_66 : decode cX9_doOverlap 66 = .ok (.invokestatic 184, 3) := by decide +kernel
theorem dX9_doOverlap_69 : decode cX9_doOverlap 69 = .ok (.if_icmp .le 7, 3) := by decide +kernel
theorem dX9_doOverlap_72 : decode cX9_doOverlap 72 = .ok (.iconst 1, 1) := by decide +kernel
theorem dX9_doOverlap_73 : decode cX9_doOverlap 73 = .ok (.goto 4, 3) := by decide +kernel
abbrev rm_kX9_doOverlap : Room := { frames := 1, cells := 0, slots := 0, locals := 21 }
set_option maxHeartbeats 4000000 in
set_option maxRecDepth 100000 in
theorem kX9_doOverlap (l : Launch) (g : zL) (h0 : Nat) (x1 : Int32) (x2 : Int32) (h0_told : Nat) (h0_read : Nat) (h0_now : Nat) (h0_readNow : Nat) (h0_kept : Nat) (h0_undone : Int32) (h0_seed : Int32) (h0_hasPart : Int32) (h0_tape : Nat) (h0_taped : Int32) (h0_refused : Nat) (h0_faultKind : Int32) (h0_faultPlace : Int32) (h0_size : Int32) (h0_at : Int32) (h0_from : Int32) (h0_wrong : Int32) (h0_wrongAt : Int32) (h0_ownLetters : Nat) (h0_flats : Nat) (h0_isLaid : Int32) (h0_corner : Nat) (h0_wayX : Nat) (h0_wayY : Nat) (h0_normal : Nat) (h0_low : Nat) (h0_high : Nat) (h0_clear : Nat) (h0_ways : Nat) (h0_canBe : Nat) (h0_lain : Nat) (h0_canTool : Int32) (h0_fewestBy : Nat) (h0_sortOf : Nat) (h0_rows : Int32) (h0_seenFlange : Nat) (h0_seenLength : Nat) (f_h0_flats : Nat → Int32) (hy0 : 0 ≤ x1.toInt ∧ x1.toInt ≤ 16) (hy1 : 0 ≤ x2.toInt ∧ x2.toInt ≤ 16) (hy2 : 0 ≤ h0_undone.toInt ∧ h0_undone.toInt ≤ 20) (hy3 : 0 ≤ h0_seed.toInt ∧ h0_seed.toInt ≤ 2147483647) (hy4 : 0 ≤ h0_hasPart.toInt ∧ h0_hasPart.toInt ≤ 1) (hy5 : 0 ≤ h0_taped.toInt ∧ h0_taped.toInt ≤ 1200) (hy6 : 0 ≤ h0_faultKind.toInt ∧ h0_faultKind.toInt ≤ 5) (hy7 : 0 ≤ h0_size.toInt ∧ h0_size.toInt ≤ 1200) (hy8 : 0 ≤ h0_at.toInt ∧ h0_at.toInt ≤ 1200) (hy9 : 0 ≤ h0_from.toInt ∧ h0_from.toInt ≤ 1200) (hy10 : 0 ≤ h0_wrong.toInt ∧ h0_wrong.toInt ≤ 5) (hy11 : 0 ≤ h0_isLaid.toInt ∧ h0_isLaid.toInt ≤ 1) (hy12 : 0 ≤ h0_canTool.toInt ∧ h0_canTool.toInt ≤ 255) (hy13 : 0 ≤ h0_rows.toInt ∧ h0_rows.toInt ≤ 8) : zCi l g yX9_doOverlap cX9_doOverlap 5 (some .boolean) rm_kX9_doOverlap [.ref h0, .int x1, .int x2] [(h0, .inr (9, [.ref h0_told, .ref h0_read, .ref h0_now, .ref h0_readNow, .ref h0_kept, .int h0_undone, .int h0_seed, .int h0_hasPart, .ref h0_tape, .int h0_taped, .ref h0_refused, .int h0_faultKind, .int h0_faultPlace, .int h0_size, .int h0_at, .int h0_from, .int h0_wrong, .int h0_wrongAt, .ref h0_ownLetters, .ref h0_flats, .int h0_isLaid, .ref h0_corner, .ref h0_wayX, .ref h0_wayY, .ref h0_normal, .ref h0_low, .ref h0_high, .ref h0_clear, .ref h0_ways, .ref h0_canBe, .ref h0_lain, .int h0_canTool, .ref h0_fewestBy, .ref h0_sortOf, .int h0_rows, .ref h0_seenFlange, .ref h0_seenLength])), (h0_flats, .inl (g.2.1.1, 72, .inl f_h0_flats))] (fun (r : Int32) (u : Unit) => (0 ≤ r.toInt ∧ r.toInt ≤ 1)) (fun (u : Unit) => [(h0, .inr (9, [.ref h0_told, .ref h0_read, .ref h0_now, .ref h0_readNow, .ref h0_kept, .int h0_undone, .int h0_seed, .int h0_hasPart, .ref h0_tape, .int h0_taped, .ref h0_refused, .int h0_faultKind, .int h0_faultPlace, .int h0_size, .int h0_at, .int h0_from, .int h0_wrong, .int h0_wrongAt, .ref h0_ownLetters, .ref h0_flats, .int h0_isLaid, .ref h0_corner, .ref h0_wayX, .ref h0_wayY, .ref h0_normal, .ref h0_low, .ref h0_high, .ref h0_clear, .ref h0_ways, .ref h0_canBe, .ref h0_lain, .int h0_canTool, .ref h0_fewestBy, .ref h0_sortOf, .int h0_rows, .ref h0_seenFlange, .ref h0_seenLength])), (h0_flats, .inl (g.2.1.1, 72, .inl f_h0_flats))]) := by
  refine zCi.mk2 (by decide) (Nat.le_of_ble_eq_true rfl) ?_
  intro p e s m below meth c A args Q hE hret hP hD hS ls hl
  obtain ⟨hx, hb, hr, hml, hown, hG, hlocks, hnm, hX, hA⟩ := hE
  have hown : s.vm.findClass RX9 = some m.cls := hown
  have hl : lv_has ls 5 [(0, .ref h0), (1, .int x1), (2, .int x2)] := hl
  refine lv_iconst (v := 1) hx hb dX9_doOverlap_0 (by decide) ?_
  refine lv_istore_n (lv' := [(3, .int 1), (0, .ref h0), (1, .int x1), (2, .int x2)]) hx hb dX9_doOverlap_1 rfl hl (by decide) rfl (fun ls hl => ?_)
  refine lv_iconst (v := 0) hx hb dX9_doOverlap_2 (by decide) ?_
  refine lv_istore (lv' := [(4, .int 0), (3, .int 1), (0, .ref h0), (1, .int x1), (2, .int x2)]) hx hb dX9_doOverlap_3 hl (by decide) rfl (fun ls hl => ?_)
  have L562 : ∀ (n : Nat) (v420 : Int32) (v421 : Int32) (H : Heap) (locs : List Loc) (ls : Array Slot), 0 ≤ v420.toInt ∧ v420.toInt ≤ 1 → 0 ≤ v421.toInt ∧ v421.toInt ≤ 2 → (3 - v421.toInt).toNat < n → va_P g.1 vwCl [(h0, .inr (9, [.ref h0_told, .ref h0_read, .ref h0_now, .ref h0_readNow, .ref h0_kept, .int h0_undone, .int h0_seed, .int h0_hasPart, .ref h0_tape, .int h0_taped, .ref h0_refused, .int h0_faultKind, .int h0_faultPlace, .int h0_size, .int h0_at, .int h0_from, .int h0_wrong, .int h0_wrongAt, .ref h0_ownLetters, .ref h0_flats, .int h0_isLaid, .ref h0_corner, .ref h0_wayX, .ref h0_wayY, .ref h0_normal, .ref h0_low, .ref h0_high, .ref h0_clear, .ref h0_ways, .ref h0_canBe, .ref h0_lain, .int h0_canTool, .ref h0_fewestBy, .ref h0_sortOf, .int h0_rows, .ref h0_seenFlange, .ref h0_seenLength])), (h0_flats, .inl (g.2.1.1, 72, .inl f_h0_flats))] H → va_D A [(h0, .inr (9, [.ref h0_told, .ref h0_read, .ref h0_now, .ref h0_readNow, .ref h0_kept, .int h0_undone, .int h0_seed, .int h0_hasPart, .ref h0_tape, .int h0_taped, .ref h0_refused, .int h0_faultKind, .int h0_faultPlace, .int h0_size, .int h0_at, .int h0_from, .int h0_wrong, .int h0_wrongAt, .ref h0_ownLetters, .ref h0_flats, .int h0_isLaid, .ref h0_corner, .ref h0_wayX, .ref h0_wayY, .ref h0_normal, .ref h0_low, .ref h0_high, .ref h0_clear, .ref h0_ways, .ref h0_canBe, .ref h0_lain, .int h0_canTool, .ref h0_fewestBy, .ref h0_sortOf, .int h0_rows, .ref h0_seenFlange, .ref h0_seenLength])), (h0_flats, .inl (g.2.1.1, 72, .inl f_h0_flats))] → va_S A s.heap H locs → lv_has ls 5 [(0, .ref h0), (1, .int x1), (2, .int x2), (3, .int v420), (4, .int v421)] → W p l e rm_kX9_doOverlap s m args below meth c H locs 0 0 Q (F0 m 5 ls []) := by
    intro n563
    induction n563 with
    | zero => intro v420 v421 H locs ls i565 i566 hm567; exact absurd hm567 (Nat.not_lt_zero _)
    | succ n563 ih564 =>
      intro v420 v421 H locs ls i565 i566 hm567 hP hD hS hl
      refine lv_iload hx hb dX9_doOverlap_5 (lv_at hl 4 rfl) ?_
      refine lv_iconst (v := 2) hx hb dX9_doOverlap_7 (by decide) ?_
      refine lv_icmp_ge (tgt := 84) hx hb dX9_doOverlap_8 (by decide) (fun c568 => ?_) (fun c568 => ?_)
      · skip
        have c568i : (2 : Int) ≤ v421.toInt := (zc_le (show (2 : Int32).toInt = (2 : Int) from by decide) (rfl : v421.toInt = _)).mp c568
        refine lv_iload_n hx hb dX9_doOverlap_84 rfl (lv_at hl 3 rfl) ?_
        exact hret v420 () (Nat.le_of_ble_eq_true rfl) (Nat.le_of_ble_eq_true rfl) (z01 (rfl : v420.toInt = _) (om_29 i565)) (om_29 i565) hP hD hS dX9_doOverlap_85
      · skip
        have c568i : ¬ ((2 : Int) ≤ v421.toInt) := fun q => c568 ((zc_le (show (2 : Int32).toInt = (2 : Int) from by decide) (rfl : v421.toInt = _)).mpr q)
        refine lv_iload_n hx hb dX9_doOverlap_11 rfl (lv_at hl 3 rfl) ?_
        have J614 : ∀  (v613 : Int32) (H : Heap) (locs : List Loc) (ls : Array Slot), 0 ≤ v613.toInt ∧ v613.toInt ≤ 1 → va_P g.1 vwCl [(h0, .inr (9, [.ref h0_told, .ref h0_read, .ref h0_now, .ref h0_readNow, .ref h0_kept, .int h0_undone, .int h0_seed, .int h0_hasPart, .ref h0_tape, .int h0_taped, .ref h0_refused, .int h0_faultKind, .int h0_faultPlace, .int h0_size, .int h0_at, .int h0_from, .int h0_wrong, .int h0_wrongAt, .ref h0_ownLetters, .ref h0_flats, .int h0_isLaid, .ref h0_corner, .ref h0_wayX, .ref h0_wayY, .ref h0_normal, .ref h0_low, .ref h0_high, .ref h0_clear, .ref h0_ways, .ref h0_canBe, .ref h0_lain, .int h0_canTool, .ref h0_fewestBy, .ref h0_sortOf, .int h0_rows, .ref h0_seenFlange, .ref h0_seenLength])), (h0_flats, .inl (g.2.1.1, 72, .inl f_h0_flats))] H → va_D A [(h0, .inr (9, [.ref h0_told, .ref h0_read, .ref h0_now, .ref h0_readNow, .ref h0_kept, .int h0_undone, .int h0_seed, .int h0_hasPart, .ref h0_tape, .int h0_taped, .ref h0_refused, .int h0_faultKind, .int h0_faultPlace, .int h0_size, .int h0_at, .int h0_from, .int h0_wrong, .int h0_wrongAt, .ref h0_ownLetters, .ref h0_flats, .int h0_isLaid, .ref h0_corner, .ref h0_wayX, .ref h0_wayY, .ref h0_normal, .ref h0_low, .ref h0_high, .ref h0_clear, .ref h0_ways, .ref h0_canBe, .ref h0_lain, .int h0_canTool, .ref h0_fewestBy, .ref h0_sortOf, .int h0_rows, .ref h0_seenFlange, .ref h0_seenLength])), (h0_flats, .inl (g.2.1.1, 72, .inl f_h0_flats))] → va_S A s.heap H locs → lv_has ls 5 [(0, .ref h0), (1, .int x1), (2, .int x2), (3, .int v420), (4, .int v421)] → W p l e rm_kX9_doOverlap s m args below meth c H locs 0 0 Q (F0 m 77 ls [.int v613]) := by
          intro v613 H locs ls i615 hP hD hS hl
          refine lv_istore_n (lv' := [(3, .int v613), (0, .ref h0), (1, .int x1), (2, .int x2), (4, .int v421)]) hx hb dX9_doOverlap_77 rfl hl (by decide) rfl (fun ls hl => ?_)
          obtain ⟨z616, e617⟩ : ∃ y9 : Int32, y9 = v421 + 1 := ⟨_, rfl⟩
          have f618 : z616.toInt = v421.toInt + 1 := za e617 (rfl : v421.toInt = _) (show (1 : Int32).toInt = (1 : Int) from by decide) (om_467 c568i i566)
          refine lv_iinc (v := z616) (lv' := [(4, .int z616), (3, .int v613), (0, .ref h0), (1, .int x1), (2, .int x2)]) hx hb dX9_doOverlap_78 hl (k := 4) rfl (by rw [e617]; rfl) (by decide) rfl (fun ls hl => ?_)
          refine lv_goto (tgt := 5) hx hb dX9_doOverlap_81 (by decide) ?_
          exact ih564 v613 z616 H locs ls (om_29 i615) (om_468 c568i f618 i566) (zdec hm567 (om_469 c568i f618)) hP hD hS (lv_sub hl [2, 3, 4, 1, 0] rfl)
        have J663 : ∀  (H : Heap) (locs : List Loc) (ls : Array Slot), va_P g.1 vwCl [(h0, .inr (9, [.ref h0_told, .ref h0_read, .ref h0_now, .ref h0_readNow, .ref h0_kept, .int h0_undone, .int h0_seed, .int h0_hasPart, .ref h0_tape, .int h0_taped, .ref h0_refused, .int h0_faultKind, .int h0_faultPlace, .int h0_size, .int h0_at, .int h0_from, .int h0_wrong, .int h0_wrongAt, .ref h0_ownLetters, .ref h0_flats, .int h0_isLaid, .ref h0_corner, .ref h0_wayX, .ref h0_wayY, .ref h0_normal, .ref h0_low, .ref h0_high, .ref h0_clear, .ref h0_ways, .ref h0_canBe, .ref h0_lain, .int h0_canTool, .ref h0_fewestBy, .ref h0_sortOf, .int h0_rows, .ref h0_seenFlange, .ref h0_seenLength])), (h0_flats, .inl (g.2.1.1, 72, .inl f_h0_flats))] H → va_D A [(h0, .inr (9, [.ref h0_told, .ref h0_read, .ref h0_now, .ref h0_readNow, .ref h0_kept, .int h0_undone, .int h0_seed, .int h0_hasPart, .ref h0_tape, .int h0_taped, .ref h0_refused, .int h0_faultKind, .int h0_faultPlace, .int h0_size, .int h0_at, .int h0_from, .int h0_wrong, .int h0_wrongAt, .ref h0_ownLetters, .ref h0_flats, .int h0_isLaid, .ref h0_corner, .ref h0_wayX, .ref h0_wayY, .ref h0_normal, .ref h0_low, .ref h0_high, .ref h0_clear, .ref h0_ways, .ref h0_canBe, .ref h0_lain, .int h0_canTool, .ref h0_fewestBy, .ref h0_sortOf, .int h0_rows, .ref h0_seenFlange, .ref h0_seenLength])), (h0_flats, .inl (g.2.1.1, 72, .inl f_h0_flats))] → va_S A s.heap H locs → lv_has ls 5 [(0, .ref h0), (1, .int x1), (2, .int x2), (3, .int v420), (4, .int v421)] → W p l e rm_kX9_doOverlap s m args below meth c H locs 0 0 Q (F0 m 76 ls []) := by
          intro  H locs ls  hP hD hS hl
          refine lv_iconst (v := 0) hx hb dX9_doOverlap_76 (by decide) ?_
          exact J614 (0 : Int32) H locs ls ((show 0 ≤ (0 : Int) ∧ (0 : Int) ≤ 1 from by decide)) hP hD hS (lv_sub hl [0, 1, 2, 3, 4] rfl)
        refine lv_if_eq (tgt := 76) hx hb dX9_doOverlap_12 (by decide) (fun c664 => ?_) (fun c664 => ?_)
        · skip
          have c664i : v420.toInt = (0 : Int) := (zc_eq (rfl : v420.toInt = _) (show (0 : Int32).toInt = (0 : Int) from by decide)).mp c664
          exact J663 H locs ls  hP hD hS (lv_sub hl [0, 1, 2, 3, 4] rfl)
        · skip
          have c664i : ¬ (v420.toInt = (0 : Int)) := fun q => c664 ((zc_eq (rfl : v420.toInt = _) (show (0 : Int32).toInt = (0 : Int) from by decide)).mpr q)
          refine lv_aload_n hx hb dX9_doOverlap_15 rfl (lv_at hl 0 rfl) ?_
          refine va_get (D := g.1) (ci := 9) (v := .ref h0_flats) (C := RX9) (T := TX9) (N := 37) hx hb hG iX9 hown hX.1 hP 0 rfl rfl 19 (by decide) (hG _ wf_X9_69) (fun _ h9 => h9) rfl dX9_doOverlap_16 ?_
          refine lv_iconst (v := 4) hx hb dX9_doOverlap_19 (by decide) ?_
          refine lv_iload_n hx hb dX9_doOverlap_20 rfl (lv_at hl 1 rfl) ?_
          refine lv_imul hx hb dX9_doOverlap_21 ?_
          refine lv_topi (fun z665 e666 => ?_)
          have f667 : z665.toInt = (4 : Int) * x1.toInt := zm e666 (show (4 : Int32).toInt = (4 : Int) from by decide) (rfl : x1.toInt = _) (om_470 hy0)
          refine lv_iconst (v := 2) hx hb dX9_doOverlap_22 (by decide) ?_
          refine lv_iadd hx hb dX9_doOverlap_23 ?_
          refine lv_topi (fun z668 e669 => ?_)
          have f670 : z668.toInt = z665.toInt + (2 : Int) := za e669 (rfl : z665.toInt = _) (show (2 : Int32).toInt = (2 : Int) from by decide) (om_471 f667 hy0)
          refine lv_iload hx hb dX9_doOverlap_24 (lv_at hl 4 rfl) ?_
          refine lv_iadd hx hb dX9_doOverlap_26 ?_
          refine lv_topi (fun z671 e672 => ?_)
          have f673 : z671.toInt = z668.toInt + v421.toInt := za e672 (rfl : z668.toInt = _) (rfl : v421.toInt = _) (om_472 c568i f667 f670 hy0 i566)
          refine va_iald hx hb hX.1 hP 1 0 rfl rfl (zin (rfl : z671.toInt = _) (om_473 c568i f667 f670 f673 hy0 i566)) dX9_doOverlap_27 ?_
          refine lv_topi (fun z674 e675 => ?_)
          refine lv_aload_n hx hb dX9_doOverlap_28 rfl (lv_at hl 0 rfl) ?_
          refine va_get (D := g.1) (ci := 9) (v := .ref h0_flats) (C := RX9) (T := TX9) (N := 37) hx hb hG iX9 hown hX.1 hP 0 rfl rfl 19 (by decide) (hG _ wf_X9_69) (fun _ h9 => h9) rfl dX9_doOverlap_29 ?_
          refine lv_iconst (v := 4) hx hb dX9_doOverlap_32 (by decide) ?_
          refine lv_iload_n hx hb dX9_doOverlap_33 rfl (lv_at hl 2 rfl) ?_
          refine lv_imul hx hb dX9_doOverlap_34 ?_
          refine lv_topi (fun z676 e677 => ?_)
          have f678 : z676.toInt = (4 : Int) * x2.toInt := zm e677 (show (4 : Int32).toInt = (4 : Int) from by decide) (rfl : x2.toInt = _) (om_470 hy1)
          refine lv_iconst (v := 2) hx hb dX9_doOverlap_35 (by decide) ?_
          refine lv_iadd hx hb dX9_doOverlap_36 ?_
          refine lv_topi (fun z679 e680 => ?_)
          have f681 : z679.toInt = z676.toInt + (2 : Int) := za e680 (rfl : z676.toInt = _) (show (2 : Int32).toInt = (2 : Int) from by decide) (om_471 f678 hy1)
          refine lv_iload hx hb dX9_doOverlap_37 (lv_at hl 4 rfl) ?_
          refine lv_iadd hx hb dX9_doOverlap_39 ?_
          refine lv_topi (fun z682 e683 => ?_)
          have f684 : z682.toInt = z679.toInt + v421.toInt := za e683 (rfl : z679.toInt = _) (rfl : v421.toInt = _) (om_472 c568i f678 f681 hy1 i566)
          refine va_iald hx hb hX.1 hP 1 0 rfl rfl (zin (rfl : z682.toInt = _) (om_473 c568i f678 f681 f684 hy1 i566)) dX9_doOverlap_40 ?_
          refine lv_topi (fun z685 e686 => ?_)
          refine zfi (wr := [(h0, .inr (9, [.ref h0_told, .ref h0_read, .ref h0_now, .ref h0_readNow, .ref h0_kept, .int h0_undone, .int h0_seed, .int h0_hasPart, .ref h0_tape, .int h0_taped, .ref h0_refused, .int h0_faultKind, .int h0_faultPlace, .int h0_size, .int h0_at, .int h0_from, .int h0_wrong, .int h0_wrongAt, .ref h0_ownLetters, .ref h0_flats, .int h0_isLaid, .ref h0_corner, .ref h0_wayX, .ref h0_wayY, .ref h0_normal, .ref h0_low, .ref h0_high, .ref h0_clear, .ref h0_ways, .ref h0_canBe, .ref h0_lain, .int h0_canTool, .ref h0_fewestBy, .ref h0_sortOf, .int h0_rows, .ref h0_seenFlange, .ref h0_seenLength])), (h0_flats, .inl (g.2.1.1, 72, .inl f_h0_flats))]) (va_runS (As := [.int z674, .int z685]) (rest := []) ⟨hx, hb, hml, hown, hG⟩ (kX9_lesser l g z674 z685 _) ⟨callB_of 2 hG (zGood wc_X9_lesser) rfl rfl rfl (hG _ wini_X9) (hG _ wm_X9_181) hX9_lesser ⟨Nat.le_of_ble_eq_true rfl, Nat.le_of_ble_eq_true rfl⟩, hG _ ws_X9_lesser⟩ (zpreS hX hP hD hS hA [] rfl (by decide)) rfl rfl hl.1 rfl (lv_room (Nat.le_of_ble_eq_true rfl)) dX9_doOverlap_41 ⟨Nat.le_of_ble_eq_true rfl, Nat.le_of_ble_eq_true rfl⟩) hP hD hS hA [] [0, 1] rfl rfl (by decide) (by decide) (fun r687 _ H locs hp hP hD hS => ?_)
          refine W.cs (cells' := 0) (slots' := 0) rfl rfl ?_
          have hq688 : r687.toInt ≤ z674.toInt ∧ r687.toInt ≤ z685.toInt ∧ (r687.toInt = z674.toInt ∨ r687.toInt = z685.toInt) := hp
          have hP : va_P g.1 vwCl [(h0, .inr (9, [.ref h0_told, .ref h0_read, .ref h0_now, .ref h0_readNow, .ref h0_kept, .int h0_undone, .int h0_seed, .int h0_hasPart, .ref h0_tape, .int h0_taped, .ref h0_refused, .int h0_faultKind, .int h0_faultPlace, .int h0_size, .int h0_at, .int h0_from, .int h0_wrong, .int h0_wrongAt, .ref h0_ownLetters, .ref h0_flats, .int h0_isLaid, .ref h0_corner, .ref h0_wayX, .ref h0_wayY, .ref h0_normal, .ref h0_low, .ref h0_high, .ref h0_clear, .ref h0_ways, .ref h0_canBe, .ref h0_lain, .int h0_canTool, .ref h0_fewestBy, .ref h0_sortOf, .int h0_rows, .ref h0_seenFlange, .ref h0_seenLength])), (h0_flats, .inl (g.2.1.1, 72, .inl f_h0_flats))] H := hP
          have hD : va_D A [(h0, .inr (9, [.ref h0_told, .ref h0_read, .ref h0_now, .ref h0_readNow, .ref h0_kept, .int h0_undone, .int h0_seed, .int h0_hasPart, .ref h0_tape, .int h0_taped, .ref h0_refused, .int h0_faultKind, .int h0_faultPlace, .int h0_size, .int h0_at, .int h0_from, .int h0_wrong, .int h0_wrongAt, .ref h0_ownLetters, .ref h0_flats, .int h0_isLaid, .ref h0_corner, .ref h0_wayX, .ref h0_wayY, .ref h0_normal, .ref h0_low, .ref h0_high, .ref h0_clear, .ref h0_ways, .ref h0_canBe, .ref h0_lain, .int h0_canTool, .ref h0_fewestBy, .ref h0_sortOf, .int h0_rows, .ref h0_seenFlange, .ref h0_seenLength])), (h0_flats, .inl (g.2.1.1, 72, .inl f_h0_flats))] := hD
          refine lv_aload_n hx hb dX9_doOverlap_44 rfl (lv_at hl 0 rfl) ?_
          refine va_get (D := g.1) (ci := 9) (v := .ref h0_flats) (C := RX9) (T := TX9) (N := 37) hx hb hG iX9 hown hX.1 hP 0 rfl rfl 19 (by decide) (hG _ wf_X9_69) (fun _ h9 => h9) rfl dX9_doOverlap_45 ?_
          refine lv_iconst (v := 4) hx hb dX9_doOverlap_48 (by decide) ?_
          refine lv_iload_n hx hb dX9_doOverlap_49 rfl (lv_at hl 1 rfl) ?_
          refine lv_imul hx hb dX9_doOverlap_50 ?_
          refine lv_topi (fun z689 e690 => ?_)
          have f691 : z689.toInt = (4 : Int) * x1.toInt := zm e690 (show (4 : Int32).toInt = (4 : Int) from by decide) (rfl : x1.toInt = _) (om_470 hy0)
          refine lv_iload hx hb dX9_doOverlap_51 (lv_at hl 4 rfl) ?_
          refine lv_iadd hx hb dX9_doOverlap_53 ?_
          refine lv_topi (fun z692 e693 => ?_)
          have f694 : z692.toInt = z689.toInt + v421.toInt := za e693 (rfl : z689.toInt = _) (rfl : v421.toInt = _) (om_474 c568i f691 hy0 i566)
          refine va_iald hx hb hX.1 hP 1 0 rfl rfl (zin (rfl : z692.toInt = _) (om_475 c568i f691 f694 hy0 i566)) dX9_doOverlap_54 ?_
          refine lv_topi (fun z695 e696 => ?_)
          refine lv_aload_n hx hb dX9_doOverlap_55 rfl (lv_at hl 0 rfl) ?_
          refine va_get (D := g.1) (ci := 9) (v := .ref h0_flats) (C := RX9) (T := TX9) (N := 37) hx hb hG iX9 hown hX.1 hP 0 rfl rfl 19 (by decide) (hG _ wf_X9_69) (fun _ h9 => h9) rfl dX9_doOverlap_56 ?_
          refine lv_iconst (v := 4) hx hb dX9_doOverlap_59 (by decide) ?_
          refine lv_iload_n hx hb dX9_doOverlap_60 rfl (lv_at hl 2 rfl) ?_
          refine lv_imul hx hb dX9_doOverlap_61 ?_
          refine lv_topi (fun z697 e698 => ?_)
          have f699 : z697.toInt = (4 : Int) * x2.toInt := zm e698 (show (4 : Int32).toInt = (4 : Int) from by decide) (rfl : x2.toInt = _) (om_470 hy1)
          refine lv_iload hx hb dX9_doOverlap_62 (lv_at hl 4 rfl) ?_
          refine lv_iadd hx hb dX9_doOverlap_64 ?_
          refine lv_topi (fun z700 e701 => ?_)
          have f702 : z700.toInt = z697.toInt + v421.toInt := za e701 (rfl : z697.toInt = _) (rfl : v421.toInt = _) (om_474 c568i f699 hy1 i566)
          refine va_iald hx hb hX.1 hP 1 0 rfl rfl (zin (rfl : z700.toInt = _) (om_475 c568i f699 f702 hy1 i566)) dX9_doOverlap_65 ?_
          refine lv_topi (fun z703 e704 => ?_)
          refine zfi (wr := [(h0, .inr (9, [.ref h0_told, .ref h0_read, .ref h0_now, .ref h0_readNow, .ref h0_kept, .int h0_undone, .int h0_seed, .int h0_hasPart, .ref h0_tape, .int h0_taped, .ref h0_refused, .int h0_faultKind, .int h0_faultPlace, .int h0_size, .int h0_at, .int h0_from, .int h0_wrong, .int h0_wrongAt, .ref h0_ownLetters, .ref h0_flats, .int h0_isLaid, .ref h0_corner, .ref h0_wayX, .ref h0_wayY, .ref h0_normal, .ref h0_low, .ref h0_high, .ref h0_clear, .ref h0_ways, .ref h0_canBe, .ref h0_lain, .int h0_canTool, .ref h0_fewestBy, .ref h0_sortOf, .int h0_rows, .ref h0_seenFlange, .ref h0_seenLength])), (h0_flats, .inl (g.2.1.1, 72, .inl f_h0_flats))]) (va_runS (As := [.int z695, .int z703]) (rest := [.int r687]) ⟨hx, hb, hml, hown, hG⟩ (kX9_greater l g z695 z703 _) ⟨callB_of 2 hG (zGood wc_X9_greater) rfl rfl rfl (hG _ wini_X9) (hG _ wm_X9_184) hX9_greater ⟨Nat.le_of_ble_eq_true rfl, Nat.le_of_ble_eq_true rfl⟩, hG _ ws_X9_greater⟩ (zpreS hX hP hD hS hA [] rfl (by decide)) rfl rfl hl.1 rfl (lv_room (Nat.le_of_ble_eq_true rfl)) dX9_doOverlap_66 ⟨Nat.le_of_ble_eq_true rfl, Nat.le_of_ble_eq_true rfl⟩) hP hD hS hA [] [0, 1] rfl rfl (by decide) (by decide) (fun r705 _ H locs hp hP hD hS => ?_)
          refine W.cs (cells' := 0) (slots' := 0) rfl rfl ?_
          have hq706 : z695.toInt ≤ r705.toInt ∧ z703.toInt ≤ r705.toInt ∧ (r705.toInt = z695.toInt ∨ r705.toInt = z703.toInt) := hp
          have hP : va_P g.1 vwCl [(h0, .inr (9, [.ref h0_told, .ref h0_read, .ref h0_now, .ref h0_readNow, .ref h0_kept, .int h0_undone, .int h0_seed, .int h0_hasPart, .ref h0_tape, .int h0_taped, .ref h0_refused, .int h0_faultKind, .int h0_faultPlace, .int h0_size, .int h0_at, .int h0_from, .int h0_wrong, .int h0_wrongAt, .ref h0_ownLetters, .ref h0_flats, .int h0_isLaid, .ref h0_corner, .ref h0_wayX, .ref h0_wayY, .ref h0_normal, .ref h0_low, .ref h0_high, .ref h0_clear, .ref h0_ways, .ref h0_canBe, .ref h0_lain, .int h0_canTool, .ref h0_fewestBy, .ref h0_sortOf, .int h0_rows, .ref h0_seenFlange, .ref h0_seenLength])), (h0_flats, .inl (g.2.1.1, 72, .inl f_h0_flats))] H := hP
          have hD : va_D A [(h0, .inr (9, [.ref h0_told, .ref h0_read, .ref h0_now, .ref h0_readNow, .ref h0_kept, .int h0_undone, .int h0_seed, .int h0_hasPart, .ref h0_tape, .int h0_taped, .ref h0_refused, .int h0_faultKind, .int h0_faultPlace, .int h0_size, .int h0_at, .int h0_from, .int h0_wrong, .int h0_wrongAt, .ref h0_ownLetters, .ref h0_flats, .int h0_isLaid, .ref h0_corner, .ref h0_wayX, .ref h0_wayY, .ref h0_normal, .ref h0_low, .ref h0_high, .ref h0_clear, .ref h0_ways, .ref h0_canBe, .ref h0_lain, .int h0_canTool, .ref h0_fewestBy, .ref h0_sortOf, .int h0_rows, .ref h0_seenFlange, .ref h0_seenLength])), (h0_flats, .inl (g.2.1.1, 72, .inl f_h0_flats))] := hD
          refine lv_icmp_le (tgt := 76) hx hb dX9_doOverlap_69 (by decide) (fun c707 => ?_) (fun c707 => ?_)
          · skip
            have c707i : r687.toInt ≤ r705.toInt := (zc_le (rfl : r687.toInt = _) (rfl : r705.toInt = _)).mp c707
            exact J663 H locs ls  hP hD hS (lv_sub hl [0, 1, 2, 3, 4] rfl)
          · skip
            have c707i : ¬ (r687.toInt ≤ r705.toInt) := fun q => c707 ((zc_le (rfl : r687.toInt = _) (rfl : r705.toInt = _)).mpr q)
            refine lv_iconst (v := 1) hx hb dX9_doOverlap_72 (by decide) ?_
            refine lv_goto (tgt := 77) hx hb dX9_doOverlap_73 (by decide) ?_
            exact J614 (1 : Int32) H locs ls ((show 0 ≤ (1 : Int) ∧ (1 : Int) ≤ 1 from by decide)) hP hD hS (lv_sub hl [0, 1, 2, 3, 4] rfl)
  exact L562 _ (1 : Int32) (0 : Int32) _ _ ls ((show 0 ≤ (1 : Int) ∧ (1 : Int) ≤ 1 from by decide)) ((show 0 ≤ (0 : Int) ∧ (0 : Int) ≤ 2 from by decide)) (Nat.lt_succ_self _) hP hD hS (lv_sub hl [2, 3, 4, 1, 0] rfl)
theorem dX9_overlap_0 : decode cX9_overlap 0 = .ok (.aload_n 0, 1) := by decide +kernel
theorem dX9_overlap_1 : decode cX9_overlap 1 = .ok (.getfield 32, 3) := by decide +kernel
theorem dX9_overlap_4 : decode cX9_overlap 4 = .ok (.ifCond .eq 22, 3) := by decide +kernel
theorem dX9_overlap_26 : decode cX9_overlap 26 = .ok (.iconst (-1), 1) := by decide +kernel
theorem dX9_overlap_27 : decode cX9_overlap 27 = .ok (.ireturn, 1) := by decide +kernel
theorem dX9_overlap_7 : decode cX9_overlap 7 = .ok (.iload_n 1, 1) := by decide +kernel
theorem dX9_overlap_8 : decode cX9_overlap 8 = .ok (.iconst (-1), 1) := by decide +kernel
theorem dX9_overlap_9 : decode cX9_overlap 9 = .ok (.if_icmp .lt 17, 3) := by decide +kernel
theorem dX9_overlap_12 : decode cX9_overlap 12 = .ok (.iload_n 1, 1) := by decide +kernel
theorem dX9_overlap_13 : decode cX9_overlap 13 = .ok (.iconst (-1), 1) := by decide +kernel
theorem dX9_overlap_28 : decode cX9_overlap 28 = .ok (.aload_n 0, 1) := by decide +kernel
theorem dX9_overlap_29 : decode cX9_overlap 29 = .ok (.invokevirtual 255, 3) := by decide +kernel
theorem dX9_overlap_32 : decode cX9_overlap 32 = .ok (.iconst 0, 1) := by decide +kernel
theorem dX9_overlap_33 : decode cX9_overlap 33 = .ok (.istore_n 3, 1) := by decide +kernel
theorem dX9_overlap_34 : decode cX9_overlap 34 = .ok (.iconst 0, 1) := by decide +kernel
theorem dX9_overlap_35 : decode cX9_overlap 35 = .ok (.istore 4, 2) := by decide +kernel
theorem dX9_overlap_37 : decode cX9_overlap 37 = .ok (.iload 4, 2) := by decide +kernel
theorem dX9_overlap_39 : decode cX9_overlap 39 = .ok (.bipush 17, 2) := by decide +kernel
theorem dX9_overlap_41 : decode cX9_overlap 41 = .ok (.if_icmp .ge 80, 3) := by decide +kernel
theorem dX9_overlap_121 : decode cX9_overlap 121 = .ok (.iload_n 1, 1) := by decide +kernel
theorem dX9_overlap_122 : decode cX9_overlap 122 = .ok (.iconst (-1), 1) := by decide +kernel
theorem dX9_overlap_123 : decode cX9_overlap 123 = .ok (.if_icmp .ne 7, 3) := by decide +kernel
theorem dX9_overlap_130 : decode cX9_overlap 130 = .ok (.iconst (-1), 1) := by decide +kernel
theorem dX9_overlap_131 : decode cX9_overlap 131 = .ok (.ireturn, 1) := by decide +kernel
theorem dX9_overlap_126 : decode cX9_overlap 126 = .ok (.iload_n 3, 1) := by decide +kernel
theorem dX9_overlap_127 : decode cX9_overlap 127 = .ok (.goto 4, 3) := by decide +kernel
theorem dX9_overlap_44 : decode cX9_overlap 44 = .ok (.iload 4, 2) := by decide +kernel
theorem dX9_overlap_46 : decode cX9_overlap 46 = .ok (.iconst 1, 1) := by decide +kernel
theorem dX9_overlap_47 : decode cX9_overlap 47 = .ok (.iadd, 1) := by decide +kernel
theorem dX9_overlap_48 : decode cX9_overlap 48 = .ok (.istore 5, 2) := by decide +kernel
theorem dX9_overlap_50 : decode cX9_overlap 50 = .ok (.iload 5, 2) := by decide +kernel
theorem dX9_overlap_52 : decode cX9_overlap 52 = .ok (.bipush 17, 2) := by decide +kernel
theorem dX9_overlap_54 : decode cX9_overlap 54 = .ok (.if_icmp .ge 61, 3) := by decide +kernel
theorem dX9_overlap_115 : decode cX9_overlap 115 = .ok (.iinc 4 1, 3) := by decide +kernel
theorem dX9_overlap_118 : decode cX9_overlap 118 = .ok (.goto (-81), 3) := by decide +kernel
theorem dX9_overlap_57 : decode cX9_overlap 57 = .ok (.aload_n 0, 1) := by decide +kernel
theorem dX9_overlap_58 : decode cX9_overlap 58 = .ok (.iload 4, 2) := by decide +kernel
theorem dX9_overlap_60 : decode cX9_overlap 60 = .ok (.invokevirtual 251, 3) := by decide +kernel
theorem dX9_overlap_109 : decode cX9_overlap 109 = .ok (.iinc 5 1, 3) := by decide +kernel
theorem dX9_overlap_112 : decode cX9_overlap 112 = .ok (.goto (-62), 3) := by decide +kernel
theorem dX9_overlap_63 : decode cX9_overlap 63 = .ok (.ifCond .eq 46, 3) := by decide +kernel
theorem dX9_overlap_66 : decode cX9_overlap 66 = .ok (.aload_n 0, 1) := by decide +kernel
theorem dX9_overlap_67 : decode cX9_overlap 67 = .ok (.iload 5, 2) := by decide +kernel
theorem dX9_overlap_69 : decode cX9_overlap 69 = .ok (.invokevirtual 251, 3) := by decide +kernel
theorem dX9_overlap_72 : decode cX9_overlap 72 = .ok (.ifCond .eq 37, 3) := by decide +kernel
theorem dX9_overlap_75 : decode cX9_overlap 75 = .ok (.aload_n 0, 1) := by decide +kernel
theorem dX9_overlap_76 : decode cX9_overlap 76 = .ok (.iload 4, 2) := by decide +kernel
theorem dX9_overlap_78 : decode cX9_overlap 78 = .ok (.iload 5, 2) := by decide +kernel
theorem dX9_overlap_80 : decode cX9_overlap 80 = .ok (.invokevirtual 258, 3) := by decide +kernel
theorem dX9_overlap_83 : decode cX9_overlap 83 = .ok (.ifCond .ne 6, 3) := by decide +kernel
theorem dX9_overlap_89 : decode cX9_overlap 89 = .ok (.iload_n 3, 1) := by decide +kernel
theorem dX9_overlap_90 : decode cX9_overlap 90 = .ok (.iload_n 1, 1) := by decide +kernel
theorem dX9_overlap_91 : decode cX9_overlap 91 = .ok (.if_icmp .ne 15, 3) := by decide +kernel
theorem dX9_overlap_106 : decode cX9_overlap 106 = .ok (.iinc 3 1, 3) := by decide +kernel
theorem dX9_overlap_94 : decode cX9_overlap 94 = .ok (.iload_n 2, 1) := by decide +kernel
theorem dX9_overlap_95 : decode cX9_overlap 95 = .ok (.ifCond .ne 8, 3) := by decide +kernel
theorem dX9_overlap_103 : decode cX9_overlap 103 = .ok (.iload 5, 2) := by decide +kernel
theorem dX9_overlap_105 : decode cX9_overlap 105 = .ok (.ireturn, 1) := by decide +kernel
theorem dX9_overlap_98 : decode cX9_overlap 98 = .ok (.iload 4, 2) := by decide +kernel
theorem dX9_overlap_100 : decode cX9_overlap 100 = .ok (.goto 5, 3) := by decide +kernel
theorem dX9_overlap_86 : decode cX9_overlap 86 = .ok (.goto 23, 3) := by decide +kernel
theorem dX9_overlap_14 : decode cX9_overlap 14 = .ok (.if_icmp .eq 14, 3) := by decide +kernel
theorem dX9_overlap_17 : decode cX9_overlap 17 = .ok (.iload_n 2, 1) := by decide +kernel
theorem dX9_overlap_18 : decode cX9_overlap 18 = .ok (.iconst 0, 1) := by decide +kernel
theorem dX9_overlap_19 : decode cX9_overlap 19 = .ok (.iconst 1, 1) := by decide +kernel
theorem dX9_overlap_20 : decode cX9_overlap 20 = .ok (.invokestatic 163, 3) := by decide +kernel
theorem dX9_overlap_23 : decode cX9_overlap 23 = .ok (.ifCond .ne 5, 3) := by decide +kernel
abbrev rm_kX9_overlap : Room := { frames := 3, cells := 0, slots := 0, locals := 64 }
set_option maxHeartbeats 4000000 in
set_option maxRecDepth 100000 in
theorem kX9_overlap (l : Launch) (g : zL) (h0 : Nat) (x1 : Int32) (x2 : Int32) (h0_told : Nat) (h0_read : Nat) (h0_now : Nat) (h0_readNow : Nat) (h0_kept : Nat) (h0_undone : Int32) (h0_seed : Int32) (h0_hasPart : Int32) (h0_tape : Nat) (h0_taped : Int32) (h0_refused : Nat) (h0_faultKind : Int32) (h0_faultPlace : Int32) (h0_size : Int32) (h0_at : Int32) (h0_from : Int32) (h0_wrong : Int32) (h0_wrongAt : Int32) (h0_ownLetters : Nat) (h0_flats : Nat) (h0_isLaid : Int32) (h0_corner : Nat) (h0_wayX : Nat) (h0_wayY : Nat) (h0_normal : Nat) (h0_low : Nat) (h0_high : Nat) (h0_clear : Nat) (h0_ways : Nat) (h0_canBe : Nat) (h0_lain : Nat) (h0_canTool : Int32) (h0_fewestBy : Nat) (h0_sortOf : Nat) (h0_rows : Int32) (h0_seenFlange : Nat) (h0_seenLength : Nat) (f_h0_flats : Nat → Int32) (f_h0_told : Nat → Int32) (h0_told_3 : Int32) (h0_told_4 : Int32) (f_h0_now : Nat → Int32) (h0_now_0 : Int32) (hy0 : 0 ≤ h0_undone.toInt ∧ h0_undone.toInt ≤ 20) (hy1 : 0 ≤ h0_seed.toInt ∧ h0_seed.toInt ≤ 2147483647) (hy2 : 0 ≤ h0_hasPart.toInt ∧ h0_hasPart.toInt ≤ 1) (hy3 : 0 ≤ h0_taped.toInt ∧ h0_taped.toInt ≤ 1200) (hy4 : 0 ≤ h0_faultKind.toInt ∧ h0_faultKind.toInt ≤ 5) (hy5 : 0 ≤ h0_size.toInt ∧ h0_size.toInt ≤ 1200) (hy6 : 0 ≤ h0_at.toInt ∧ h0_at.toInt ≤ 1200) (hy7 : 0 ≤ h0_from.toInt ∧ h0_from.toInt ≤ 1200) (hy8 : 0 ≤ h0_wrong.toInt ∧ h0_wrong.toInt ≤ 5) (hy9 : 0 ≤ h0_isLaid.toInt ∧ h0_isLaid.toInt ≤ 1) (hy10 : 0 ≤ h0_canTool.toInt ∧ h0_canTool.toInt ≤ 255) (hy11 : 0 ≤ h0_rows.toInt ∧ h0_rows.toInt ≤ 8) (hy12 : pW mB f_h0_told) (hy13 : 0 ≤ h0_told_3.toInt ∧ h0_told_3.toInt ≤ 9) (hy14 : cEq f_h0_told 3 h0_told_3) (hy15 : 0 ≤ h0_told_4.toInt ∧ h0_told_4.toInt ≤ 8) (hy16 : cEq f_h0_told 4 h0_told_4) (hy17 : pW nB f_h0_now) (hy18 : 0 ≤ h0_now_0.toInt ∧ h0_now_0.toInt ≤ 255) (hy19 : cEq f_h0_now 0 h0_now_0) (hy20 : ((h0_hasPart.toInt = 0 ∧ h0_told_3.toInt = 0) ∨ (h0_hasPart.toInt = 1 ∧ 1 ≤ h0_told_3.toInt))) : zCi l g yX9_overlap cX9_overlap 6 (some .int) rm_kX9_overlap [.ref h0, .int x1, .int x2] [(h0, .inr (9, [.ref h0_told, .ref h0_read, .ref h0_now, .ref h0_readNow, .ref h0_kept, .int h0_undone, .int h0_seed, .int h0_hasPart, .ref h0_tape, .int h0_taped, .ref h0_refused, .int h0_faultKind, .int h0_faultPlace, .int h0_size, .int h0_at, .int h0_from, .int h0_wrong, .int h0_wrongAt, .ref h0_ownLetters, .ref h0_flats, .int h0_isLaid, .ref h0_corner, .ref h0_wayX, .ref h0_wayY, .ref h0_normal, .ref h0_low, .ref h0_high, .ref h0_clear, .ref h0_ways, .ref h0_canBe, .ref h0_lain, .int h0_canTool, .ref h0_fewestBy, .ref h0_sortOf, .int h0_rows, .ref h0_seenFlange, .ref h0_seenLength])), (h0_flats, .inl (g.2.1.1, 72, .inl f_h0_flats)), (h0_told, .inl (g.2.1.1, 103, .inl f_h0_told)), (h0_now, .inl (g.2.1.1, 21, .inl f_h0_now))] (fun (r : Int32) (u : Int32 × (Nat → Int32)) => (0 ≤ u.1.toInt ∧ u.1.toInt ≤ 1)) (fun (u : Int32 × (Nat → Int32)) => [(h0, .inr (9, [.ref h0_told, .ref h0_read, .ref h0_now, .ref h0_readNow, .ref h0_kept, .int h0_undone, .int h0_seed, .int h0_hasPart, .ref h0_tape, .int h0_taped, .ref h0_refused, .int h0_faultKind, .int h0_faultPlace, .int h0_size, .int h0_at, .int h0_from, .int h0_wrong, .int h0_wrongAt, .ref h0_ownLetters, .ref h0_flats, .int u.1, .ref h0_corner, .ref h0_wayX, .ref h0_wayY, .ref h0_normal, .ref h0_low, .ref h0_high, .ref h0_clear, .ref h0_ways, .ref h0_canBe, .ref h0_lain, .int h0_canTool, .ref h0_fewestBy, .ref h0_sortOf, .int h0_rows, .ref h0_seenFlange, .ref h0_seenLength])), (h0_flats, .inl (g.2.1.1, 72, .inl u.2)), (h0_told, .inl (g.2.1.1, 103, .inl f_h0_told)), (h0_now, .inl (g.2.1.1, 21, .inl f_h0_now))]) := by
  refine zCi.mk2 (by decide) (Nat.le_of_ble_eq_true rfl) ?_
  intro p e s m below meth c A args Q hE hret hP hD hS ls hl
  obtain ⟨hx, hb, hr, hml, hown, hG, hlocks, hnm, hX, hA⟩ := hE
  have hown : s.vm.findClass RX9 = some m.cls := hown
  have hl : lv_has ls 6 [(0, .ref h0), (1, .int x1), (2, .int x2)] := hl
  refine lv_aload_n hx hb dX9_overlap_0 rfl (lv_at hl 0 rfl) ?_
  refine va_get (D := g.1) (ci := 9) (v := .int h0_hasPart) (C := RX9) (T := TX9) (N := 37) hx hb hG iX9 hown hX.1 hP 0 rfl rfl 7 (by decide) (hG _ wf_X9_32) (fun _ h9 => h9) rfl dX9_overlap_1 ?_
  refine lv_if_eq (tgt := 26) hx hb dX9_overlap_4 (by decide) (fun c1 => ?_) (fun c1 => ?_)
  · skip
    have c1i : h0_hasPart.toInt = (0 : Int) := (zc_eq (rfl : h0_hasPart.toInt = _) (show (0 : Int32).toInt = (0 : Int) from by decide)).mp c1
    refine lv_iconst (v := (-1)) hx hb dX9_overlap_26 (by decide) ?_
    exact hret (-1 : Int32) (h0_isLaid, f_h0_flats) (Nat.le_of_ble_eq_true rfl) (Nat.le_of_ble_eq_true rfl) rfl (om_29 hy9) hP hD hS dX9_overlap_27
  · skip
    have c1i : ¬ (h0_hasPart.toInt = (0 : Int)) := fun q => c1 ((zc_eq (rfl : h0_hasPart.toInt = _) (show (0 : Int32).toInt = (0 : Int) from by decide)).mpr q)
    refine lv_iload_n hx hb dX9_overlap_7 rfl (lv_at hl 1 rfl) ?_
    refine lv_iconst (v := (-1)) hx hb dX9_overlap_8 (by decide) ?_
    refine lv_icmp_lt (tgt := 26) hx hb dX9_overlap_9 (by decide) (fun c2 => ?_) (fun c2 => ?_)
    · skip
      have c2i : x1.toInt < (-1 : Int) := (zc_lt (rfl : x1.toInt = _) (show (-1 : Int32).toInt = (-1 : Int) from by decide)).mp c2
      refine lv_iconst (v := (-1)) hx hb dX9_overlap_26 (by decide) ?_
      exact hret (-1 : Int32) (h0_isLaid, f_h0_flats) (Nat.le_of_ble_eq_true rfl) (Nat.le_of_ble_eq_true rfl) rfl (om_29 hy9) hP hD hS dX9_overlap_27
    · skip
      have c2i : ¬ (x1.toInt < (-1 : Int)) := fun q => c2 ((zc_lt (rfl : x1.toInt = _) (show (-1 : Int32).toInt = (-1 : Int) from by decide)).mpr q)
      refine lv_iload_n hx hb dX9_overlap_12 rfl (lv_at hl 1 rfl) ?_
      refine lv_iconst (v := (-1)) hx hb dX9_overlap_13 (by decide) ?_
      have J9 : ∀  (H : Heap) (locs : List Loc) (ls : Array Slot), va_P g.1 vwCl [(h0, .inr (9, [.ref h0_told, .ref h0_read, .ref h0_now, .ref h0_readNow, .ref h0_kept, .int h0_undone, .int h0_seed, .int h0_hasPart, .ref h0_tape, .int h0_taped, .ref h0_refused, .int h0_faultKind, .int h0_faultPlace, .int h0_size, .int h0_at, .int h0_from, .int h0_wrong, .int h0_wrongAt, .ref h0_ownLetters, .ref h0_flats, .int h0_isLaid, .ref h0_corner, .ref h0_wayX, .ref h0_wayY, .ref h0_normal, .ref h0_low, .ref h0_high, .ref h0_clear, .ref h0_ways, .ref h0_canBe, .ref h0_lain, .int h0_canTool, .ref h0_fewestBy, .ref h0_sortOf, .int h0_rows, .ref h0_seenFlange, .ref h0_seenLength])), (h0_flats, .inl (g.2.1.1, 72, .inl f_h0_flats)), (h0_told, .inl (g.2.1.1, 103, .inl f_h0_told)), (h0_now, .inl (g.2.1.1, 21, .inl f_h0_now))] H → va_D A [(h0, .inr (9, [.ref h0_told, .ref h0_read, .ref h0_now, .ref h0_readNow, .ref h0_kept, .int h0_undone, .int h0_seed, .int h0_hasPart, .ref h0_tape, .int h0_taped, .ref h0_refused, .int h0_faultKind, .int h0_faultPlace, .int h0_size, .int h0_at, .int h0_from, .int h0_wrong, .int h0_wrongAt, .ref h0_ownLetters, .ref h0_flats, .int h0_isLaid, .ref h0_corner, .ref h0_wayX, .ref h0_wayY, .ref h0_normal, .ref h0_low, .ref h0_high, .ref h0_clear, .ref h0_ways, .ref h0_canBe, .ref h0_lain, .int h0_canTool, .ref h0_fewestBy, .ref h0_sortOf, .int h0_rows, .ref h0_seenFlange, .ref h0_seenLength])), (h0_flats, .inl (g.2.1.1, 72, .inl f_h0_flats)), (h0_told, .inl (g.2.1.1, 103, .inl f_h0_told)), (h0_now, .inl (g.2.1.1, 21, .inl f_h0_now))] → va_S A s.heap H locs → lv_has ls 6 [(0, .ref h0), (1, .int x1), (2, .int x2)] → W p l e rm_kX9_overlap s m args below meth c H locs 0 0 Q (F0 m 28 ls []) := by
        intro  H locs ls  hP hD hS hl
        refine lv_aload_n hx hb dX9_overlap_28 rfl (lv_at hl 0 rfl) ?_
        refine zfv (wr := []) (va_runV (As := []) (rest := []) ⟨hx, hb, hml, hown, hG⟩ (kX9_laysFlat l g h0 h0_told h0_read h0_now h0_readNow h0_kept h0_undone h0_seed h0_hasPart h0_tape h0_taped h0_refused h0_faultKind h0_faultPlace h0_size h0_at h0_from h0_wrong h0_wrongAt h0_ownLetters h0_flats h0_isLaid h0_corner h0_wayX h0_wayY h0_normal h0_low h0_high h0_clear h0_ways h0_canBe h0_lain h0_canTool h0_fewestBy h0_sortOf h0_rows h0_seenFlange h0_seenLength f_h0_flats f_h0_told h0_told_3 h0_told_4 f_h0_now h0_now_0 (om_27 hy0) (om_28 hy1) (om_29 hy2) (om_32 hy3) (om_31 hy4) (om_32 hy5) (om_32 hy6) (om_32 hy7) (om_31 hy8) (om_29 hy9) (om_13 hy10) (om_33 hy11) hy12 (om_155 hy13) hy14 (om_33 hy15) hy16 hy17 (om_13 hy18) hy19 (om_400 c1i hy2 hy20) _) ⟨callB_of 0 hG (zGood wc_X9_laysFlat) rfl rfl rfl (hG _ wini_X9) (hG _ wm_X9_255) hX9_laysFlat ⟨Nat.le_of_ble_eq_true rfl, Nat.le_of_ble_eq_true rfl⟩, hG _ wi_X9_laysFlat, hG _ wse_X9_X9_laysFlat⟩ (zpreV (va_recv hX.1 hP (ci := 9) (q0 := 0) rfl rfl) hX hP hD hS hA [0, 1, 2, 3] rfl (by decide)) rfl rfl hl.1 rfl (lv_room (Nat.le_of_ble_eq_true rfl)) dX9_overlap_29 ⟨Nat.le_of_ble_eq_true rfl, Nat.le_of_ble_eq_true rfl⟩) hP hD hS hA [0, 1, 2, 3] [] rfl rfl (by decide) (by decide) (fun u11 H locs hp hP hD hS => ?_)
        refine W.cs (cells' := 0) (slots' := 0) rfl rfl ?_
        obtain ⟨v12, f13⟩ := u11
        have hq14 : 1 ≤ v12.toInt ∧ v12.toInt ≤ 1 := hp
        have hP : va_P g.1 vwCl [(h0, .inr (9, [.ref h0_told, .ref h0_read, .ref h0_now, .ref h0_readNow, .ref h0_kept, .int h0_undone, .int h0_seed, .int h0_hasPart, .ref h0_tape, .int h0_taped, .ref h0_refused, .int h0_faultKind, .int h0_faultPlace, .int h0_size, .int h0_at, .int h0_from, .int h0_wrong, .int h0_wrongAt, .ref h0_ownLetters, .ref h0_flats, .int v12, .ref h0_corner, .ref h0_wayX, .ref h0_wayY, .ref h0_normal, .ref h0_low, .ref h0_high, .ref h0_clear, .ref h0_ways, .ref h0_canBe, .ref h0_lain, .int h0_canTool, .ref h0_fewestBy, .ref h0_sortOf, .int h0_rows, .ref h0_seenFlange, .ref h0_seenLength])), (h0_flats, .inl (g.2.1.1, 72, .inl f13)), (h0_told, .inl (g.2.1.1, 103, .inl f_h0_told)), (h0_now, .inl (g.2.1.1, 21, .inl f_h0_now))] H := hP
        have hD : va_D A [(h0, .inr (9, [.ref h0_told, .ref h0_read, .ref h0_now, .ref h0_readNow, .ref h0_kept, .int h0_undone, .int h0_seed, .int h0_hasPart, .ref h0_tape, .int h0_taped, .ref h0_refused, .int h0_faultKind, .int h0_faultPlace, .int h0_size, .int h0_at, .int h0_from, .int h0_wrong, .int h0_wrongAt, .ref h0_ownLetters, .ref h0_flats, .int v12, .ref h0_corner, .ref h0_wayX, .ref h0_wayY, .ref h0_normal, .ref h0_low, .ref h0_high, .ref h0_clear, .ref h0_ways, .ref h0_canBe, .ref h0_lain, .int h0_canTool, .ref h0_fewestBy, .ref h0_sortOf, .int h0_rows, .ref h0_seenFlange, .ref h0_seenLength])), (h0_flats, .inl (g.2.1.1, 72, .inl f13)), (h0_told, .inl (g.2.1.1, 103, .inl f_h0_told)), (h0_now, .inl (g.2.1.1, 21, .inl f_h0_now))] := hD
        refine lv_iconst (v := 0) hx hb dX9_overlap_32 (by decide) ?_
        refine lv_istore_n (lv' := [(3, .int 0), (0, .ref h0), (1, .int x1), (2, .int x2)]) hx hb dX9_overlap_33 rfl hl (by decide) rfl (fun ls hl => ?_)
        refine lv_iconst (v := 0) hx hb dX9_overlap_34 (by decide) ?_
        refine lv_istore (lv' := [(4, .int 0), (3, .int 0), (0, .ref h0), (1, .int x1), (2, .int x2)]) hx hb dX9_overlap_35 hl (by decide) rfl (fun ls hl => ?_)
        have L2153 : ∀ (n : Nat) (v1998 : Int32) (v1999 : Int32) (H : Heap) (locs : List Loc) (ls : Array Slot), 0 ≤ v1999.toInt ∧ v1999.toInt ≤ 17 → (18 - v1999.toInt).toNat < n → va_P g.1 vwCl [(h0, .inr (9, [.ref h0_told, .ref h0_read, .ref h0_now, .ref h0_readNow, .ref h0_kept, .int h0_undone, .int h0_seed, .int h0_hasPart, .ref h0_tape, .int h0_taped, .ref h0_refused, .int h0_faultKind, .int h0_faultPlace, .int h0_size, .int h0_at, .int h0_from, .int h0_wrong, .int h0_wrongAt, .ref h0_ownLetters, .ref h0_flats, .int v12, .ref h0_corner, .ref h0_wayX, .ref h0_wayY, .ref h0_normal, .ref h0_low, .ref h0_high, .ref h0_clear, .ref h0_ways, .ref h0_canBe, .ref h0_lain, .int h0_canTool, .ref h0_fewestBy, .ref h0_sortOf, .int h0_rows, .ref h0_seenFlange, .ref h0_seenLength])), (h0_flats, .inl (g.2.1.1, 72, .inl f13)), (h0_told, .inl (g.2.1.1, 103, .inl f_h0_told)), (h0_now, .inl (g.2.1.1, 21, .inl f_h0_now))] H → va_D A [(h0, .inr (9, [.ref h0_told, .ref h0_read, .ref h0_now, .ref h0_readNow, .ref h0_kept, .int h0_undone, .int h0_seed, .int h0_hasPart, .ref h0_tape, .int h0_taped, .ref h0_refused, .int h0_faultKind, .int h0_faultPlace, .int h0_size, .int h0_at, .int h0_from, .int h0_wrong, .int h0_wrongAt, .ref h0_ownLetters, .ref h0_flats, .int v12, .ref h0_corner, .ref h0_wayX, .ref h0_wayY, .ref h0_normal, .ref h0_low, .ref h0_high, .ref h0_clear, .ref h0_ways, .ref h0_canBe, .ref h0_lain, .int h0_canTool, .ref h0_fewestBy, .ref h0_sortOf, .int h0_rows, .ref h0_seenFlange, .ref h0_seenLength])), (h0_flats, .inl (g.2.1.1, 72, .inl f13)), (h0_told, .inl (g.2.1.1, 103, .inl f_h0_told)), (h0_now, .inl (g.2.1.1, 21, .inl f_h0_now))] → va_S A s.heap H locs → lv_has ls 6 [(0, .ref h0), (1, .int x1), (2, .int x2), (3, .int v1998), (4, .int v1999)] → W p l e rm_kX9_overlap s m args below meth c H locs 0 0 Q (F0 m 37 ls []) := by
          intro n2154
          induction n2154 with
          | zero => intro v1998 v1999 H locs ls i2156 hm2157; exact absurd hm2157 (Nat.not_lt_zero _)
          | succ n2154 ih2155 =>
            intro v1998 v1999 H locs ls i2156 hm2157 hP hD hS hl
            refine lv_iload hx hb dX9_overlap_37 (lv_at hl 4 rfl) ?_
            refine lv_bipush (v := 17) hx hb dX9_overlap_39 (by decide) ?_
            refine lv_icmp_ge (tgt := 121) hx hb dX9_overlap_41 (by decide) (fun c2158 => ?_) (fun c2158 => ?_)
            · skip
              have c2158i : (17 : Int) ≤ v1999.toInt := (zc_le (show (17 : Int32).toInt = (17 : Int) from by decide) (rfl : v1999.toInt = _)).mp c2158
              refine lv_iload_n hx hb dX9_overlap_121 rfl (lv_at hl 1 rfl) ?_
              refine lv_iconst (v := (-1)) hx hb dX9_overlap_122 (by decide) ?_
              refine lv_icmp_ne (tgt := 130) hx hb dX9_overlap_123 (by decide) (fun c2159 => ?_) (fun c2159 => ?_)
              · skip
                have c2159i : ¬ (x1.toInt = (-1 : Int)) := fun q => c2159 ((zc_eq (rfl : x1.toInt = _) (show (-1 : Int32).toInt = (-1 : Int) from by decide)).mpr q)
                refine lv_iconst (v := (-1)) hx hb dX9_overlap_130 (by decide) ?_
                exact hret (-1 : Int32) (v12, f13) (Nat.le_of_ble_eq_true rfl) (Nat.le_of_ble_eq_true rfl) rfl (om_450 hq14) hP hD hS dX9_overlap_131
              · skip
                have c2159i : x1.toInt = (-1 : Int) := (zc_eq (rfl : x1.toInt = _) (show (-1 : Int32).toInt = (-1 : Int) from by decide)).mp c2159
                refine lv_iload_n hx hb dX9_overlap_126 rfl (lv_at hl 3 rfl) ?_
                refine lv_goto (tgt := 131) hx hb dX9_overlap_127 (by decide) ?_
                exact hret v1998 (v12, f13) (Nat.le_of_ble_eq_true rfl) (Nat.le_of_ble_eq_true rfl) rfl (om_450 hq14) hP hD hS dX9_overlap_131
            · skip
              have c2158i : ¬ ((17 : Int) ≤ v1999.toInt) := fun q => c2158 ((zc_le (show (17 : Int32).toInt = (17 : Int) from by decide) (rfl : v1999.toInt = _)).mpr q)
              refine lv_iload hx hb dX9_overlap_44 (lv_at hl 4 rfl) ?_
              refine lv_iconst (v := 1) hx hb dX9_overlap_46 (by decide) ?_
              refine lv_iadd hx hb dX9_overlap_47 ?_
              refine lv_topi (fun z2160 e2161 => ?_)
              have f2162 : z2160.toInt = v1999.toInt + (1 : Int) := za e2161 (rfl : v1999.toInt = _) (show (1 : Int32).toInt = (1 : Int) from by decide) (om_476 c2158i i2156)
              refine lv_istore (lv' := [(5, .int z2160), (0, .ref h0), (1, .int x1), (2, .int x2), (3, .int v1998), (4, .int v1999)]) hx hb dX9_overlap_48 hl (by decide) rfl (fun ls hl => ?_)
              have L2274 : ∀ (n : Nat) (v2236 : Int32) (v2237 : Int32) (H : Heap) (locs : List Loc) (ls : Array Slot), 1 ≤ v2237.toInt ∧ v2237.toInt ≤ 17 → (18 - v2237.toInt).toNat < n → va_P g.1 vwCl [(h0, .inr (9, [.ref h0_told, .ref h0_read, .ref h0_now, .ref h0_readNow, .ref h0_kept, .int h0_undone, .int h0_seed, .int h0_hasPart, .ref h0_tape, .int h0_taped, .ref h0_refused, .int h0_faultKind, .int h0_faultPlace, .int h0_size, .int h0_at, .int h0_from, .int h0_wrong, .int h0_wrongAt, .ref h0_ownLetters, .ref h0_flats, .int v12, .ref h0_corner, .ref h0_wayX, .ref h0_wayY, .ref h0_normal, .ref h0_low, .ref h0_high, .ref h0_clear, .ref h0_ways, .ref h0_canBe, .ref h0_lain, .int h0_canTool, .ref h0_fewestBy, .ref h0_sortOf, .int h0_rows, .ref h0_seenFlange, .ref h0_seenLength])), (h0_flats, .inl (g.2.1.1, 72, .inl f13)), (h0_told, .inl (g.2.1.1, 103, .inl f_h0_told)), (h0_now, .inl (g.2.1.1, 21, .inl f_h0_now))] H → va_D A [(h0, .inr (9, [.ref h0_told, .ref h0_read, .ref h0_now, .ref h0_readNow, .ref h0_kept, .int h0_undone, .int h0_seed, .int h0_hasPart, .ref h0_tape, .int h0_taped, .ref h0_refused, .int h0_faultKind, .int h0_faultPlace, .int h0_size, .int h0_at, .int h0_from, .int h0_wrong, .int h0_wrongAt, .ref h0_ownLetters, .ref h0_flats, .int v12, .ref h0_corner, .ref h0_wayX, .ref h0_wayY, .ref h0_normal, .ref h0_low, .ref h0_high, .ref h0_clear, .ref h0_ways, .ref h0_canBe, .ref h0_lain, .int h0_canTool, .ref h0_fewestBy, .ref h0_sortOf, .int h0_rows, .ref h0_seenFlange, .ref h0_seenLength])), (h0_flats, .inl (g.2.1.1, 72, .inl f13)), (h0_told, .inl (g.2.1.1, 103, .inl f_h0_told)), (h0_now, .inl (g.2.1.1, 21, .inl f_h0_now))] → va_S A s.heap H locs → lv_has ls 6 [(0, .ref h0), (1, .int x1), (2, .int x2), (3, .int v2236), (4, .int v1999), (5, .int v2237)] → W p l e rm_kX9_overlap s m args below meth c H locs 0 0 Q (F0 m 50 ls []) := by
                intro n2275
                induction n2275 with
                | zero => intro v2236 v2237 H locs ls i2277 hm2278; exact absurd hm2278 (Nat.not_lt_zero _)
                | succ n2275 ih2276 =>
                  intro v2236 v2237 H locs ls i2277 hm2278 hP hD hS hl
                  refine lv_iload hx hb dX9_overlap_50 (lv_at hl 5 rfl) ?_
                  refine lv_bipush (v := 17) hx hb dX9_overlap_52 (by decide) ?_
                  refine lv_icmp_ge (tgt := 115) hx hb dX9_overlap_54 (by decide) (fun c2279 => ?_) (fun c2279 => ?_)
                  · skip
                    have c2279i : (17 : Int) ≤ v2237.toInt := (zc_le (show (17 : Int32).toInt = (17 : Int) from by decide) (rfl : v2237.toInt = _)).mp c2279
                    obtain ⟨z2280, e2281⟩ : ∃ y9 : Int32, y9 = v1999 + 1 := ⟨_, rfl⟩
                    have f2282 : z2280.toInt = v1999.toInt + 1 := za e2281 (rfl : v1999.toInt = _) (show (1 : Int32).toInt = (1 : Int) from by decide) (om_451 c2158i i2156)
                    refine lv_iinc (v := z2280) (lv' := [(4, .int z2280), (0, .ref h0), (1, .int x1), (2, .int x2), (3, .int v2236), (5, .int v2237)]) hx hb dX9_overlap_115 hl (k := 4) rfl (by rw [e2281]; rfl) (by decide) rfl (fun ls hl => ?_)
                    refine lv_goto (tgt := 37) hx hb dX9_overlap_118 (by decide) ?_
                    exact ih2155 v2236 z2280 H locs ls (om_452 c2158i f2282 i2156) (zdec hm2157 (om_453 c2158i f2282)) hP hD hS (lv_sub hl [1, 2, 3, 4, 0] rfl)
                  · skip
                    have c2279i : ¬ ((17 : Int) ≤ v2237.toInt) := fun q => c2279 ((zc_le (show (17 : Int32).toInt = (17 : Int) from by decide) (rfl : v2237.toInt = _)).mpr q)
                    refine lv_aload_n hx hb dX9_overlap_57 rfl (lv_at hl 0 rfl) ?_
                    refine lv_iload hx hb dX9_overlap_58 (lv_at hl 4 rfl) ?_
                    refine zfi (wr := [(h0_flats, .inl (g.2.1.1, 72, .inl f13)), (h0_now, .inl (g.2.1.1, 21, .inl f_h0_now))]) (va_runV (As := [.int v1999]) (rest := []) ⟨hx, hb, hml, hown, hG⟩ (kX9_isPiece l g h0 v1999 h0_told h0_read h0_now h0_readNow h0_kept h0_undone h0_seed h0_hasPart h0_tape h0_taped h0_refused h0_faultKind h0_faultPlace h0_size h0_at h0_from h0_wrong h0_wrongAt h0_ownLetters h0_flats v12 h0_corner h0_wayX h0_wayY h0_normal h0_low h0_high h0_clear h0_ways h0_canBe h0_lain h0_canTool h0_fewestBy h0_sortOf h0_rows h0_seenFlange h0_seenLength f_h0_told h0_told_3 h0_told_4 (om_27 hy0) (om_28 hy1) (om_29 hy2) (om_32 hy3) (om_31 hy4) (om_32 hy5) (om_32 hy6) (om_32 hy7) (om_31 hy8) (om_450 hq14) (om_13 hy10) (om_33 hy11) hy12 (om_155 hy13) hy14 (om_33 hy15) hy16 (om_400 c1i hy2 hy20) _) ⟨callB_of 1 hG (zGood wc_X9_isPiece) rfl rfl rfl (hG _ wini_X9) (hG _ wm_X9_251) hX9_isPiece ⟨Nat.le_of_ble_eq_true rfl, Nat.le_of_ble_eq_true rfl⟩, hG _ wi_X9_isPiece, hG _ wse_X9_X9_isPiece⟩ (zpreV (va_recv hX.1 hP (ci := 9) (q0 := 0) rfl rfl) hX hP hD hS hA [0, 2] rfl (by decide)) rfl rfl hl.1 rfl (lv_room (Nat.le_of_ble_eq_true rfl)) dX9_overlap_60 ⟨Nat.le_of_ble_eq_true rfl, Nat.le_of_ble_eq_true rfl⟩) hP hD hS hA [0, 2] [1, 3] rfl rfl (by decide) (by decide) (fun r2283 _ H locs hp hP hD hS => ?_)
                    refine W.cs (cells' := 0) (slots' := 0) rfl rfl ?_
                    obtain ⟨hq2284, hq2285⟩ : (0 ≤ r2283.toInt ∧ r2283.toInt ≤ 1) ∧ ((r2283.toInt = 0 ∨ (0 ≤ v1999.toInt ∧ v1999.toInt ≤ 16 ∧ h0_hasPart.toInt = 1 ∧ 1 ≤ h0_told_3.toInt))) := hp
                    have hP : va_P g.1 vwCl [(h0_flats, .inl (g.2.1.1, 72, .inl f13)), (h0_now, .inl (g.2.1.1, 21, .inl f_h0_now)), (h0, .inr (9, [.ref h0_told, .ref h0_read, .ref h0_now, .ref h0_readNow, .ref h0_kept, .int h0_undone, .int h0_seed, .int h0_hasPart, .ref h0_tape, .int h0_taped, .ref h0_refused, .int h0_faultKind, .int h0_faultPlace, .int h0_size, .int h0_at, .int h0_from, .int h0_wrong, .int h0_wrongAt, .ref h0_ownLetters, .ref h0_flats, .int v12, .ref h0_corner, .ref h0_wayX, .ref h0_wayY, .ref h0_normal, .ref h0_low, .ref h0_high, .ref h0_clear, .ref h0_ways, .ref h0_canBe, .ref h0_lain, .int h0_canTool, .ref h0_fewestBy, .ref h0_sortOf, .int h0_rows, .ref h0_seenFlange, .ref h0_seenLength])), (h0_told, .inl (g.2.1.1, 103, .inl f_h0_told))] H := hP
                    have hD : va_D A [(h0_flats, .inl (g.2.1.1, 72, .inl f13)), (h0_now, .inl (g.2.1.1, 21, .inl f_h0_now)), (h0, .inr (9, [.ref h0_told, .ref h0_read, .ref h0_now, .ref h0_readNow, .ref h0_kept, .int h0_undone, .int h0_seed, .int h0_hasPart, .ref h0_tape, .int h0_taped, .ref h0_refused, .int h0_faultKind, .int h0_faultPlace, .int h0_size, .int h0_at, .int h0_from, .int h0_wrong, .int h0_wrongAt, .ref h0_ownLetters, .ref h0_flats, .int v12, .ref h0_corner, .ref h0_wayX, .ref h0_wayY, .ref h0_normal, .ref h0_low, .ref h0_high, .ref h0_clear, .ref h0_ways, .ref h0_canBe, .ref h0_lain, .int h0_canTool, .ref h0_fewestBy, .ref h0_sortOf, .int h0_rows, .ref h0_seenFlange, .ref h0_seenLength])), (h0_told, .inl (g.2.1.1, 103, .inl f_h0_told))] := hD
                    have J2299 : ∀  (v2298 : Int32) (H : Heap) (locs : List Loc) (ls : Array Slot), va_P g.1 vwCl [(h0_flats, .inl (g.2.1.1, 72, .inl f13)), (h0_now, .inl (g.2.1.1, 21, .inl f_h0_now)), (h0, .inr (9, [.ref h0_told, .ref h0_read, .ref h0_now, .ref h0_readNow, .ref h0_kept, .int h0_undone, .int h0_seed, .int h0_hasPart, .ref h0_tape, .int h0_taped, .ref h0_refused, .int h0_faultKind, .int h0_faultPlace, .int h0_size, .int h0_at, .int h0_from, .int h0_wrong, .int h0_wrongAt, .ref h0_ownLetters, .ref h0_flats, .int v12, .ref h0_corner, .ref h0_wayX, .ref h0_wayY, .ref h0_normal, .ref h0_low, .ref h0_high, .ref h0_clear, .ref h0_ways, .ref h0_canBe, .ref h0_lain, .int h0_canTool, .ref h0_fewestBy, .ref h0_sortOf, .int h0_rows, .ref h0_seenFlange, .ref h0_seenLength])), (h0_told, .inl (g.2.1.1, 103, .inl f_h0_told))] H → va_D A [(h0_flats, .inl (g.2.1.1, 72, .inl f13)), (h0_now, .inl (g.2.1.1, 21, .inl f_h0_now)), (h0, .inr (9, [.ref h0_told, .ref h0_read, .ref h0_now, .ref h0_readNow, .ref h0_kept, .int h0_undone, .int h0_seed, .int h0_hasPart, .ref h0_tape, .int h0_taped, .ref h0_refused, .int h0_faultKind, .int h0_faultPlace, .int h0_size, .int h0_at, .int h0_from, .int h0_wrong, .int h0_wrongAt, .ref h0_ownLetters, .ref h0_flats, .int v12, .ref h0_corner, .ref h0_wayX, .ref h0_wayY, .ref h0_normal, .ref h0_low, .ref h0_high, .ref h0_clear, .ref h0_ways, .ref h0_canBe, .ref h0_lain, .int h0_canTool, .ref h0_fewestBy, .ref h0_sortOf, .int h0_rows, .ref h0_seenFlange, .ref h0_seenLength])), (h0_told, .inl (g.2.1.1, 103, .inl f_h0_told))] → va_S A s.heap H locs → lv_has ls 6 [(0, .ref h0), (1, .int x1), (2, .int x2), (3, .int v2298), (4, .int v1999), (5, .int v2237)] → W p l e rm_kX9_overlap s m args below meth c H locs 0 0 Q (F0 m 109 ls []) := by
                      intro v2298 H locs ls  hP hD hS hl
                      obtain ⟨z2300, e2301⟩ : ∃ y9 : Int32, y9 = v2237 + 1 := ⟨_, rfl⟩
                      have f2302 : z2300.toInt = v2237.toInt + 1 := za e2301 (rfl : v2237.toInt = _) (show (1 : Int32).toInt = (1 : Int) from by decide) (om_477 c2279i i2277)
                      refine lv_iinc (v := z2300) (lv' := [(5, .int z2300), (0, .ref h0), (1, .int x1), (2, .int x2), (3, .int v2298), (4, .int v1999)]) hx hb dX9_overlap_109 hl (k := 5) rfl (by rw [e2301]; rfl) (by decide) rfl (fun ls hl => ?_)
                      refine lv_goto (tgt := 50) hx hb dX9_overlap_112 (by decide) ?_
                      exact ih2276 v2298 z2300 H locs ls (om_478 c2279i f2302 i2277) (zdec hm2278 (om_453 c2279i f2302)) (hP.sub [2, 0, 3, 1] rfl) (hD.sub [2, 0, 3, 1] (by decide) rfl) hS (lv_sub hl [1, 2, 3, 4, 5, 0] rfl)
                    refine lv_if_eq (tgt := 109) hx hb dX9_overlap_63 (by decide) (fun c2303 => ?_) (fun c2303 => ?_)
                    · skip
                      have c2303i : r2283.toInt = (0 : Int) := (zc_eq (rfl : r2283.toInt = _) (show (0 : Int32).toInt = (0 : Int) from by decide)).mp c2303
                      exact J2299 v2236 H locs ls  hP hD hS (lv_sub hl [0, 1, 2, 3, 4, 5] rfl)
                    · skip
                      have c2303i : ¬ (r2283.toInt = (0 : Int)) := fun q => c2303 ((zc_eq (rfl : r2283.toInt = _) (show (0 : Int32).toInt = (0 : Int) from by decide)).mpr q)
                      refine lv_aload_n hx hb dX9_overlap_66 rfl (lv_at hl 0 rfl) ?_
                      refine lv_iload hx hb dX9_overlap_67 (lv_at hl 5 rfl) ?_
                      refine zfi (wr := [(h0_flats, .inl (g.2.1.1, 72, .inl f13)), (h0_now, .inl (g.2.1.1, 21, .inl f_h0_now))]) (va_runV (As := [.int v2237]) (rest := []) ⟨hx, hb, hml, hown, hG⟩ (kX9_isPiece l g h0 v2237 h0_told h0_read h0_now h0_readNow h0_kept h0_undone h0_seed h0_hasPart h0_tape h0_taped h0_refused h0_faultKind h0_faultPlace h0_size h0_at h0_from h0_wrong h0_wrongAt h0_ownLetters h0_flats v12 h0_corner h0_wayX h0_wayY h0_normal h0_low h0_high h0_clear h0_ways h0_canBe h0_lain h0_canTool h0_fewestBy h0_sortOf h0_rows h0_seenFlange h0_seenLength f_h0_told h0_told_3 h0_told_4 (om_27 hy0) (om_28 hy1) (om_29 hy2) (om_32 hy3) (om_31 hy4) (om_32 hy5) (om_32 hy6) (om_32 hy7) (om_31 hy8) (om_450 hq14) (om_13 hy10) (om_33 hy11) hy12 (om_155 hy13) hy14 (om_33 hy15) hy16 (om_400 c1i hy2 hy20) _) ⟨callB_of 1 hG (zGood wc_X9_isPiece) rfl rfl rfl (hG _ wini_X9) (hG _ wm_X9_251) hX9_isPiece ⟨Nat.le_of_ble_eq_true rfl, Nat.le_of_ble_eq_true rfl⟩, hG _ wi_X9_isPiece, hG _ wse_X9_X9_isPiece⟩ (zpreV (va_recv hX.1 hP (ci := 9) (q0 := 2) rfl rfl) hX hP hD hS hA [2, 3] rfl (by decide)) rfl rfl hl.1 rfl (lv_room (Nat.le_of_ble_eq_true rfl)) dX9_overlap_69 ⟨Nat.le_of_ble_eq_true rfl, Nat.le_of_ble_eq_true rfl⟩) hP hD hS hA [2, 3] [0, 1] rfl rfl (by decide) (by decide) (fun r2304 _ H locs hp hP hD hS => ?_)
                      refine W.cs (cells' := 0) (slots' := 0) rfl rfl ?_
                      obtain ⟨hq2305, hq2306⟩ : (0 ≤ r2304.toInt ∧ r2304.toInt ≤ 1) ∧ ((r2304.toInt = 0 ∨ (0 ≤ v2237.toInt ∧ v2237.toInt ≤ 16 ∧ h0_hasPart.toInt = 1 ∧ 1 ≤ h0_told_3.toInt))) := hp
                      have hP : va_P g.1 vwCl [(h0_flats, .inl (g.2.1.1, 72, .inl f13)), (h0_now, .inl (g.2.1.1, 21, .inl f_h0_now)), (h0, .inr (9, [.ref h0_told, .ref h0_read, .ref h0_now, .ref h0_readNow, .ref h0_kept, .int h0_undone, .int h0_seed, .int h0_hasPart, .ref h0_tape, .int h0_taped, .ref h0_refused, .int h0_faultKind, .int h0_faultPlace, .int h0_size, .int h0_at, .int h0_from, .int h0_wrong, .int h0_wrongAt, .ref h0_ownLetters, .ref h0_flats, .int v12, .ref h0_corner, .ref h0_wayX, .ref h0_wayY, .ref h0_normal, .ref h0_low, .ref h0_high, .ref h0_clear, .ref h0_ways, .ref h0_canBe, .ref h0_lain, .int h0_canTool, .ref h0_fewestBy, .ref h0_sortOf, .int h0_rows, .ref h0_seenFlange, .ref h0_seenLength])), (h0_told, .inl (g.2.1.1, 103, .inl f_h0_told))] H := hP
                      have hD : va_D A [(h0_flats, .inl (g.2.1.1, 72, .inl f13)), (h0_now, .inl (g.2.1.1, 21, .inl f_h0_now)), (h0, .inr (9, [.ref h0_told, .ref h0_read, .ref h0_now, .ref h0_readNow, .ref h0_kept, .int h0_undone, .int h0_seed, .int h0_hasPart, .ref h0_tape, .int h0_taped, .ref h0_refused, .int h0_faultKind, .int h0_faultPlace, .int h0_size, .int h0_at, .int h0_from, .int h0_wrong, .int h0_wrongAt, .ref h0_ownLetters, .ref h0_flats, .int v12, .ref h0_corner, .ref h0_wayX, .ref h0_wayY, .ref h0_normal, .ref h0_low, .ref h0_high, .ref h0_clear, .ref h0_ways, .ref h0_canBe, .ref h0_lain, .int h0_canTool, .ref h0_fewestBy, .ref h0_sortOf, .int h0_rows, .ref h0_seenFlange, .ref h0_seenLength])), (h0_told, .inl (g.2.1.1, 103, .inl f_h0_told))] := hD
                      refine lv_if_eq (tgt := 109) hx hb dX9_overlap_72 (by decide) (fun c2307 => ?_) (fun c2307 => ?_)
                      · skip
                        have c2307i : r2304.toInt = (0 : Int) := (zc_eq (rfl : r2304.toInt = _) (show (0 : Int32).toInt = (0 : Int) from by decide)).mp c2307
                        exact J2299 v2236 H locs ls  hP hD hS (lv_sub hl [0, 1, 2, 3, 4, 5] rfl)
                      · skip
                        have c2307i : ¬ (r2304.toInt = (0 : Int)) := fun q => c2307 ((zc_eq (rfl : r2304.toInt = _) (show (0 : Int32).toInt = (0 : Int) from by decide)).mpr q)
                        refine lv_aload_n hx hb dX9_overlap_75 rfl (lv_at hl 0 rfl) ?_
                        refine lv_iload hx hb dX9_overlap_76 (lv_at hl 4 rfl) ?_
                        refine lv_iload hx hb dX9_overlap_78 (lv_at hl 5 rfl) ?_
                        refine zfi (wr := [(h0_now, .inl (g.2.1.1, 21, .inl f_h0_now)), (h0_told, .inl (g.2.1.1, 103, .inl f_h0_told))]) (va_runV (As := [.int v1999, .int v2237]) (rest := []) ⟨hx, hb, hml, hown, hG⟩ (kX9_doOverlap l g h0 v1999 v2237 h0_told h0_read h0_now h0_readNow h0_kept h0_undone h0_seed h0_hasPart h0_tape h0_taped h0_refused h0_faultKind h0_faultPlace h0_size h0_at h0_from h0_wrong h0_wrongAt h0_ownLetters h0_flats v12 h0_corner h0_wayX h0_wayY h0_normal h0_low h0_high h0_clear h0_ways h0_canBe h0_lain h0_canTool h0_fewestBy h0_sortOf h0_rows h0_seenFlange h0_seenLength f13 (om_479 c2158i i2156) (om_480 c2279i i2277) (om_27 hy0) (om_28 hy1) (om_29 hy2) (om_32 hy3) (om_31 hy4) (om_32 hy5) (om_32 hy6) (om_32 hy7) (om_31 hy8) (om_450 hq14) (om_13 hy10) (om_33 hy11) _) ⟨callB_of 2 hG (zGood wc_X9_doOverlap) rfl rfl rfl (hG _ wini_X9) (hG _ wm_X9_258) hX9_doOverlap ⟨Nat.le_of_ble_eq_true rfl, Nat.le_of_ble_eq_true rfl⟩, hG _ wi_X9_doOverlap, hG _ wse_X9_X9_doOverlap⟩ (zpreV (va_recv hX.1 hP (ci := 9) (q0 := 2) rfl rfl) hX hP hD hS hA [2, 0] rfl (by decide)) rfl rfl hl.1 rfl (lv_room (Nat.le_of_ble_eq_true rfl)) dX9_overlap_80 ⟨Nat.le_of_ble_eq_true rfl, Nat.le_of_ble_eq_true rfl⟩) hP hD hS hA [2, 0] [1, 3] rfl rfl (by decide) (by decide) (fun r2308 _ H locs hp hP hD hS => ?_)
                        refine W.cs (cells' := 0) (slots' := 0) rfl rfl ?_
                        have hq2309 : 0 ≤ r2308.toInt ∧ r2308.toInt ≤ 1 := hp
                        have hP : va_P g.1 vwCl [(h0_now, .inl (g.2.1.1, 21, .inl f_h0_now)), (h0_told, .inl (g.2.1.1, 103, .inl f_h0_told)), (h0, .inr (9, [.ref h0_told, .ref h0_read, .ref h0_now, .ref h0_readNow, .ref h0_kept, .int h0_undone, .int h0_seed, .int h0_hasPart, .ref h0_tape, .int h0_taped, .ref h0_refused, .int h0_faultKind, .int h0_faultPlace, .int h0_size, .int h0_at, .int h0_from, .int h0_wrong, .int h0_wrongAt, .ref h0_ownLetters, .ref h0_flats, .int v12, .ref h0_corner, .ref h0_wayX, .ref h0_wayY, .ref h0_normal, .ref h0_low, .ref h0_high, .ref h0_clear, .ref h0_ways, .ref h0_canBe, .ref h0_lain, .int h0_canTool, .ref h0_fewestBy, .ref h0_sortOf, .int h0_rows, .ref h0_seenFlange, .ref h0_seenLength])), (h0_flats, .inl (g.2.1.1, 72, .inl f13))] H := hP
                        have hD : va_D A [(h0_now, .inl (g.2.1.1, 21, .inl f_h0_now)), (h0_told, .inl (g.2.1.1, 103, .inl f_h0_told)), (h0, .inr (9, [.ref h0_told, .ref h0_read, .ref h0_now, .ref h0_readNow, .ref h0_kept, .int h0_undone, .int h0_seed, .int h0_hasPart, .ref h0_tape, .int h0_taped, .ref h0_refused, .int h0_faultKind, .int h0_faultPlace, .int h0_size, .int h0_at, .int h0_from, .int h0_wrong, .int h0_wrongAt, .ref h0_ownLetters, .ref h0_flats, .int v12, .ref h0_corner, .ref h0_wayX, .ref h0_wayY, .ref h0_normal, .ref h0_low, .ref h0_high, .ref h0_clear, .ref h0_ways, .ref h0_canBe, .ref h0_lain, .int h0_canTool, .ref h0_fewestBy, .ref h0_sortOf, .int h0_rows, .ref h0_seenFlange, .ref h0_seenLength])), (h0_flats, .inl (g.2.1.1, 72, .inl f13))] := hD
                        refine lv_if_ne (tgt := 89) hx hb dX9_overlap_83 (by decide) (fun c2310 => ?_) (fun c2310 => ?_)
                        · skip
                          have c2310i : ¬ (r2308.toInt = (0 : Int)) := fun q => c2310 ((zc_eq (rfl : r2308.toInt = _) (show (0 : Int32).toInt = (0 : Int) from by decide)).mpr q)
                          refine lv_iload_n hx hb dX9_overlap_89 rfl (lv_at hl 3 rfl) ?_
                          refine lv_iload_n hx hb dX9_overlap_90 rfl (lv_at hl 1 rfl) ?_
                          refine lv_icmp_ne (tgt := 106) hx hb dX9_overlap_91 (by decide) (fun c2311 => ?_) (fun c2311 => ?_)
                          · skip
                            have c2311i : ¬ (v2236.toInt = x1.toInt) := fun q => c2311 ((zc_eq (rfl : v2236.toInt = _) (rfl : x1.toInt = _)).mpr q)
                            obtain ⟨z2312, e2313⟩ : ∃ y9 : Int32, y9 = v2236 + 1 := ⟨_, rfl⟩
                            refine lv_iinc (v := z2312) (lv' := [(3, .int z2312), (0, .ref h0), (1, .int x1), (2, .int x2), (4, .int v1999), (5, .int v2237)]) hx hb dX9_overlap_106 hl (k := 3) rfl (by rw [e2313]; rfl) (by decide) rfl (fun ls hl => ?_)
                            exact J2299 z2312 H locs ls  (hP.sub [3, 0, 2, 1] rfl) (hD.sub [3, 0, 2, 1] (by decide) rfl) hS (lv_sub hl [1, 2, 3, 0, 4, 5] rfl)
                          · skip
                            have c2311i : v2236.toInt = x1.toInt := (zc_eq (rfl : v2236.toInt = _) (rfl : x1.toInt = _)).mp c2311
                            refine lv_iload_n hx hb dX9_overlap_94 rfl (lv_at hl 2 rfl) ?_
                            refine lv_if_ne (tgt := 103) hx hb dX9_overlap_95 (by decide) (fun c2314 => ?_) (fun c2314 => ?_)
                            · skip
                              have c2314i : ¬ (x2.toInt = (0 : Int)) := fun q => c2314 ((zc_eq (rfl : x2.toInt = _) (show (0 : Int32).toInt = (0 : Int) from by decide)).mpr q)
                              refine lv_iload hx hb dX9_overlap_103 (lv_at hl 5 rfl) ?_
                              exact hret v2237 (v12, f13) (Nat.le_of_ble_eq_true rfl) (Nat.le_of_ble_eq_true rfl) rfl (om_450 hq14) (hP.sub [2, 3, 1, 0] rfl) (hD.sub [2, 3, 1, 0] (by decide) rfl) hS dX9_overlap_105
                            · skip
                              have c2314i : x2.toInt = (0 : Int) := (zc_eq (rfl : x2.toInt = _) (show (0 : Int32).toInt = (0 : Int) from by decide)).mp c2314
                              refine lv_iload hx hb dX9_overlap_98 (lv_at hl 4 rfl) ?_
                              refine lv_goto (tgt := 105) hx hb dX9_overlap_100 (by decide) ?_
                              exact hret v1999 (v12, f13) (Nat.le_of_ble_eq_true rfl) (Nat.le_of_ble_eq_true rfl) rfl (om_450 hq14) (hP.sub [2, 3, 1, 0] rfl) (hD.sub [2, 3, 1, 0] (by decide) rfl) hS dX9_overlap_105
                        · skip
                          have c2310i : r2308.toInt = (0 : Int) := (zc_eq (rfl : r2308.toInt = _) (show (0 : Int32).toInt = (0 : Int) from by decide)).mp c2310
                          refine lv_goto (tgt := 109) hx hb dX9_overlap_86 (by decide) ?_
                          exact J2299 v2236 H locs ls  (hP.sub [3, 0, 2, 1] rfl) (hD.sub [3, 0, 2, 1] (by decide) rfl) hS (lv_sub hl [0, 1, 2, 3, 4, 5] rfl)
              exact L2274 _ v1998 z2160 H locs ls (om_481 c2158i f2162 i2156) (Nat.lt_succ_self _) hP hD hS (lv_sub hl [1, 2, 3, 4, 5, 0] rfl)
        exact L2153 _ (0 : Int32) (0 : Int32) H locs ls ((show 0 ≤ (0 : Int) ∧ (0 : Int) ≤ 17 from by decide)) (Nat.lt_succ_self _) hP hD hS (lv_sub hl [2, 3, 4, 1, 0] rfl)
      refine lv_icmp_eq (tgt := 28) hx hb dX9_overlap_14 (by decide) (fun c2315 => ?_) (fun c2315 => ?_)
      · skip
        have c2315i : x1.toInt = (-1 : Int) := (zc_eq (rfl : x1.toInt = _) (show (-1 : Int32).toInt = (-1 : Int) from by decide)).mp c2315
        exact J9 _ _ ls  hP hD hS (lv_sub hl [0, 1, 2] rfl)
      · skip
        have c2315i : ¬ (x1.toInt = (-1 : Int)) := fun q => c2315 ((zc_eq (rfl : x1.toInt = _) (show (-1 : Int32).toInt = (-1 : Int) from by decide)).mpr q)
        refine lv_iload_n hx hb dX9_overlap_17 rfl (lv_at hl 2 rfl) ?_
        refine lv_iconst (v := 0) hx hb dX9_overlap_18 (by decide) ?_
        refine lv_iconst (v := 1) hx hb dX9_overlap_19 (by decide) ?_
        refine zfi (wr := [(h0, .inr (9, [.ref h0_told, .ref h0_read, .ref h0_now, .ref h0_readNow, .ref h0_kept, .int h0_undone, .int h0_seed, .int h0_hasPart, .ref h0_tape, .int h0_taped, .ref h0_refused, .int h0_faultKind, .int h0_faultPlace, .int h0_size, .int h0_at, .int h0_from, .int h0_wrong, .int h0_wrongAt, .ref h0_ownLetters, .ref h0_flats, .int h0_isLaid, .ref h0_corner, .ref h0_wayX, .ref h0_wayY, .ref h0_normal, .ref h0_low, .ref h0_high, .ref h0_clear, .ref h0_ways, .ref h0_canBe, .ref h0_lain, .int h0_canTool, .ref h0_fewestBy, .ref h0_sortOf, .int h0_rows, .ref h0_seenFlange, .ref h0_seenLength])), (h0_flats, .inl (g.2.1.1, 72, .inl f_h0_flats)), (h0_told, .inl (g.2.1.1, 103, .inl f_h0_told)), (h0_now, .inl (g.2.1.1, 21, .inl f_h0_now))]) (va_runS (As := [.int x2, .int 0, .int 1]) (rest := []) ⟨hx, hb, hml, hown, hG⟩ (kX9_isIn l g x2 (0 : Int32) (1 : Int32) _) ⟨callB_of 3 hG (zGood wc_X9_isIn) rfl rfl rfl (hG _ wini_X9) (hG _ wm_X9_163) hX9_isIn ⟨Nat.le_of_ble_eq_true rfl, Nat.le_of_ble_eq_true rfl⟩, hG _ ws_X9_isIn⟩ (zpreS hX hP hD hS hA [] rfl (by decide)) rfl rfl hl.1 rfl (lv_room (Nat.le_of_ble_eq_true rfl)) dX9_overlap_20 ⟨Nat.le_of_ble_eq_true rfl, Nat.le_of_ble_eq_true rfl⟩) hP hD hS hA [] [0, 1, 2, 3] rfl rfl (by decide) (by decide) (fun r2316 _ H locs hp hP hD hS => ?_)
        refine W.cs (cells' := 0) (slots' := 0) rfl rfl ?_
        obtain ⟨hq2317, hq2318, hq2319⟩ : (0 ≤ r2316.toInt ∧ r2316.toInt ≤ 1) ∧ ((r2316.toInt = 0 ∨ ((0 : Int) ≤ x2.toInt ∧ x2.toInt ≤ (1 : Int)))) ∧ ((r2316.toInt = 1 ∨ ¬ ((0 : Int) ≤ x2.toInt ∧ x2.toInt ≤ (1 : Int)))) := hp
        have hP : va_P g.1 vwCl [(h0, .inr (9, [.ref h0_told, .ref h0_read, .ref h0_now, .ref h0_readNow, .ref h0_kept, .int h0_undone, .int h0_seed, .int h0_hasPart, .ref h0_tape, .int h0_taped, .ref h0_refused, .int h0_faultKind, .int h0_faultPlace, .int h0_size, .int h0_at, .int h0_from, .int h0_wrong, .int h0_wrongAt, .ref h0_ownLetters, .ref h0_flats, .int h0_isLaid, .ref h0_corner, .ref h0_wayX, .ref h0_wayY, .ref h0_normal, .ref h0_low, .ref h0_high, .ref h0_clear, .ref h0_ways, .ref h0_canBe, .ref h0_lain, .int h0_canTool, .ref h0_fewestBy, .ref h0_sortOf, .int h0_rows, .ref h0_seenFlange, .ref h0_seenLength])), (h0_flats, .inl (g.2.1.1, 72, .inl f_h0_flats)), (h0_told, .inl (g.2.1.1, 103, .inl f_h0_told)), (h0_now, .inl (g.2.1.1, 21, .inl f_h0_now))] H := hP
        have hD : va_D A [(h0, .inr (9, [.ref h0_told, .ref h0_read, .ref h0_now, .ref h0_readNow, .ref h0_kept, .int h0_undone, .int h0_seed, .int h0_hasPart, .ref h0_tape, .int h0_taped, .ref h0_refused, .int h0_faultKind, .int h0_faultPlace, .int h0_size, .int h0_at, .int h0_from, .int h0_wrong, .int h0_wrongAt, .ref h0_ownLetters, .ref h0_flats, .int h0_isLaid, .ref h0_corner, .ref h0_wayX, .ref h0_wayY, .ref h0_normal, .ref h0_low, .ref h0_high, .ref h0_clear, .ref h0_ways, .ref h0_canBe, .ref h0_lain, .int h0_canTool, .ref h0_fewestBy, .ref h0_sortOf, .int h0_rows, .ref h0_seenFlange, .ref h0_seenLength])), (h0_flats, .inl (g.2.1.1, 72, .inl f_h0_flats)), (h0_told, .inl (g.2.1.1, 103, .inl f_h0_told)), (h0_now, .inl (g.2.1.1, 21, .inl f_h0_now))] := hD
        refine lv_if_ne (tgt := 28) hx hb dX9_overlap_23 (by decide) (fun c2320 => ?_) (fun c2320 => ?_)
        · skip
          have c2320i : ¬ (r2316.toInt = (0 : Int)) := fun q => c2320 ((zc_eq (rfl : r2316.toInt = _) (show (0 : Int32).toInt = (0 : Int) from by decide)).mpr q)
          exact J9 H locs ls  hP hD hS (lv_sub hl [0, 1, 2] rfl)
        · skip
          have c2320i : r2316.toInt = (0 : Int) := (zc_eq (rfl : r2316.toInt = _) (show (0 : Int32).toInt = (0 : Int) from by decide)).mp c2320
          refine lv_iconst (v := (-1)) hx hb dX9_overlap_26 (by decide) ?_
          exact hret (-1 : Int32) (h0_isLaid, f_h0_flats) (Nat.le_of_ble_eq_true rfl) (Nat.le_of_ble_eq_true rfl) rfl (om_29 hy9) hP hD hS dX9_overlap_27
theorem dX9_moves_0 : decode cX9_moves 0 = .ok (.iload_n 2, 1) := by decide +kernel
theorem dX9_moves_1 : decode cX9_moves 1 = .ok (.ifCond .ge 8, 3) := by decide +kernel
theorem dX9_moves_9 : decode cX9_moves 9 = .ok (.iload_n 2, 1) := by decide +kernel
theorem dX9_moves_10 : decode cX9_moves 10 = .ok (.iconst 1, 1) := by decide +kernel
theorem dX9_moves_11 : decode cX9_moves 11 = .ok (.isub, 1) := by decide +kernel
theorem dX9_moves_12 : decode cX9_moves 12 = .ok (.istore 4, 2) := by decide +kernel
theorem dX9_moves_14 : decode cX9_moves 14 = .ok (.aload_n 0, 1) := by decide +kernel
theorem dX9_moves_15 : decode cX9_moves 15 = .ok (.getfield 75, 3) := by decide +kernel
theorem dX9_moves_18 : decode cX9_moves 18 = .ok (.iconst 3, 1) := by decide +kernel
theorem dX9_moves_19 : decode cX9_moves 19 = .ok (.iload_n 1, 1) := by decide +kernel
theorem dX9_moves_20 : decode cX9_moves 20 = .ok (.imul, 1) := by decide +kernel
theorem dX9_moves_21 : decode cX9_moves 21 = .ok (.iload 4, 2) := by decide +kernel
theorem dX9_moves_23 : decode cX9_moves 23 = .ok (.iadd, 1) := by decide +kernel
theorem dX9_moves_24 : decode cX9_moves 24 = .ok (.dup2, 1) := by decide +kernel
theorem dX9_moves_25 : decode cX9_moves 25 = .ok (.iaload, 1) := by decide +kernel
theorem dX9_moves_26 : decode cX9_moves 26 = .ok (.iload_n 2, 1) := by decide +kernel
theorem dX9_moves_27 : decode cX9_moves 27 = .ok (.ifCond .ge 8, 3) := by decide +kernel
theorem dX9_moves_35 : decode cX9_moves 35 = .ok (.iload_n 3, 1) := by decide +kernel
theorem dX9_moves_36 : decode cX9_moves 36 = .ok (.iadd, 1) := by decide +kernel
theorem dX9_moves_37 : decode cX9_moves 37 = .ok (.iastore, 1) := by decide +kernel
theorem dX9_moves_38 : decode cX9_moves 38 = .ok (.return_, 1) := by decide +kernel
theorem dX9_moves_4 : decode cX9_moves 4 = .ok (.iload_n 2, 1) := by decide +kernel
theorem dX9_moves_5 : decode cX9_moves 5 = .ok (.ineg, 1) := by decide +kernel
theorem dX9_moves_6 : decode cX9_moves 6 = .ok (.goto 4, 3) := by decide +kernel
theorem dX9_moves_30 : decode cX9_moves 30 = .ok (.iload_n 3, 1) := by decide +kernel
theorem dX9_moves_31 : decode cX9_moves 31 = .ok (.ineg, 1) := by decide +kernel
theorem dX9_moves_32 : decode cX9_moves 32 = .ok (.goto 4, 3) := by decide +kernel
abbrev rm_kX9_moves : Room := { frames := 0, cells := 0, slots := 0, locals := 0 }
set_option maxHeartbeats 4000000 in
set_option maxRecDepth 100000 in
theorem kX9_moves (l : Launch) (g : zL) (h0 : Nat) (x1 : Int32) (x2 : Int32) (x3 : Int32) (h0_told : Nat) (h0_read : Nat) (h0_now : Nat) (h0_readNow : Nat) (h0_kept : Nat) (h0_undone : Int32) (h0_seed : Int32) (h0_hasPart : Int32) (h0_tape : Nat) (h0_taped : Int32) (h0_refused : Nat) (h0_faultKind : Int32) (h0_faultPlace : Int32) (h0_size : Int32) (h0_at : Int32) (h0_from : Int32) (h0_wrong : Int32) (h0_wrongAt : Int32) (h0_ownLetters : Nat) (h0_flats : Nat) (h0_isLaid : Int32) (h0_corner : Nat) (h0_wayX : Nat) (h0_wayY : Nat) (h0_normal : Nat) (h0_low : Nat) (h0_high : Nat) (h0_clear : Nat) (h0_ways : Nat) (h0_canBe : Nat) (h0_lain : Nat) (h0_canTool : Int32) (h0_fewestBy : Nat) (h0_sortOf : Nat) (h0_rows : Int32) (h0_seenFlange : Nat) (h0_seenLength : Nat) (f_h0_corner : Nat → Int32) (hy0 : 0 ≤ x1.toInt ∧ x1.toInt ≤ 9) (hy1 : (-3) ≤ x2.toInt ∧ x2.toInt ≤ 3) (hy2 : 0 ≤ h0_undone.toInt ∧ h0_undone.toInt ≤ 20) (hy3 : 0 ≤ h0_seed.toInt ∧ h0_seed.toInt ≤ 2147483647) (hy4 : 0 ≤ h0_hasPart.toInt ∧ h0_hasPart.toInt ≤ 1) (hy5 : 0 ≤ h0_taped.toInt ∧ h0_taped.toInt ≤ 1200) (hy6 : 0 ≤ h0_faultKind.toInt ∧ h0_faultKind.toInt ≤ 5) (hy7 : 0 ≤ h0_size.toInt ∧ h0_size.toInt ≤ 1200) (hy8 : 0 ≤ h0_at.toInt ∧ h0_at.toInt ≤ 1200) (hy9 : 0 ≤ h0_from.toInt ∧ h0_from.toInt ≤ 1200) (hy10 : 0 ≤ h0_wrong.toInt ∧ h0_wrong.toInt ≤ 5) (hy11 : 0 ≤ h0_isLaid.toInt ∧ h0_isLaid.toInt ≤ 1) (hy12 : 0 ≤ h0_canTool.toInt ∧ h0_canTool.toInt ≤ 255) (hy13 : 0 ≤ h0_rows.toInt ∧ h0_rows.toInt ≤ 8) (hy14 : ¬ x2.toInt = 0) : zCv l g yX9_moves cX9_moves 5 none rm_kX9_moves [.ref h0, .int x1, .int x2, .int x3] [(h0, .inr (9, [.ref h0_told, .ref h0_read, .ref h0_now, .ref h0_readNow, .ref h0_kept, .int h0_undone, .int h0_seed, .int h0_hasPart, .ref h0_tape, .int h0_taped, .ref h0_refused, .int h0_faultKind, .int h0_faultPlace, .int h0_size, .int h0_at, .int h0_from, .int h0_wrong, .int h0_wrongAt, .ref h0_ownLetters, .ref h0_flats, .int h0_isLaid, .ref h0_corner, .ref h0_wayX, .ref h0_wayY, .ref h0_normal, .ref h0_low, .ref h0_high, .ref h0_clear, .ref h0_ways, .ref h0_canBe, .ref h0_lain, .int h0_canTool, .ref h0_fewestBy, .ref h0_sortOf, .int h0_rows, .ref h0_seenFlange, .ref h0_seenLength])), (h0_corner, .inl (g.2.1.1, 30, .inl f_h0_corner))] (fun (u : (Nat → Int32)) => True) (fun (u : (Nat → Int32)) => [(h0, .inr (9, [.ref h0_told, .ref h0_read, .ref h0_now, .ref h0_readNow, .ref h0_kept, .int h0_undone, .int h0_seed, .int h0_hasPart, .ref h0_tape, .int h0_taped, .ref h0_refused, .int h0_faultKind, .int h0_faultPlace, .int h0_size, .int h0_at, .int h0_from, .int h0_wrong, .int h0_wrongAt, .ref h0_ownLetters, .ref h0_flats, .int h0_isLaid, .ref h0_corner, .ref h0_wayX, .ref h0_wayY, .ref h0_normal, .ref h0_low, .ref h0_high, .ref h0_clear, .ref h0_ways, .ref h0_canBe, .ref h0_lain, .int h0_canTool, .ref h0_fewestBy, .ref h0_sortOf, .int h0_rows, .ref h0_seenFlange, .ref h0_seenLength])), (h0_corner, .inl (g.2.1.1, 30, .inl u))]) := by
  refine zCv.mk2 (by decide) (Nat.le_of_ble_eq_true rfl) ?_
  intro p e s m below meth c A args Q hE hret hP hD hS ls hl
  obtain ⟨hx, hb, hr, hml, hown, hG, hlocks, hnm, hX, hA⟩ := hE
  have hown : s.vm.findClass RX9 = some m.cls := hown
  have hl : lv_has ls 5 [(0, .ref h0), (1, .int x1), (2, .int x2), (3, .int x3)] := hl
  refine lv_iload_n hx hb dX9_moves_0 rfl (lv_at hl 2 rfl) ?_
  refine lv_if_ge (tgt := 9) hx hb dX9_moves_1 (by decide) (fun c1 => ?_) (fun c1 => ?_)
  · skip
    have c1i : (0 : Int) ≤ x2.toInt := (zc_le (show (0 : Int32).toInt = (0 : Int) from by decide) (rfl : x2.toInt = _)).mp c1
    refine lv_iload_n hx hb dX9_moves_9 rfl (lv_at hl 2 rfl) ?_
    refine lv_iconst (v := 1) hx hb dX9_moves_10 (by decide) ?_
    refine lv_isub hx hb dX9_moves_11 ?_
    refine lv_topi (fun z2 e3 => ?_)
    have f4 : z2.toInt = x2.toInt - (1 : Int) := zs e3 (rfl : x2.toInt = _) (show (1 : Int32).toInt = (1 : Int) from by decide) (om_482 c1i hy1)
    refine lv_istore (lv' := [(4, .int z2), (0, .ref h0), (1, .int x1), (2, .int x2), (3, .int x3)]) hx hb dX9_moves_12 hl (by decide) rfl (fun ls hl => ?_)
    refine lv_aload_n hx hb dX9_moves_14 rfl (lv_at hl 1 rfl) ?_
    refine va_get (D := g.1) (ci := 9) (v := .ref h0_corner) (C := RX9) (T := TX9) (N := 37) hx hb hG iX9 hown hX.1 hP 0 rfl rfl 21 (by decide) (hG _ wf_X9_75) (fun _ h9 => h9) rfl dX9_moves_15 ?_
    refine lv_iconst (v := 3) hx hb dX9_moves_18 (by decide) ?_
    refine lv_iload_n hx hb dX9_moves_19 rfl (lv_at hl 2 rfl) ?_
    refine lv_imul hx hb dX9_moves_20 ?_
    refine lv_topi (fun z5 e6 => ?_)
    have f7 : z5.toInt = (3 : Int) * x1.toInt := zm e6 (show (3 : Int32).toInt = (3 : Int) from by decide) (rfl : x1.toInt = _) (om_483 hy0)
    refine lv_iload hx hb dX9_moves_21 (lv_at hl 0 rfl) ?_
    refine lv_iadd hx hb dX9_moves_23 ?_
    refine lv_topi (fun z8 e9 => ?_)
    have f10 : z8.toInt = z5.toInt + z2.toInt := za e9 (rfl : z5.toInt = _) (rfl : z2.toInt = _) (om_484 c1i f4 f7 hy0 hy1)
    refine lv_dup2_11 hx hb dX9_moves_24 rfl rfl ?_
    refine va_iald hx hb hX.1 hP 1 0 rfl rfl (zin (rfl : z8.toInt = _) (om_485 c1i f10 f4 f7 hy0 hy1 hy14)) dX9_moves_25 ?_
    refine lv_topi (fun z11 e12 => ?_)
    refine lv_iload_n hx hb dX9_moves_26 rfl (lv_at hl 3 rfl) ?_
    refine lv_if_ge (tgt := 35) hx hb dX9_moves_27 (by decide) (fun c13 => ?_) (fun c13 => (c13 ((zc_le (show (0 : Int32).toInt = (0 : Int) from by decide) (rfl : x2.toInt = _)).mpr (om_486 c1i))).elim)
    refine lv_iload_n hx hb dX9_moves_35 rfl (lv_at hl 4 rfl) ?_
    refine lv_iadd hx hb dX9_moves_36 ?_
    refine lv_topi (fun z14 e15 => ?_)
    refine va_iast hx hb hX.1 hP hD hS 1 0 rfl rfl (zin (rfl : z8.toInt = _) (om_485 c1i f10 f4 f7 hy0 hy1 hy14)) dX9_moves_37 (fun H locs hP hD hS => ?_)
    obtain ⟨f16, e17⟩ : ∃ z9 : Nat → Int32, z9 = upd f_h0_corner z8.toNatClampNeg z14 := ⟨_, rfl⟩
    rw [← e17] at hP hD
    have hP : va_P g.1 vwCl [(h0, .inr (9, [.ref h0_told, .ref h0_read, .ref h0_now, .ref h0_readNow, .ref h0_kept, .int h0_undone, .int h0_seed, .int h0_hasPart, .ref h0_tape, .int h0_taped, .ref h0_refused, .int h0_faultKind, .int h0_faultPlace, .int h0_size, .int h0_at, .int h0_from, .int h0_wrong, .int h0_wrongAt, .ref h0_ownLetters, .ref h0_flats, .int h0_isLaid, .ref h0_corner, .ref h0_wayX, .ref h0_wayY, .ref h0_normal, .ref h0_low, .ref h0_high, .ref h0_clear, .ref h0_ways, .ref h0_canBe, .ref h0_lain, .int h0_canTool, .ref h0_fewestBy, .ref h0_sortOf, .int h0_rows, .ref h0_seenFlange, .ref h0_seenLength])), (h0_corner, .inl (g.2.1.1, 30, .inl f16))] H := hP
    have hD : va_D A [(h0, .inr (9, [.ref h0_told, .ref h0_read, .ref h0_now, .ref h0_readNow, .ref h0_kept, .int h0_undone, .int h0_seed, .int h0_hasPart, .ref h0_tape, .int h0_taped, .ref h0_refused, .int h0_faultKind, .int h0_faultPlace, .int h0_size, .int h0_at, .int h0_from, .int h0_wrong, .int h0_wrongAt, .ref h0_ownLetters, .ref h0_flats, .int h0_isLaid, .ref h0_corner, .ref h0_wayX, .ref h0_wayY, .ref h0_normal, .ref h0_low, .ref h0_high, .ref h0_clear, .ref h0_ways, .ref h0_canBe, .ref h0_lain, .int h0_canTool, .ref h0_fewestBy, .ref h0_sortOf, .int h0_rows, .ref h0_seenFlange, .ref h0_seenLength])), (h0_corner, .inl (g.2.1.1, 30, .inl f16))] := hD
    exact hret f16 (Nat.le_of_ble_eq_true rfl) (Nat.le_of_ble_eq_true rfl) trivial hP hD hS dX9_moves_38
  · skip
    have c1i : ¬ ((0 : Int) ≤ x2.toInt) := fun q => c1 ((zc_le (show (0 : Int32).toInt = (0 : Int) from by decide) (rfl : x2.toInt = _)).mpr q)
    refine lv_iload_n hx hb dX9_moves_4 rfl (lv_at hl 2 rfl) ?_
    refine lv_ineg hx hb dX9_moves_5 ?_
    refine lv_topi (fun z18 e19 => ?_)
    have f20 : z18.toInt = -x2.toInt := zng e19 (rfl : x2.toInt = _) (om_487 c1i hy1)
    refine lv_goto (tgt := 10) hx hb dX9_moves_6 (by decide) ?_
    refine lv_iconst (v := 1) hx hb dX9_moves_10 (by decide) ?_
    refine lv_isub hx hb dX9_moves_11 ?_
    refine lv_topi (fun z21 e22 => ?_)
    have f23 : z21.toInt = z18.toInt - (1 : Int) := zs e22 (rfl : z18.toInt = _) (show (1 : Int32).toInt = (1 : Int) from by decide) (om_488 c1i f20 hy1)
    refine lv_istore (lv' := [(4, .int z21), (0, .ref h0), (1, .int x1), (2, .int x2), (3, .int x3)]) hx hb dX9_moves_12 hl (by decide) rfl (fun ls hl => ?_)
    refine lv_aload_n hx hb dX9_moves_14 rfl (lv_at hl 1 rfl) ?_
    refine va_get (D := g.1) (ci := 9) (v := .ref h0_corner) (C := RX9) (T := TX9) (N := 37) hx hb hG iX9 hown hX.1 hP 0 rfl rfl 21 (by decide) (hG _ wf_X9_75) (fun _ h9 => h9) rfl dX9_moves_15 ?_
    refine lv_iconst (v := 3) hx hb dX9_moves_18 (by decide) ?_
    refine lv_iload_n hx hb dX9_moves_19 rfl (lv_at hl 2 rfl) ?_
    refine lv_imul hx hb dX9_moves_20 ?_
    refine lv_topi (fun z24 e25 => ?_)
    have f26 : z24.toInt = (3 : Int) * x1.toInt := zm e25 (show (3 : Int32).toInt = (3 : Int) from by decide) (rfl : x1.toInt = _) (om_483 hy0)
    refine lv_iload hx hb dX9_moves_21 (lv_at hl 0 rfl) ?_
    refine lv_iadd hx hb dX9_moves_23 ?_
    refine lv_topi (fun z27 e28 => ?_)
    have f29 : z27.toInt = z24.toInt + z21.toInt := za e28 (rfl : z24.toInt = _) (rfl : z21.toInt = _) (om_489 c1i f20 f23 f26 hy0 hy1)
    refine lv_dup2_11 hx hb dX9_moves_24 rfl rfl ?_
    refine va_iald hx hb hX.1 hP 1 0 rfl rfl (zin (rfl : z27.toInt = _) (om_490 c1i f20 f23 f26 f29 hy0 hy1)) dX9_moves_25 ?_
    refine lv_topi (fun z30 e31 => ?_)
    refine lv_iload_n hx hb dX9_moves_26 rfl (lv_at hl 3 rfl) ?_
    refine lv_if_ge (tgt := 35) hx hb dX9_moves_27 (by decide) (fun c32 => absurd c32 (fun q9 => absurd ((zc_le (show (0 : Int32).toInt = (0 : Int) from by decide) (rfl : x2.toInt = _)).mp q9) (om_491 c1i))) (fun c32 => ?_)
    refine lv_iload_n hx hb dX9_moves_30 rfl (lv_at hl 4 rfl) ?_
    refine lv_ineg hx hb dX9_moves_31 ?_
    refine lv_topi (fun z33 e34 => ?_)
    refine lv_goto (tgt := 36) hx hb dX9_moves_32 (by decide) ?_
    refine lv_iadd hx hb dX9_moves_36 ?_
    refine lv_topi (fun z35 e36 => ?_)
    refine va_iast hx hb hX.1 hP hD hS 1 0 rfl rfl (zin (rfl : z27.toInt = _) (om_490 c1i f20 f23 f26 f29 hy0 hy1)) dX9_moves_37 (fun H locs hP hD hS => ?_)
    obtain ⟨f37, e38⟩ : ∃ z9 : Nat → Int32, z9 = upd f_h0_corner z27.toNatClampNeg z35 := ⟨_, rfl⟩
    rw [← e38] at hP hD
    have hP : va_P g.1 vwCl [(h0, .inr (9, [.ref h0_told, .ref h0_read, .ref h0_now, .ref h0_readNow, .ref h0_kept, .int h0_undone, .int h0_seed, .int h0_hasPart, .ref h0_tape, .int h0_taped, .ref h0_refused, .int h0_faultKind, .int h0_faultPlace, .int h0_size, .int h0_at, .int h0_from, .int h0_wrong, .int h0_wrongAt, .ref h0_ownLetters, .ref h0_flats, .int h0_isLaid, .ref h0_corner, .ref h0_wayX, .ref h0_wayY, .ref h0_normal, .ref h0_low, .ref h0_high, .ref h0_clear, .ref h0_ways, .ref h0_canBe, .ref h0_lain, .int h0_canTool, .ref h0_fewestBy, .ref h0_sortOf, .int h0_rows, .ref h0_seenFlange, .ref h0_seenLength])), (h0_corner, .inl (g.2.1.1, 30, .inl f37))] H := hP
    have hD : va_D A [(h0, .inr (9, [.ref h0_told, .ref h0_read, .ref h0_now, .ref h0_readNow, .ref h0_kept, .int h0_undone, .int h0_seed, .int h0_hasPart, .ref h0_tape, .int h0_taped, .ref h0_refused, .int h0_faultKind, .int h0_faultPlace, .int h0_size, .int h0_at, .int h0_from, .int h0_wrong, .int h0_wrongAt, .ref h0_ownLetters, .ref h0_flats, .int h0_isLaid, .ref h0_corner, .ref h0_wayX, .ref h0_wayY, .ref h0_normal, .ref h0_low, .ref h0_high, .ref h0_clear, .ref h0_ways, .ref h0_canBe, .ref h0_lain, .int h0_canTool, .ref h0_fewestBy, .ref h0_sortOf, .int h0_rows, .ref h0_seenFlange, .ref h0_seenLength])), (h0_corner, .inl (g.2.1.1, 30, .inl f37))] := hD
    exact hret f37 (Nat.le_of_ble_eq_true rfl) (Nat.le_of_ble_eq_true rfl) trivial hP hD hS dX9_moves_38
theorem dX9_copiesCorner_0 : decode cX9_copiesCorner 0 = .ok (.iconst 0, 1) := by decide +kernel
theorem dX9_copiesCorner_1 : decode cX9_copiesCorner 1 = .ok (.istore_n 3, 1) := by decide +kernel
theorem dX9_copiesCorner_2 : decode cX9_copiesCorner 2 = .ok (.iload_n 3, 1) := by decide +kernel
theorem dX9_copiesCorner_3 : decode cX9_copiesCorner 3 = .ok (.iconst 3, 1) := by decide +kernel
theorem dX9_copiesCorner_4 : decode cX9_copiesCorner 4 = .ok (.if_icmp .ge 29, 3) := by decide +kernel
theorem dX9_copiesCorner_33 : decode cX9_copiesCorner 33 = .ok (.return_, 1) := by decide +kernel
theorem dX9_copiesCorner_7 : decode cX9_copiesCorner 7 = .ok (.aload_n 0, 1) := by decide +kernel
theorem dX9_copiesCorner_8 : decode cX9_copiesCorner 8 = .ok (.getfield 75, 3) := by decide +kernel
theorem dX9_copiesCorner_11 : decode cX9_copiesCorner 11 = .ok (.iconst 3, 1) := by decide +kernel
theorem dX9_copiesCorner_12 : decode cX9_copiesCorner 12 = .ok (.iload_n 1, 1) := by decide +kernel
theorem dX9_copiesCorner_13 : decode cX9_copiesCorner 13 = .ok (.imul, 1) := by decide +kernel
theorem dX9_copiesCorner_14 : decode cX9_copiesCorner 14 = .ok (.iload_n 3, 1) := by decide +kernel
theorem dX9_copiesCorner_15 : decode cX9_copiesCorner 15 = .ok (.iadd, 1) := by decide +kernel
theorem dX9_copiesCorner_16 : decode cX9_copiesCorner 16 = .ok (.aload_n 0, 1) := by decide +kernel
theorem dX9_copiesCorner_17 : decode cX9_copiesCorner 17 = .ok (.getfield 75, 3) := by decide +kernel
theorem dX9_copiesCorner_20 : decode cX9_copiesCorner 20 = .ok (.iconst 3, 1) := by decide +kernel
theorem dX9_copiesCorner_21 : decode cX9_copiesCorner 21 = .ok (.iload_n 2, 1) := by decide +kernel
theorem dX9_copiesCorner_22 : decode cX9_copiesCorner 22 = .ok (.imul, 1) := by decide +kernel
theorem dX9_copiesCorner_23 : decode cX9_copiesCorner 23 = .ok (.iload_n 3, 1) := by decide +kernel
theorem dX9_copiesCorner_24 : decode cX9_copiesCorner 24 = .ok (.iadd, 1) := by decide +kernel
theorem dX9_copiesCorner_25 : decode cX9_copiesCorner 25 = .ok (.iaload, 1) := by decide +kernel
theorem dX9_copiesCorner_26 : decode cX9_copiesCorner 26 = .ok (.iastore, 1) := by decide +kernel
theorem dX9_copiesCorner_27 : decode cX9_copiesCorner 27 = .ok (.iinc 3 1, 3) := by decide +kernel
theorem dX9_copiesCorner_30 : decode cX9_copiesCorner 30 = .ok (.goto (-28), 3) := by decide +kernel
abbrev rm_kX9_copiesCorner : Room := { frames := 0, cells := 0, slots := 0, locals := 0 }
set_option maxHeartbeats 4000000 in
set_option maxRecDepth 100000 in
theorem kX9_copiesCorner (l : Launch) (g : zL) (h0 : Nat) (x1 : Int32) (x2 : Int32) (h0_told : Nat) (h0_read : Nat) (h0_now : Nat) (h0_readNow : Nat) (h0_kept : Nat) (h0_undone : Int32) (h0_seed : Int32) (h0_hasPart : Int32) (h0_tape : Nat) (h0_taped : Int32) (h0_refused : Nat) (h0_faultKind : Int32) (h0_faultPlace : Int32) (h0_size : Int32) (h0_at : Int32) (h0_from : Int32) (h0_wrong : Int32) (h0_wrongAt : Int32) (h0_ownLetters : Nat) (h0_flats : Nat) (h0_isLaid : Int32) (h0_corner : Nat) (h0_wayX : Nat) (h0_wayY : Nat) (h0_normal : Nat) (h0_low : Nat) (h0_high : Nat) (h0_clear : Nat) (h0_ways : Nat) (h0_canBe : Nat) (h0_lain : Nat) (h0_canTool : Int32) (h0_fewestBy : Nat) (h0_sortOf : Nat) (h0_rows : Int32) (h0_seenFlange : Nat) (h0_seenLength : Nat) (f_h0_corner : Nat → Int32) (hy0 : 0 ≤ x1.toInt ∧ x1.toInt ≤ 9) (hy1 : 0 ≤ x2.toInt ∧ x2.toInt ≤ 8) (hy2 : 0 ≤ h0_undone.toInt ∧ h0_undone.toInt ≤ 20) (hy3 : 0 ≤ h0_seed.toInt ∧ h0_seed.toInt ≤ 2147483647) (hy4 : 0 ≤ h0_hasPart.toInt ∧ h0_hasPart.toInt ≤ 1) (hy5 : 0 ≤ h0_taped.toInt ∧ h0_taped.toInt ≤ 1200) (hy6 : 0 ≤ h0_faultKind.toInt ∧ h0_faultKind.toInt ≤ 5) (hy7 : 0 ≤ h0_size.toInt ∧ h0_size.toInt ≤ 1200) (hy8 : 0 ≤ h0_at.toInt ∧ h0_at.toInt ≤ 1200) (hy9 : 0 ≤ h0_from.toInt ∧ h0_from.toInt ≤ 1200) (hy10 : 0 ≤ h0_wrong.toInt ∧ h0_wrong.toInt ≤ 5) (hy11 : 0 ≤ h0_isLaid.toInt ∧ h0_isLaid.toInt ≤ 1) (hy12 : 0 ≤ h0_canTool.toInt ∧ h0_canTool.toInt ≤ 255) (hy13 : 0 ≤ h0_rows.toInt ∧ h0_rows.toInt ≤ 8) : zCv l g yX9_copiesCorner cX9_copiesCorner 4 none rm_kX9_copiesCorner [.ref h0, .int x1, .int x2] [(h0, .inr (9, [.ref h0_told, .ref h0_read, .ref h0_now, .ref h0_readNow, .ref h0_kept, .int h0_undone, .int h0_seed, .int h0_hasPart, .ref h0_tape, .int h0_taped, .ref h0_refused, .int h0_faultKind, .int h0_faultPlace, .int h0_size, .int h0_at, .int h0_from, .int h0_wrong, .int h0_wrongAt, .ref h0_ownLetters, .ref h0_flats, .int h0_isLaid, .ref h0_corner, .ref h0_wayX, .ref h0_wayY, .ref h0_normal, .ref h0_low, .ref h0_high, .ref h0_clear, .ref h0_ways, .ref h0_canBe, .ref h0_lain, .int h0_canTool, .ref h0_fewestBy, .ref h0_sortOf, .int h0_rows, .ref h0_seenFlange, .ref h0_seenLength])), (h0_corner, .inl (g.2.1.1, 30, .inl f_h0_corner))] (fun (u : (Nat → Int32)) => True) (fun (u : (Nat → Int32)) => [(h0, .inr (9, [.ref h0_told, .ref h0_read, .ref h0_now, .ref h0_readNow, .ref h0_kept, .int h0_undone, .int h0_seed, .int h0_hasPart, .ref h0_tape, .int h0_taped, .ref h0_refused, .int h0_faultKind, .int h0_faultPlace, .int h0_size, .int h0_at, .int h0_from, .int h0_wrong, .int h0_wrongAt, .ref h0_ownLetters, .ref h0_flats, .int h0_isLaid, .ref h0_corner, .ref h0_wayX, .ref h0_wayY, .ref h0_normal, .ref h0_low, .ref h0_high, .ref h0_clear, .ref h0_ways, .ref h0_canBe, .ref h0_lain, .int h0_canTool, .ref h0_fewestBy, .ref h0_sortOf, .int h0_rows, .ref h0_seenFlange, .ref h0_seenLength])), (h0_corner, .inl (g.2.1.1, 30, .inl u))]) := by
  refine zCv.mk2 (by decide) (Nat.le_of_ble_eq_true rfl) ?_
  intro p e s m below meth c A args Q hE hret hP hD hS ls hl
  obtain ⟨hx, hb, hr, hml, hown, hG, hlocks, hnm, hX, hA⟩ := hE
  have hown : s.vm.findClass RX9 = some m.cls := hown
  have hl : lv_has ls 4 [(0, .ref h0), (1, .int x1), (2, .int x2)] := hl
  refine lv_iconst (v := 0) hx hb dX9_copiesCorner_0 (by decide) ?_
  refine lv_istore_n (lv' := [(3, .int 0), (0, .ref h0), (1, .int x1), (2, .int x2)]) hx hb dX9_copiesCorner_1 rfl hl (by decide) rfl (fun ls hl => ?_)
  have L110 : ∀ (n : Nat) (v87 : Int32) (fn88 : Nat → Int32) (H : Heap) (locs : List Loc) (ls : Array Slot), 0 ≤ v87.toInt ∧ v87.toInt ≤ 3 → (4 - v87.toInt).toNat < n → va_P g.1 vwCl [(h0, .inr (9, [.ref h0_told, .ref h0_read, .ref h0_now, .ref h0_readNow, .ref h0_kept, .int h0_undone, .int h0_seed, .int h0_hasPart, .ref h0_tape, .int h0_taped, .ref h0_refused, .int h0_faultKind, .int h0_faultPlace, .int h0_size, .int h0_at, .int h0_from, .int h0_wrong, .int h0_wrongAt, .ref h0_ownLetters, .ref h0_flats, .int h0_isLaid, .ref h0_corner, .ref h0_wayX, .ref h0_wayY, .ref h0_normal, .ref h0_low, .ref h0_high, .ref h0_clear, .ref h0_ways, .ref h0_canBe, .ref h0_lain, .int h0_canTool, .ref h0_fewestBy, .ref h0_sortOf, .int h0_rows, .ref h0_seenFlange, .ref h0_seenLength])), (h0_corner, .inl (g.2.1.1, 30, .inl fn88))] H → va_D A [(h0, .inr (9, [.ref h0_told, .ref h0_read, .ref h0_now, .ref h0_readNow, .ref h0_kept, .int h0_undone, .int h0_seed, .int h0_hasPart, .ref h0_tape, .int h0_taped, .ref h0_refused, .int h0_faultKind, .int h0_faultPlace, .int h0_size, .int h0_at, .int h0_from, .int h0_wrong, .int h0_wrongAt, .ref h0_ownLetters, .ref h0_flats, .int h0_isLaid, .ref h0_corner, .ref h0_wayX, .ref h0_wayY, .ref h0_normal, .ref h0_low, .ref h0_high, .ref h0_clear, .ref h0_ways, .ref h0_canBe, .ref h0_lain, .int h0_canTool, .ref h0_fewestBy, .ref h0_sortOf, .int h0_rows, .ref h0_seenFlange, .ref h0_seenLength])), (h0_corner, .inl (g.2.1.1, 30, .inl fn88))] → va_S A s.heap H locs → lv_has ls 4 [(0, .ref h0), (1, .int x1), (2, .int x2), (3, .int v87)] → W p l e rm_kX9_copiesCorner s m args below meth c H locs 0 0 Q (F0 m 2 ls []) := by
    intro n111
    induction n111 with
    | zero => intro v87 fn88 H locs ls i113 hm114; exact absurd hm114 (Nat.not_lt_zero _)
    | succ n111 ih112 =>
      intro v87 fn88 H locs ls i113 hm114 hP hD hS hl
      refine lv_iload_n hx hb dX9_copiesCorner_2 rfl (lv_at hl 3 rfl) ?_
      refine lv_iconst (v := 3) hx hb dX9_copiesCorner_3 (by decide) ?_
      refine lv_icmp_ge (tgt := 33) hx hb dX9_copiesCorner_4 (by decide) (fun c115 => ?_) (fun c115 => ?_)
      · skip
        have c115i : (3 : Int) ≤ v87.toInt := (zc_le (show (3 : Int32).toInt = (3 : Int) from by decide) (rfl : v87.toInt = _)).mp c115
        exact hret fn88 (Nat.le_of_ble_eq_true rfl) (Nat.le_of_ble_eq_true rfl) trivial hP hD hS dX9_copiesCorner_33
      · skip
        have c115i : ¬ ((3 : Int) ≤ v87.toInt) := fun q => c115 ((zc_le (show (3 : Int32).toInt = (3 : Int) from by decide) (rfl : v87.toInt = _)).mpr q)
        refine lv_aload_n hx hb dX9_copiesCorner_7 rfl (lv_at hl 0 rfl) ?_
        refine va_get (D := g.1) (ci := 9) (v := .ref h0_corner) (C := RX9) (T := TX9) (N := 37) hx hb hG iX9 hown hX.1 hP 0 rfl rfl 21 (by decide) (hG _ wf_X9_75) (fun _ h9 => h9) rfl dX9_copiesCorner_8 ?_
        refine lv_iconst (v := 3) hx hb dX9_copiesCorner_11 (by decide) ?_
        refine lv_iload_n hx hb dX9_copiesCorner_12 rfl (lv_at hl 1 rfl) ?_
        refine lv_imul hx hb dX9_copiesCorner_13 ?_
        refine lv_topi (fun z116 e117 => ?_)
        have f118 : z116.toInt = (3 : Int) * x1.toInt := zm e117 (show (3 : Int32).toInt = (3 : Int) from by decide) (rfl : x1.toInt = _) (om_483 hy0)
        refine lv_iload_n hx hb dX9_copiesCorner_14 rfl (lv_at hl 3 rfl) ?_
        refine lv_iadd hx hb dX9_copiesCorner_15 ?_
        refine lv_topi (fun z119 e120 => ?_)
        have f121 : z119.toInt = z116.toInt + v87.toInt := za e120 (rfl : z116.toInt = _) (rfl : v87.toInt = _) (om_492 c115i f118 hy0 i113)
        refine lv_aload_n hx hb dX9_copiesCorner_16 rfl (lv_at hl 0 rfl) ?_
        refine va_get (D := g.1) (ci := 9) (v := .ref h0_corner) (C := RX9) (T := TX9) (N := 37) hx hb hG iX9 hown hX.1 hP 0 rfl rfl 21 (by decide) (hG _ wf_X9_75) (fun _ h9 => h9) rfl dX9_copiesCorner_17 ?_
        refine lv_iconst (v := 3) hx hb dX9_copiesCorner_20 (by decide) ?_
        refine lv_iload_n hx hb dX9_copiesCorner_21 rfl (lv_at hl 2 rfl) ?_
        refine lv_imul hx hb dX9_copiesCorner_22 ?_
        refine lv_topi (fun z122 e123 => ?_)
        have f124 : z122.toInt = (3 : Int) * x2.toInt := zm e123 (show (3 : Int32).toInt = (3 : Int) from by decide) (rfl : x2.toInt = _) (om_493 hy1)
        refine lv_iload_n hx hb dX9_copiesCorner_23 rfl (lv_at hl 3 rfl) ?_
        refine lv_iadd hx hb dX9_copiesCorner_24 ?_
        refine lv_topi (fun z125 e126 => ?_)
        have f127 : z125.toInt = z122.toInt + v87.toInt := za e126 (rfl : z122.toInt = _) (rfl : v87.toInt = _) (om_494 c115i f124 hy1 i113)
        refine va_iald hx hb hX.1 hP 1 0 rfl rfl (zin (rfl : z125.toInt = _) (om_495 c115i f124 f127 hy1 i113)) dX9_copiesCorner_25 ?_
        refine lv_topi (fun z128 e129 => ?_)
        refine va_iast hx hb hX.1 hP hD hS 1 0 rfl rfl (zin (rfl : z119.toInt = _) (om_496 c115i f118 f121 hy0 i113)) dX9_copiesCorner_26 (fun H locs hP hD hS => ?_)
        obtain ⟨f130, e131⟩ : ∃ z9 : Nat → Int32, z9 = upd fn88 z119.toNatClampNeg z128 := ⟨_, rfl⟩
        rw [← e131] at hP hD
        have hP : va_P g.1 vwCl [(h0, .inr (9, [.ref h0_told, .ref h0_read, .ref h0_now, .ref h0_readNow, .ref h0_kept, .int h0_undone, .int h0_seed, .int h0_hasPart, .ref h0_tape, .int h0_taped, .ref h0_refused, .int h0_faultKind, .int h0_faultPlace, .int h0_size, .int h0_at, .int h0_from, .int h0_wrong, .int h0_wrongAt, .ref h0_ownLetters, .ref h0_flats, .int h0_isLaid, .ref h0_corner, .ref h0_wayX, .ref h0_wayY, .ref h0_normal, .ref h0_low, .ref h0_high, .ref h0_clear, .ref h0_ways, .ref h0_canBe, .ref h0_lain, .int h0_canTool, .ref h0_fewestBy, .ref h0_sortOf, .int h0_rows, .ref h0_seenFlange, .ref h0_seenLength])), (h0_corner, .inl (g.2.1.1, 30, .inl f130))] H := hP
        have hD : va_D A [(h0, .inr (9, [.ref h0_told, .ref h0_read, .ref h0_now, .ref h0_readNow, .ref h0_kept, .int h0_undone, .int h0_seed, .int h0_hasPart, .ref h0_tape, .int h0_taped, .ref h0_refused, .int h0_faultKind, .int h0_faultPlace, .int h0_size, .int h0_at, .int h0_from, .int h0_wrong, .int h0_wrongAt, .ref h0_ownLetters, .ref h0_flats, .int h0_isLaid, .ref h0_corner, .ref h0_wayX, .ref h0_wayY, .ref h0_normal, .ref h0_low, .ref h0_high, .ref h0_clear, .ref h0_ways, .ref h0_canBe, .ref h0_lain, .int h0_canTool, .ref h0_fewestBy, .ref h0_sortOf, .int h0_rows, .ref h0_seenFlange, .ref h0_seenLength])), (h0_corner, .inl (g.2.1.1, 30, .inl f130))] := hD
        obtain ⟨z132, e133⟩ : ∃ y9 : Int32, y9 = v87 + 1 := ⟨_, rfl⟩
        have f134 : z132.toInt = v87.toInt + 1 := za e133 (rfl : v87.toInt = _) (show (1 : Int32).toInt = (1 : Int) from by decide) (om_497 c115i i113)
        refine lv_iinc (v := z132) (lv' := [(3, .int z132), (0, .ref h0), (1, .int x1), (2, .int x2)]) hx hb dX9_copiesCorner_27 hl (k := 3) rfl (by rw [e133]; rfl) (by decide) rfl (fun ls hl => ?_)
        refine lv_goto (tgt := 2) hx hb dX9_copiesCorner_30 (by decide) ?_
        exact ih112 z132 f130 H locs ls (om_498 c115i f134 i113) (zdec hm114 (om_499 c115i f134)) hP hD hS (lv_sub hl [1, 2, 3, 0] rfl)
  exact L110 _ (0 : Int32) f_h0_corner _ _ ls ((show 0 ≤ (0 : Int) ∧ (0 : Int) ≤ 3 from by decide)) (Nat.lt_succ_self _) hP hD hS (lv_sub hl [1, 2, 3, 0] rfl)
theorem dX9_laysEnds_0 : decode cX9_laysEnds 0 = .ok (.iconst 0, 1) := by decide +kernel
theorem dX9_laysEnds_1 : decode cX9_laysEnds 1 = .ok (.istore 4, 2) := by decide +kernel
theorem dX9_laysEnds_3 : decode cX9_laysEnds 3 = .ok (.iload 4, 2) := by decide +kernel
theorem dX9_laysEnds_5 : decode cX9_laysEnds 5 = .ok (.iconst 3, 1) := by decide +kernel
theorem dX9_laysEnds_6 : decode cX9_laysEnds 6 = .ok (.if_icmp .ge 139, 3) := by decide +kernel
theorem dX9_laysEnds_145 : decode cX9_laysEnds 145 = .ok (.return_, 1) := by decide +kernel
theorem dX9_laysEnds_9 : decode cX9_laysEnds 9 = .ok (.aload_n 0, 1) := by decide +kernel
theorem dX9_laysEnds_10 : decode cX9_laysEnds 10 = .ok (.getfield 75, 3) := by decide +kernel
theorem dX9_laysEnds_13 : decode cX9_laysEnds 13 = .ok (.iconst 3, 1) := by decide +kernel
theorem dX9_laysEnds_14 : decode cX9_laysEnds 14 = .ok (.iload_n 1, 1) := by decide +kernel
theorem dX9_laysEnds_15 : decode cX9_laysEnds 15 = .ok (.imul, 1) := by decide +kernel
theorem dX9_laysEnds_16 : decode cX9_laysEnds 16 = .ok (.iload 4, 2) := by decide +kernel
theorem dX9_laysEnds_18 : decode cX9_laysEnds 18 = .ok (.iadd, 1) := by decide +kernel
theorem dX9_laysEnds_19 : decode cX9_laysEnds 19 = .ok (.iaload, 1) := by decide +kernel
theorem dX9_laysEnds_20 : decode cX9_laysEnds 20 = .ok (.istore 5, 2) := by decide +kernel
theorem dX9_laysEnds_22 : decode cX9_laysEnds 22 = .ok (.aload_n 0, 1) := by decide +kernel
theorem dX9_laysEnds_23 : decode cX9_laysEnds 23 = .ok (.getfield 78, 3) := by decide +kernel
theorem dX9_laysEnds_26 : decode cX9_laysEnds 26 = .ok (.iload_n 1, 1) := by decide +kernel
theorem dX9_laysEnds_27 : decode cX9_laysEnds 27 = .ok (.iaload, 1) := by decide +kernel
theorem dX9_laysEnds_28 : decode cX9_laysEnds 28 = .ok (.iload 4, 2) := by decide +kernel
theorem dX9_laysEnds_30 : decode cX9_laysEnds 30 = .ok (.iconst 1, 1) := by decide +kernel
theorem dX9_laysEnds_31 : decode cX9_laysEnds 31 = .ok (.iadd, 1) := by decide +kernel
theorem dX9_laysEnds_95 : decode cX9_laysEnds 95 = .ok (.istore 6, 2) := by decide +kernel
theorem dX9_laysEnds_97 : decode cX9_laysEnds 97 = .ok (.aload_n 0, 1) := by decide +kernel
theorem dX9_laysEnds_98 : decode cX9_laysEnds 98 = .ok (.getfield 87, 3) := by decide +kernel
theorem dX9_laysEnds_101 : decode cX9_laysEnds 101 = .ok (.iconst 3, 1) := by decide +kernel
theorem dX9_laysEnds_102 : decode cX9_laysEnds 102 = .ok (.iload_n 1, 1) := by decide +kernel
theorem dX9_laysEnds_103 : decode cX9_laysEnds 103 = .ok (.imul, 1) := by decide +kernel
theorem dX9_laysEnds_104 : decode cX9_laysEnds 104 = .ok (.iload 4, 2) := by decide +kernel
theorem dX9_laysEnds_106 : decode cX9_laysEnds 106 = .ok (.iadd, 1) := by decide +kernel
theorem dX9_laysEnds_107 : decode cX9_laysEnds 107 = .ok (.iload 5, 2) := by decide +kernel
theorem dX9_laysEnds_109 : decode cX9_laysEnds 109 = .ok (.iload 5, 2) := by decide +kernel
theorem dX9_laysEnds_111 : decode cX9_laysEnds 111 = .ok (.iload 6, 2) := by decide +kernel
theorem dX9_laysEnds_113 : decode cX9_laysEnds 113 = .ok (.iadd, 1) := by decide +kernel
theorem dX9_laysEnds_114 : decode cX9_laysEnds 114 = .ok (.invokestatic 181, 3) := by decide +kernel
theorem dX9_laysEnds_117 : decode cX9_laysEnds 117 = .ok (.iastore, 1) := by decide +kernel
theorem dX9_laysEnds_118 : decode cX9_laysEnds 118 = .ok (.aload_n 0, 1) := by decide +kernel
theorem dX9_laysEnds_119 : decode cX9_laysEnds 119 = .ok (.getfield 90, 3) := by decide +kernel
theorem dX9_laysEnds_122 : decode cX9_laysEnds 122 = .ok (.iconst 3, 1) := by decide +kernel
theorem dX9_laysEnds_123 : decode cX9_laysEnds 123 = .ok (.iload_n 1, 1) := by decide +kernel
theorem dX9_laysEnds_124 : decode cX9_laysEnds 124 = .ok (.imul, 1) := by decide +kernel
theorem dX9_laysEnds_125 : decode cX9_laysEnds 125 = .ok (.iload 4, 2) := by decide +kernel
theorem dX9_laysEnds_127 : decode cX9_laysEnds 127 = .ok (.iadd, 1) := by decide +kernel
theorem dX9_laysEnds_128 : decode cX9_laysEnds 128 = .ok (.iload 5, 2) := by decide +kernel
theorem dX9_laysEnds_130 : decode cX9_laysEnds 130 = .ok (.iload 5, 2) := by decide +kernel
theorem dX9_laysEnds_132 : decode cX9_laysEnds 132 = .ok (.iload 6, 2) := by decide +kernel
theorem dX9_laysEnds_134 : decode cX9_laysEnds 134 = .ok (.iadd, 1) := by decide +kernel
theorem dX9_laysEnds_135 : decode cX9_laysEnds 135 = .ok (.invokestatic 184, 3) := by decide +kernel
theorem dX9_laysEnds_138 : decode cX9_laysEnds 138 = .ok (.iastore, 1) := by decide +kernel
theorem dX9_laysEnds_139 : decode cX9_laysEnds 139 = .ok (.iinc 4 1, 3) := by decide +kernel
theorem dX9_laysEnds_142 : decode cX9_laysEnds 142 = .ok (.goto (-139), 3) := by decide +kernel
theorem dX9_laysEnds_32 : decode cX9_laysEnds 32 = .ok (.if_icmp .ne 7, 3) := by decide +kernel
theorem dX9_laysEnds_39 : decode cX9_laysEnds 39 = .ok (.aload_n 0, 1) := by decide +kernel
theorem dX9_laysEnds_40 : decode cX9_laysEnds 40 = .ok (.getfield 78, 3) := by decide +kernel
theorem dX9_laysEnds_43 : decode cX9_laysEnds 43 = .ok (.iload_n 1, 1) := by decide +kernel
theorem dX9_laysEnds_44 : decode cX9_laysEnds 44 = .ok (.iaload, 1) := by decide +kernel
theorem dX9_laysEnds_45 : decode cX9_laysEnds 45 = .ok (.iload 4, 2) := by decide +kernel
theorem dX9_laysEnds_47 : decode cX9_laysEnds 47 = .ok (.ineg, 1) := by decide +kernel
theorem dX9_laysEnds_48 : decode cX9_laysEnds 48 = .ok (.iconst 1, 1) := by decide +kernel
theorem dX9_laysEnds_49 : decode cX9_laysEnds 49 = .ok (.isub, 1) := by decide +kernel
theorem dX9_laysEnds_50 : decode cX9_laysEnds 50 = .ok (.if_icmp .ne 8, 3) := by decide +kernel
theorem dX9_laysEnds_58 : decode cX9_laysEnds 58 = .ok (.aload_n 0, 1) := by decide +kernel
theorem dX9_laysEnds_59 : decode cX9_laysEnds 59 = .ok (.getfield 81, 3) := by decide +kernel
theorem dX9_laysEnds_62 : decode cX9_laysEnds 62 = .ok (.iload_n 1, 1) := by decide +kernel
theorem dX9_laysEnds_63 : decode cX9_laysEnds 63 = .ok (.iaload, 1) := by decide +kernel
theorem dX9_laysEnds_64 : decode cX9_laysEnds 64 = .ok (.iload 4, 2) := by decide +kernel
theorem dX9_laysEnds_66 : decode cX9_laysEnds 66 = .ok (.iconst 1, 1) := by decide +kernel
theorem dX9_laysEnds_67 : decode cX9_laysEnds 67 = .ok (.iadd, 1) := by decide +kernel
theorem dX9_laysEnds_68 : decode cX9_laysEnds 68 = .ok (.if_icmp .ne 7, 3) := by decide +kernel
theorem dX9_laysEnds_75 : decode cX9_laysEnds 75 = .ok (.aload_n 0, 1) := by decide +kernel
theorem dX9_laysEnds_76 : decode cX9_laysEnds 76 = .ok (.getfield 81, 3) := by decide +kernel
theorem dX9_laysEnds_79 : decode cX9_laysEnds 79 = .ok (.iload_n 1, 1) := by decide +kernel
theorem dX9_laysEnds_80 : decode cX9_laysEnds 80 = .ok (.iaload, 1) := by decide +kernel
theorem dX9_laysEnds_81 : decode cX9_laysEnds 81 = .ok (.iload 4, 2) := by decide +kernel
theorem dX9_laysEnds_83 : decode cX9_laysEnds 83 = .ok (.ineg, 1) := by decide +kernel
theorem dX9_laysEnds_84 : decode cX9_laysEnds 84 = .ok (.iconst 1, 1) := by decide +kernel
theorem dX9_laysEnds_85 : decode cX9_laysEnds 85 = .ok (.isub, 1) := by decide +kernel
theorem dX9_laysEnds_86 : decode cX9_laysEnds 86 = .ok (.if_icmp .ne 8, 3) := by decide +kernel
theorem dX9_laysEnds_94 : decode cX9_laysEnds 94 = .ok (.iconst 0, 1) := by decide +kernel
theorem dX9_laysEnds_89 : decode cX9_laysEnds 89 = .ok (.iload_n 3, 1) := by decide +kernel
theorem dX9_laysEnds_90 : decode cX9_laysEnds 90 = .ok (.ineg, 1) := by decide +kernel
theorem dX9_laysEnds_91 : decode cX9_laysEnds 91 = .ok (.goto 4, 3) := by decide +kernel
theorem dX9_laysEnds_71 : decode cX9_laysEnds 71 = .ok (.iload_n 3, 1) := by decide +kernel
theorem dX9_laysEnds_72 : decode cX9_laysEnds 72 = .ok (.goto 23, 3) := by decide +kernel
theorem dX9_laysEnds_53 : decode cX9_laysEnds 53 = .ok (.iload_n 2, 1) := by decide +kernel
theorem dX9_laysEnds_54 : decode cX9_laysEnds 54 = .ok (.ineg, 1) := by decide +kernel
theorem dX9_laysEnds_55 : decode cX9_laysEnds 55 = .ok (.goto 40, 3) := by decide +kernel
theorem dX9_laysEnds_35 : decode cX9_laysEnds 35 = .ok (.iload_n 2, 1) := by decide +kernel
theorem dX9_laysEnds_36 : decode cX9_laysEnds 36 = .ok (.goto 59, 3) := by decide +kernel
abbrev rm_kX9_laysEnds : Room := { frames := 1, cells := 0, slots := 0, locals := 21 }
set_option maxHeartbeats 4000000 in
set_option maxRecDepth 100000 in
theorem kX9_laysEnds (l : Launch) (g : zL) (h0 : Nat) (x1 : Int32) (x2 : Int32) (x3 : Int32) (h0_told : Nat) (h0_read : Nat) (h0_now : Nat) (h0_readNow : Nat) (h0_kept : Nat) (h0_undone : Int32) (h0_seed : Int32) (h0_hasPart : Int32) (h0_tape : Nat) (h0_taped : Int32) (h0_refused : Nat) (h0_faultKind : Int32) (h0_faultPlace : Int32) (h0_size : Int32) (h0_at : Int32) (h0_from : Int32) (h0_wrong : Int32) (h0_wrongAt : Int32) (h0_ownLetters : Nat) (h0_flats : Nat) (h0_isLaid : Int32) (h0_corner : Nat) (h0_wayX : Nat) (h0_wayY : Nat) (h0_normal : Nat) (h0_low : Nat) (h0_high : Nat) (h0_clear : Nat) (h0_ways : Nat) (h0_canBe : Nat) (h0_lain : Nat) (h0_canTool : Int32) (h0_fewestBy : Nat) (h0_sortOf : Nat) (h0_rows : Int32) (h0_seenFlange : Nat) (h0_seenLength : Nat) (f_h0_corner : Nat → Int32) (f_h0_wayX : Nat → Int32) (f_h0_wayY : Nat → Int32) (f_h0_low : Nat → Int32) (f_h0_high : Nat → Int32) (hy0 : 0 ≤ x1.toInt ∧ x1.toInt ≤ 9) (hy1 : 0 ≤ h0_undone.toInt ∧ h0_undone.toInt ≤ 20) (hy2 : 0 ≤ h0_seed.toInt ∧ h0_seed.toInt ≤ 2147483647) (hy3 : 0 ≤ h0_hasPart.toInt ∧ h0_hasPart.toInt ≤ 1) (hy4 : 0 ≤ h0_taped.toInt ∧ h0_taped.toInt ≤ 1200) (hy5 : 0 ≤ h0_faultKind.toInt ∧ h0_faultKind.toInt ≤ 5) (hy6 : 0 ≤ h0_size.toInt ∧ h0_size.toInt ≤ 1200) (hy7 : 0 ≤ h0_at.toInt ∧ h0_at.toInt ≤ 1200) (hy8 : 0 ≤ h0_from.toInt ∧ h0_from.toInt ≤ 1200) (hy9 : 0 ≤ h0_wrong.toInt ∧ h0_wrong.toInt ≤ 5) (hy10 : 0 ≤ h0_isLaid.toInt ∧ h0_isLaid.toInt ≤ 1) (hy11 : 0 ≤ h0_canTool.toInt ∧ h0_canTool.toInt ≤ 255) (hy12 : 0 ≤ h0_rows.toInt ∧ h0_rows.toInt ≤ 8) (hy13 : aI (-3) 3 f_h0_wayX) (hy14 : aI (-3) 3 f_h0_wayY) : zCv l g yX9_laysEnds cX9_laysEnds 7 none rm_kX9_laysEnds [.ref h0, .int x1, .int x2, .int x3] [(h0, .inr (9, [.ref h0_told, .ref h0_read, .ref h0_now, .ref h0_readNow, .ref h0_kept, .int h0_undone, .int h0_seed, .int h0_hasPart, .ref h0_tape, .int h0_taped, .ref h0_refused, .int h0_faultKind, .int h0_faultPlace, .int h0_size, .int h0_at, .int h0_from, .int h0_wrong, .int h0_wrongAt, .ref h0_ownLetters, .ref h0_flats, .int h0_isLaid, .ref h0_corner, .ref h0_wayX, .ref h0_wayY, .ref h0_normal, .ref h0_low, .ref h0_high, .ref h0_clear, .ref h0_ways, .ref h0_canBe, .ref h0_lain, .int h0_canTool, .ref h0_fewestBy, .ref h0_sortOf, .int h0_rows, .ref h0_seenFlange, .ref h0_seenLength])), (h0_corner, .inl (g.2.1.1, 30, .inl f_h0_corner)), (h0_wayX, .inl (g.2.1.1, 10, .inl f_h0_wayX)), (h0_wayY, .inl (g.2.1.1, 10, .inl f_h0_wayY)), (h0_low, .inl (g.2.1.1, 30, .inl f_h0_low)), (h0_high, .inl (g.2.1.1, 30, .inl f_h0_high))] (fun (u : (Nat → Int32) × (Nat → Int32)) => True) (fun (u : (Nat → Int32) × (Nat → Int32)) => [(h0, .inr (9, [.ref h0_told, .ref h0_read, .ref h0_now, .ref h0_readNow, .ref h0_kept, .int h0_undone, .int h0_seed, .int h0_hasPart, .ref h0_tape, .int h0_taped, .ref h0_refused, .int h0_faultKind, .int h0_faultPlace, .int h0_size, .int h0_at, .int h0_from, .int h0_wrong, .int h0_wrongAt, .ref h0_ownLetters, .ref h0_flats, .int h0_isLaid, .ref h0_corner, .ref h0_wayX, .ref h0_wayY, .ref h0_normal, .ref h0_low, .ref h0_high, .ref h0_clear, .ref h0_ways, .ref h0_canBe, .ref h0_lain, .int h0_canTool, .ref h0_fewestBy, .ref h0_sortOf, .int h0_rows, .ref h0_seenFlange, .ref h0_seenLength])), (h0_corner, .inl (g.2.1.1, 30, .inl f_h0_corner)), (h0_wayX, .inl (g.2.1.1, 10, .inl f_h0_wayX)), (h0_wayY, .inl (g.2.1.1, 10, .inl f_h0_wayY)), (h0_low, .inl (g.2.1.1, 30, .inl u.1)), (h0_high, .inl (g.2.1.1, 30, .inl u.2))]) := by
  refine zCv.mk2 (by decide) (Nat.le_of_ble_eq_true rfl) ?_
  intro p e s m below meth c A args Q hE hret hP hD hS ls hl
  obtain ⟨hx, hb, hr, hml, hown, hG, hlocks, hnm, hX, hA⟩ := hE
  have hown : s.vm.findClass RX9 = some m.cls := hown
  have hl : lv_has ls 7 [(0, .ref h0), (1, .int x1), (2, .int x2), (3, .int x3)] := hl
  refine lv_iconst (v := 0) hx hb dX9_laysEnds_0 (by decide) ?_
  refine lv_istore (lv' := [(4, .int 0), (0, .ref h0), (1, .int x1), (2, .int x2), (3, .int x3)]) hx hb dX9_laysEnds_1 hl (by decide) rfl (fun ls hl => ?_)
  have L536 : ∀ (n : Nat) (v421 : Int32) (fn422 : Nat → Int32) (fn423 : Nat → Int32) (H : Heap) (locs : List Loc) (ls : Array Slot), 0 ≤ v421.toInt ∧ v421.toInt ≤ 3 → (4 - v421.toInt).toNat < n → va_P g.1 vwCl [(h0, .inr (9, [.ref h0_told, .ref h0_read, .ref h0_now, .ref h0_readNow, .ref h0_kept, .int h0_undone, .int h0_seed, .int h0_hasPart, .ref h0_tape, .int h0_taped, .ref h0_refused, .int h0_faultKind, .int h0_faultPlace, .int h0_size, .int h0_at, .int h0_from, .int h0_wrong, .int h0_wrongAt, .ref h0_ownLetters, .ref h0_flats, .int h0_isLaid, .ref h0_corner, .ref h0_wayX, .ref h0_wayY, .ref h0_normal, .ref h0_low, .ref h0_high, .ref h0_clear, .ref h0_ways, .ref h0_canBe, .ref h0_lain, .int h0_canTool, .ref h0_fewestBy, .ref h0_sortOf, .int h0_rows, .ref h0_seenFlange, .ref h0_seenLength])), (h0_corner, .inl (g.2.1.1, 30, .inl f_h0_corner)), (h0_wayX, .inl (g.2.1.1, 10, .inl f_h0_wayX)), (h0_wayY, .inl (g.2.1.1, 10, .inl f_h0_wayY)), (h0_low, .inl (g.2.1.1, 30, .inl fn422)), (h0_high, .inl (g.2.1.1, 30, .inl fn423))] H → va_D A [(h0, .inr (9, [.ref h0_told, .ref h0_read, .ref h0_now, .ref h0_readNow, .ref h0_kept, .int h0_undone, .int h0_seed, .int h0_hasPart, .ref h0_tape, .int h0_taped, .ref h0_refused, .int h0_faultKind, .int h0_faultPlace, .int h0_size, .int h0_at, .int h0_from, .int h0_wrong, .int h0_wrongAt, .ref h0_ownLetters, .ref h0_flats, .int h0_isLaid, .ref h0_corner, .ref h0_wayX, .ref h0_wayY, .ref h0_normal, .ref h0_low, .ref h0_high, .ref h0_clear, .ref h0_ways, .ref h0_canBe, .ref h0_lain, .int h0_canTool, .ref h0_fewestBy, .ref h0_sortOf, .int h0_rows, .ref h0_seenFlange, .ref h0_seenLength])), (h0_corner, .inl (g.2.1.1, 30, .inl f_h0_corner)), (h0_wayX, .inl (g.2.1.1, 10, .inl f_h0_wayX)), (h0_wayY, .inl (g.2.1.1, 10, .inl f_h0_wayY)), (h0_low, .inl (g.2.1.1, 30, .inl fn422)), (h0_high, .inl (g.2.1.1, 30, .inl fn423))] → va_S A s.heap H locs → lv_has ls 7 [(0, .ref h0), (1, .int x1), (2, .int x2), (3, .int x3), (4, .int v421)] → W p l e rm_kX9_laysEnds s m args below meth c H locs 0 0 Q (F0 m 3 ls []) := by
    intro n537
    induction n537 with
    | zero => intro v421 fn422 fn423 H locs ls i539 hm540; exact absurd hm540 (Nat.not_lt_zero _)
    | succ n537 ih538 =>
      intro v421 fn422 fn423 H locs ls i539 hm540 hP hD hS hl
      refine lv_iload hx hb dX9_laysEnds_3 (lv_at hl 4 rfl) ?_
      refine lv_iconst (v := 3) hx hb dX9_laysEnds_5 (by decide) ?_
      refine lv_icmp_ge (tgt := 145) hx hb dX9_laysEnds_6 (by decide) (fun c541 => ?_) (fun c541 => ?_)
      · skip
        have c541i : (3 : Int) ≤ v421.toInt := (zc_le (show (3 : Int32).toInt = (3 : Int) from by decide) (rfl : v421.toInt = _)).mp c541
        exact hret (fn422, fn423) (Nat.le_of_ble_eq_true rfl) (Nat.le_of_ble_eq_true rfl) trivial hP hD hS dX9_laysEnds_145
      · skip
        have c541i : ¬ ((3 : Int) ≤ v421.toInt) := fun q => c541 ((zc_le (show (3 : Int32).toInt = (3 : Int) from by decide) (rfl : v421.toInt = _)).mpr q)
        refine lv_aload_n hx hb dX9_laysEnds_9 rfl (lv_at hl 0 rfl) ?_
        refine va_get (D := g.1) (ci := 9) (v := .ref h0_corner) (C := RX9) (T := TX9) (N := 37) hx hb hG iX9 hown hX.1 hP 0 rfl rfl 21 (by decide) (hG _ wf_X9_75) (fun _ h9 => h9) rfl dX9_laysEnds_10 ?_
        refine lv_iconst (v := 3) hx hb dX9_laysEnds_13 (by decide) ?_
        refine lv_iload_n hx hb dX9_laysEnds_14 rfl (lv_at hl 1 rfl) ?_
        refine lv_imul hx hb dX9_laysEnds_15 ?_
        refine lv_topi (fun z542 e543 => ?_)
        have f544 : z542.toInt = (3 : Int) * x1.toInt := zm e543 (show (3 : Int32).toInt = (3 : Int) from by decide) (rfl : x1.toInt = _) (om_483 hy0)
        refine lv_iload hx hb dX9_laysEnds_16 (lv_at hl 4 rfl) ?_
        refine lv_iadd hx hb dX9_laysEnds_18 ?_
        refine lv_topi (fun z545 e546 => ?_)
        have f547 : z545.toInt = z542.toInt + v421.toInt := za e546 (rfl : z542.toInt = _) (rfl : v421.toInt = _) (om_492 c541i f544 hy0 i539)
        refine va_iald hx hb hX.1 hP 1 0 rfl rfl (zin (rfl : z545.toInt = _) (om_496 c541i f544 f547 hy0 i539)) dX9_laysEnds_19 ?_
        refine lv_topi (fun z548 e549 => ?_)
        refine lv_istore (lv' := [(5, .int z548), (0, .ref h0), (1, .int x1), (2, .int x2), (3, .int x3), (4, .int v421)]) hx hb dX9_laysEnds_20 hl (by decide) rfl (fun ls hl => ?_)
        refine lv_aload_n hx hb dX9_laysEnds_22 rfl (lv_at hl 1 rfl) ?_
        refine va_get (D := g.1) (ci := 9) (v := .ref h0_wayX) (C := RX9) (T := TX9) (N := 37) hx hb hG iX9 hown hX.1 hP 0 rfl rfl 22 (by decide) (hG _ wf_X9_78) (fun _ h9 => h9) rfl dX9_laysEnds_23 ?_
        refine lv_iload_n hx hb dX9_laysEnds_26 rfl (lv_at hl 2 rfl) ?_
        refine va_iald hx hb hX.1 hP 2 0 rfl rfl (zin (rfl : x1.toInt = _) (om_500 hy0)) dX9_laysEnds_27 ?_
        refine lv_topi (fun z550 e551 => ?_)
        have i552 : (-3) ≤ z550.toInt ∧ z550.toInt ≤ 3 := hy13.at e551
        refine lv_iload hx hb dX9_laysEnds_28 (lv_at hl 5 rfl) ?_
        refine lv_iconst (v := 1) hx hb dX9_laysEnds_30 (by decide) ?_
        refine lv_iadd hx hb dX9_laysEnds_31 ?_
        refine lv_topi (fun z553 e554 => ?_)
        have f555 : z553.toInt = v421.toInt + (1 : Int) := za e554 (rfl : v421.toInt = _) (show (1 : Int32).toInt = (1 : Int) from by decide) (om_501 c541i i539)
        have J591 : ∀  (v590 : Int32) (H : Heap) (locs : List Loc) (ls : Array Slot), va_P g.1 vwCl [(h0, .inr (9, [.ref h0_told, .ref h0_read, .ref h0_now, .ref h0_readNow, .ref h0_kept, .int h0_undone, .int h0_seed, .int h0_hasPart, .ref h0_tape, .int h0_taped, .ref h0_refused, .int h0_faultKind, .int h0_faultPlace, .int h0_size, .int h0_at, .int h0_from, .int h0_wrong, .int h0_wrongAt, .ref h0_ownLetters, .ref h0_flats, .int h0_isLaid, .ref h0_corner, .ref h0_wayX, .ref h0_wayY, .ref h0_normal, .ref h0_low, .ref h0_high, .ref h0_clear, .ref h0_ways, .ref h0_canBe, .ref h0_lain, .int h0_canTool, .ref h0_fewestBy, .ref h0_sortOf, .int h0_rows, .ref h0_seenFlange, .ref h0_seenLength])), (h0_corner, .inl (g.2.1.1, 30, .inl f_h0_corner)), (h0_wayX, .inl (g.2.1.1, 10, .inl f_h0_wayX)), (h0_wayY, .inl (g.2.1.1, 10, .inl f_h0_wayY)), (h0_low, .inl (g.2.1.1, 30, .inl fn422)), (h0_high, .inl (g.2.1.1, 30, .inl fn423))] H → va_D A [(h0, .inr (9, [.ref h0_told, .ref h0_read, .ref h0_now, .ref h0_readNow, .ref h0_kept, .int h0_undone, .int h0_seed, .int h0_hasPart, .ref h0_tape, .int h0_taped, .ref h0_refused, .int h0_faultKind, .int h0_faultPlace, .int h0_size, .int h0_at, .int h0_from, .int h0_wrong, .int h0_wrongAt, .ref h0_ownLetters, .ref h0_flats, .int h0_isLaid, .ref h0_corner, .ref h0_wayX, .ref h0_wayY, .ref h0_normal, .ref h0_low, .ref h0_high, .ref h0_clear, .ref h0_ways, .ref h0_canBe, .ref h0_lain, .int h0_canTool, .ref h0_fewestBy, .ref h0_sortOf, .int h0_rows, .ref h0_seenFlange, .ref h0_seenLength])), (h0_corner, .inl (g.2.1.1, 30, .inl f_h0_corner)), (h0_wayX, .inl (g.2.1.1, 10, .inl f_h0_wayX)), (h0_wayY, .inl (g.2.1.1, 10, .inl f_h0_wayY)), (h0_low, .inl (g.2.1.1, 30, .inl fn422)), (h0_high, .inl (g.2.1.1, 30, .inl fn423))] → va_S A s.heap H locs → lv_has ls 7 [(0, .ref h0), (1, .int x1), (2, .int x2), (3, .int x3), (4, .int v421), (5, .int z548)] → W p l e rm_kX9_laysEnds s m args below meth c H locs 0 0 Q (F0 m 95 ls [.int v590]) := by
          intro v590 H locs ls  hP hD hS hl
          refine lv_istore (lv' := [(6, .int v590), (0, .ref h0), (1, .int x1), (2, .int x2), (3, .int x3), (4, .int v421), (5, .int z548)]) hx hb dX9_laysEnds_95 hl (by decide) rfl (fun ls hl => ?_)
          refine lv_aload_n hx hb dX9_laysEnds_97 rfl (lv_at hl 1 rfl) ?_
          refine va_get (D := g.1) (ci := 9) (v := .ref h0_low) (C := RX9) (T := TX9) (N := 37) hx hb hG iX9 hown hX.1 hP 0 rfl rfl 25 (by decide) (hG _ wf_X9_87) (fun _ h9 => h9) rfl dX9_laysEnds_98 ?_
          refine lv_iconst (v := 3) hx hb dX9_laysEnds_101 (by decide) ?_
          refine lv_iload_n hx hb dX9_laysEnds_102 rfl (lv_at hl 2 rfl) ?_
          refine lv_imul hx hb dX9_laysEnds_103 ?_
          refine lv_topi (fun z592 e593 => ?_)
          have f594 : z592.toInt = (3 : Int) * x1.toInt := zm e593 (show (3 : Int32).toInt = (3 : Int) from by decide) (rfl : x1.toInt = _) (om_483 hy0)
          refine lv_iload hx hb dX9_laysEnds_104 (lv_at hl 5 rfl) ?_
          refine lv_iadd hx hb dX9_laysEnds_106 ?_
          refine lv_topi (fun z595 e596 => ?_)
          have f597 : z595.toInt = z592.toInt + v421.toInt := za e596 (rfl : z592.toInt = _) (rfl : v421.toInt = _) (om_492 c541i f594 hy0 i539)
          refine lv_iload hx hb dX9_laysEnds_107 (lv_at hl 6 rfl) ?_
          refine lv_iload hx hb dX9_laysEnds_109 (lv_at hl 6 rfl) ?_
          refine lv_iload hx hb dX9_laysEnds_111 (lv_at hl 0 rfl) ?_
          refine lv_iadd hx hb dX9_laysEnds_113 ?_
          refine lv_topi (fun z598 e599 => ?_)
          refine zfi (wr := [(h0, .inr (9, [.ref h0_told, .ref h0_read, .ref h0_now, .ref h0_readNow, .ref h0_kept, .int h0_undone, .int h0_seed, .int h0_hasPart, .ref h0_tape, .int h0_taped, .ref h0_refused, .int h0_faultKind, .int h0_faultPlace, .int h0_size, .int h0_at, .int h0_from, .int h0_wrong, .int h0_wrongAt, .ref h0_ownLetters, .ref h0_flats, .int h0_isLaid, .ref h0_corner, .ref h0_wayX, .ref h0_wayY, .ref h0_normal, .ref h0_low, .ref h0_high, .ref h0_clear, .ref h0_ways, .ref h0_canBe, .ref h0_lain, .int h0_canTool, .ref h0_fewestBy, .ref h0_sortOf, .int h0_rows, .ref h0_seenFlange, .ref h0_seenLength])), (h0_corner, .inl (g.2.1.1, 30, .inl f_h0_corner)), (h0_wayX, .inl (g.2.1.1, 10, .inl f_h0_wayX)), (h0_wayY, .inl (g.2.1.1, 10, .inl f_h0_wayY)), (h0_low, .inl (g.2.1.1, 30, .inl fn422)), (h0_high, .inl (g.2.1.1, 30, .inl fn423))]) (va_runS (As := [.int z548, .int z598]) (rest := [.int z595, .ref h0_low]) ⟨hx, hb, hml, hown, hG⟩ (kX9_lesser l g z548 z598 _) ⟨callB_of 2 hG (zGood wc_X9_lesser) rfl rfl rfl (hG _ wini_X9) (hG _ wm_X9_181) hX9_lesser ⟨Nat.le_of_ble_eq_true rfl, Nat.le_of_ble_eq_true rfl⟩, hG _ ws_X9_lesser⟩ (zpreS hX hP hD hS hA [] rfl (by decide)) rfl rfl hl.1 rfl (lv_room (Nat.le_of_ble_eq_true rfl)) dX9_laysEnds_114 ⟨Nat.le_of_ble_eq_true rfl, Nat.le_of_ble_eq_true rfl⟩) hP hD hS hA [] [0, 1, 2, 3, 4, 5] rfl rfl (by decide) (by decide) (fun r600 _ H locs hp hP hD hS => ?_)
          refine W.cs (cells' := 0) (slots' := 0) rfl rfl ?_
          have hq601 : r600.toInt ≤ z548.toInt ∧ r600.toInt ≤ z598.toInt ∧ (r600.toInt = z548.toInt ∨ r600.toInt = z598.toInt) := hp
          have hP : va_P g.1 vwCl [(h0, .inr (9, [.ref h0_told, .ref h0_read, .ref h0_now, .ref h0_readNow, .ref h0_kept, .int h0_undone, .int h0_seed, .int h0_hasPart, .ref h0_tape, .int h0_taped, .ref h0_refused, .int h0_faultKind, .int h0_faultPlace, .int h0_size, .int h0_at, .int h0_from, .int h0_wrong, .int h0_wrongAt, .ref h0_ownLetters, .ref h0_flats, .int h0_isLaid, .ref h0_corner, .ref h0_wayX, .ref h0_wayY, .ref h0_normal, .ref h0_low, .ref h0_high, .ref h0_clear, .ref h0_ways, .ref h0_canBe, .ref h0_lain, .int h0_canTool, .ref h0_fewestBy, .ref h0_sortOf, .int h0_rows, .ref h0_seenFlange, .ref h0_seenLength])), (h0_corner, .inl (g.2.1.1, 30, .inl f_h0_corner)), (h0_wayX, .inl (g.2.1.1, 10, .inl f_h0_wayX)), (h0_wayY, .inl (g.2.1.1, 10, .inl f_h0_wayY)), (h0_low, .inl (g.2.1.1, 30, .inl fn422)), (h0_high, .inl (g.2.1.1, 30, .inl fn423))] H := hP
          have hD : va_D A [(h0, .inr (9, [.ref h0_told, .ref h0_read, .ref h0_now, .ref h0_readNow, .ref h0_kept, .int h0_undone, .int h0_seed, .int h0_hasPart, .ref h0_tape, .int h0_taped, .ref h0_refused, .int h0_faultKind, .int h0_faultPlace, .int h0_size, .int h0_at, .int h0_from, .int h0_wrong, .int h0_wrongAt, .ref h0_ownLetters, .ref h0_flats, .int h0_isLaid, .ref h0_corner, .ref h0_wayX, .ref h0_wayY, .ref h0_normal, .ref h0_low, .ref h0_high, .ref h0_clear, .ref h0_ways, .ref h0_canBe, .ref h0_lain, .int h0_canTool, .ref h0_fewestBy, .ref h0_sortOf, .int h0_rows, .ref h0_seenFlange, .ref h0_seenLength])), (h0_corner, .inl (g.2.1.1, 30, .inl f_h0_corner)), (h0_wayX, .inl (g.2.1.1, 10, .inl f_h0_wayX)), (h0_wayY, .inl (g.2.1.1, 10, .inl f_h0_wayY)), (h0_low, .inl (g.2.1.1, 30, .inl fn422)), (h0_high, .inl (g.2.1.1, 30, .inl fn423))] := hD
          refine va_iast hx hb hX.1 hP hD hS 4 0 rfl rfl (zin (rfl : z595.toInt = _) (om_496 c541i f594 f597 hy0 i539)) dX9_laysEnds_117 (fun H locs hP hD hS => ?_)
          obtain ⟨f602, e603⟩ : ∃ z9 : Nat → Int32, z9 = upd fn422 z595.toNatClampNeg r600 := ⟨_, rfl⟩
          rw [← e603] at hP hD
          have hP : va_P g.1 vwCl [(h0, .inr (9, [.ref h0_told, .ref h0_read, .ref h0_now, .ref h0_readNow, .ref h0_kept, .int h0_undone, .int h0_seed, .int h0_hasPart, .ref h0_tape, .int h0_taped, .ref h0_refused, .int h0_faultKind, .int h0_faultPlace, .int h0_size, .int h0_at, .int h0_from, .int h0_wrong, .int h0_wrongAt, .ref h0_ownLetters, .ref h0_flats, .int h0_isLaid, .ref h0_corner, .ref h0_wayX, .ref h0_wayY, .ref h0_normal, .ref h0_low, .ref h0_high, .ref h0_clear, .ref h0_ways, .ref h0_canBe, .ref h0_lain, .int h0_canTool, .ref h0_fewestBy, .ref h0_sortOf, .int h0_rows, .ref h0_seenFlange, .ref h0_seenLength])), (h0_corner, .inl (g.2.1.1, 30, .inl f_h0_corner)), (h0_wayX, .inl (g.2.1.1, 10, .inl f_h0_wayX)), (h0_wayY, .inl (g.2.1.1, 10, .inl f_h0_wayY)), (h0_low, .inl (g.2.1.1, 30, .inl f602)), (h0_high, .inl (g.2.1.1, 30, .inl fn423))] H := hP
          have hD : va_D A [(h0, .inr (9, [.ref h0_told, .ref h0_read, .ref h0_now, .ref h0_readNow, .ref h0_kept, .int h0_undone, .int h0_seed, .int h0_hasPart, .ref h0_tape, .int h0_taped, .ref h0_refused, .int h0_faultKind, .int h0_faultPlace, .int h0_size, .int h0_at, .int h0_from, .int h0_wrong, .int h0_wrongAt, .ref h0_ownLetters, .ref h0_flats, .int h0_isLaid, .ref h0_corner, .ref h0_wayX, .ref h0_wayY, .ref h0_normal, .ref h0_low, .ref h0_high, .ref h0_clear, .ref h0_ways, .ref h0_canBe, .ref h0_lain, .int h0_canTool, .ref h0_fewestBy, .ref h0_sortOf, .int h0_rows, .ref h0_seenFlange, .ref h0_seenLength])), (h0_corner, .inl (g.2.1.1, 30, .inl f_h0_corner)), (h0_wayX, .inl (g.2.1.1, 10, .inl f_h0_wayX)), (h0_wayY, .inl (g.2.1.1, 10, .inl f_h0_wayY)), (h0_low, .inl (g.2.1.1, 30, .inl f602)), (h0_high, .inl (g.2.1.1, 30, .inl fn423))] := hD
          refine lv_aload_n hx hb dX9_laysEnds_118 rfl (lv_at hl 1 rfl) ?_
          refine va_get (D := g.1) (ci := 9) (v := .ref h0_high) (C := RX9) (T := TX9) (N := 37) hx hb hG iX9 hown hX.1 hP 0 rfl rfl 26 (by decide) (hG _ wf_X9_90) (fun _ h9 => h9) rfl dX9_laysEnds_119 ?_
          refine lv_iconst (v := 3) hx hb dX9_laysEnds_122 (by decide) ?_
          refine lv_iload_n hx hb dX9_laysEnds_123 rfl (lv_at hl 2 rfl) ?_
          refine lv_imul hx hb dX9_laysEnds_124 ?_
          refine lv_topi (fun z604 e605 => ?_)
          have f606 : z604.toInt = (3 : Int) * x1.toInt := zm e605 (show (3 : Int32).toInt = (3 : Int) from by decide) (rfl : x1.toInt = _) (om_483 hy0)
          refine lv_iload hx hb dX9_laysEnds_125 (lv_at hl 5 rfl) ?_
          refine lv_iadd hx hb dX9_laysEnds_127 ?_
          refine lv_topi (fun z607 e608 => ?_)
          have f609 : z607.toInt = z604.toInt + v421.toInt := za e608 (rfl : z604.toInt = _) (rfl : v421.toInt = _) (om_492 c541i f606 hy0 i539)
          refine lv_iload hx hb dX9_laysEnds_128 (lv_at hl 6 rfl) ?_
          refine lv_iload hx hb dX9_laysEnds_130 (lv_at hl 6 rfl) ?_
          refine lv_iload hx hb dX9_laysEnds_132 (lv_at hl 0 rfl) ?_
          refine lv_iadd hx hb dX9_laysEnds_134 ?_
          refine lv_topi (fun z610 e611 => ?_)
          refine zfi (wr := [(h0, .inr (9, [.ref h0_told, .ref h0_read, .ref h0_now, .ref h0_readNow, .ref h0_kept, .int h0_undone, .int h0_seed, .int h0_hasPart, .ref h0_tape, .int h0_taped, .ref h0_refused, .int h0_faultKind, .int h0_faultPlace, .int h0_size, .int h0_at, .int h0_from, .int h0_wrong, .int h0_wrongAt, .ref h0_ownLetters, .ref h0_flats, .int h0_isLaid, .ref h0_corner, .ref h0_wayX, .ref h0_wayY, .ref h0_normal, .ref h0_low, .ref h0_high, .ref h0_clear, .ref h0_ways, .ref h0_canBe, .ref h0_lain, .int h0_canTool, .ref h0_fewestBy, .ref h0_sortOf, .int h0_rows, .ref h0_seenFlange, .ref h0_seenLength])), (h0_corner, .inl (g.2.1.1, 30, .inl f_h0_corner)), (h0_wayX, .inl (g.2.1.1, 10, .inl f_h0_wayX)), (h0_wayY, .inl (g.2.1.1, 10, .inl f_h0_wayY)), (h0_low, .inl (g.2.1.1, 30, .inl f602)), (h0_high, .inl (g.2.1.1, 30, .inl fn423))]) (va_runS (As := [.int z548, .int z610]) (rest := [.int z607, .ref h0_high]) ⟨hx, hb, hml, hown, hG⟩ (kX9_greater l g z548 z610 _) ⟨callB_of 2 hG (zGood wc_X9_greater) rfl rfl rfl (hG _ wini_X9) (hG _ wm_X9_184) hX9_greater ⟨Nat.le_of_ble_eq_true rfl, Nat.le_of_ble_eq_true rfl⟩, hG _ ws_X9_greater⟩ (zpreS hX hP hD hS hA [] rfl (by decide)) rfl rfl hl.1 rfl (lv_room (Nat.le_of_ble_eq_true rfl)) dX9_laysEnds_135 ⟨Nat.le_of_ble_eq_true rfl, Nat.le_of_ble_eq_true rfl⟩) hP hD hS hA [] [0, 1, 2, 3, 4, 5] rfl rfl (by decide) (by decide) (fun r612 _ H locs hp hP hD hS => ?_)
          refine W.cs (cells' := 0) (slots' := 0) rfl rfl ?_
          have hq613 : z548.toInt ≤ r612.toInt ∧ z610.toInt ≤ r612.toInt ∧ (r612.toInt = z548.toInt ∨ r612.toInt = z610.toInt) := hp
          have hP : va_P g.1 vwCl [(h0, .inr (9, [.ref h0_told, .ref h0_read, .ref h0_now, .ref h0_readNow, .ref h0_kept, .int h0_undone, .int h0_seed, .int h0_hasPart, .ref h0_tape, .int h0_taped, .ref h0_refused, .int h0_faultKind, .int h0_faultPlace, .int h0_size, .int h0_at, .int h0_from, .int h0_wrong, .int h0_wrongAt, .ref h0_ownLetters, .ref h0_flats, .int h0_isLaid, .ref h0_corner, .ref h0_wayX, .ref h0_wayY, .ref h0_normal, .ref h0_low, .ref h0_high, .ref h0_clear, .ref h0_ways, .ref h0_canBe, .ref h0_lain, .int h0_canTool, .ref h0_fewestBy, .ref h0_sortOf, .int h0_rows, .ref h0_seenFlange, .ref h0_seenLength])), (h0_corner, .inl (g.2.1.1, 30, .inl f_h0_corner)), (h0_wayX, .inl (g.2.1.1, 10, .inl f_h0_wayX)), (h0_wayY, .inl (g.2.1.1, 10, .inl f_h0_wayY)), (h0_low, .inl (g.2.1.1, 30, .inl f602)), (h0_high, .inl (g.2.1.1, 30, .inl fn423))] H := hP
          have hD : va_D A [(h0, .inr (9, [.ref h0_told, .ref h0_read, .ref h0_now, .ref h0_readNow, .ref h0_kept, .int h0_undone, .int h0_seed, .int h0_hasPart, .ref h0_tape, .int h0_taped, .ref h0_refused, .int h0_faultKind, .int h0_faultPlace, .int h0_size, .int h0_at, .int h0_from, .int h0_wrong, .int h0_wrongAt, .ref h0_ownLetters, .ref h0_flats, .int h0_isLaid, .ref h0_corner, .ref h0_wayX, .ref h0_wayY, .ref h0_normal, .ref h0_low, .ref h0_high, .ref h0_clear, .ref h0_ways, .ref h0_canBe, .ref h0_lain, .int h0_canTool, .ref h0_fewestBy, .ref h0_sortOf, .int h0_rows, .ref h0_seenFlange, .ref h0_seenLength])), (h0_corner, .inl (g.2.1.1, 30, .inl f_h0_corner)), (h0_wayX, .inl (g.2.1.1, 10, .inl f_h0_wayX)), (h0_wayY, .inl (g.2.1.1, 10, .inl f_h0_wayY)), (h0_low, .inl (g.2.1.1, 30, .inl f602)), (h0_high, .inl (g.2.1.1, 30, .inl fn423))] := hD
          refine va_iast hx hb hX.1 hP hD hS 5 0 rfl rfl (zin (rfl : z607.toInt = _) (om_496 c541i f606 f609 hy0 i539)) dX9_laysEnds_138 (fun H locs hP hD hS => ?_)
          obtain ⟨f614, e615⟩ : ∃ z9 : Nat → Int32, z9 = upd fn423 z607.toNatClampNeg r612 := ⟨_, rfl⟩
          rw [← e615] at hP hD
          have hP : va_P g.1 vwCl [(h0, .inr (9, [.ref h0_told, .ref h0_read, .ref h0_now, .ref h0_readNow, .ref h0_kept, .int h0_undone, .int h0_seed, .int h0_hasPart, .ref h0_tape, .int h0_taped, .ref h0_refused, .int h0_faultKind, .int h0_faultPlace, .int h0_size, .int h0_at, .int h0_from, .int h0_wrong, .int h0_wrongAt, .ref h0_ownLetters, .ref h0_flats, .int h0_isLaid, .ref h0_corner, .ref h0_wayX, .ref h0_wayY, .ref h0_normal, .ref h0_low, .ref h0_high, .ref h0_clear, .ref h0_ways, .ref h0_canBe, .ref h0_lain, .int h0_canTool, .ref h0_fewestBy, .ref h0_sortOf, .int h0_rows, .ref h0_seenFlange, .ref h0_seenLength])), (h0_corner, .inl (g.2.1.1, 30, .inl f_h0_corner)), (h0_wayX, .inl (g.2.1.1, 10, .inl f_h0_wayX)), (h0_wayY, .inl (g.2.1.1, 10, .inl f_h0_wayY)), (h0_low, .inl (g.2.1.1, 30, .inl f602)), (h0_high, .inl (g.2.1.1, 30, .inl f614))] H := hP
          have hD : va_D A [(h0, .inr (9, [.ref h0_told, .ref h0_read, .ref h0_now, .ref h0_readNow, .ref h0_kept, .int h0_undone, .int h0_seed, .int h0_hasPart, .ref h0_tape, .int h0_taped, .ref h0_refused, .int h0_faultKind, .int h0_faultPlace, .int h0_size, .int h0_at, .int h0_from, .int h0_wrong, .int h0_wrongAt, .ref h0_ownLetters, .ref h0_flats, .int h0_isLaid, .ref h0_corner, .ref h0_wayX, .ref h0_wayY, .ref h0_normal, .ref h0_low, .ref h0_high, .ref h0_clear, .ref h0_ways, .ref h0_canBe, .ref h0_lain, .int h0_canTool, .ref h0_fewestBy, .ref h0_sortOf, .int h0_rows, .ref h0_seenFlange, .ref h0_seenLength])), (h0_corner, .inl (g.2.1.1, 30, .inl f_h0_corner)), (h0_wayX, .inl (g.2.1.1, 10, .inl f_h0_wayX)), (h0_wayY, .inl (g.2.1.1, 10, .inl f_h0_wayY)), (h0_low, .inl (g.2.1.1, 30, .inl f602)), (h0_high, .inl (g.2.1.1, 30, .inl f614))] := hD
          obtain ⟨z616, e617⟩ : ∃ y9 : Int32, y9 = v421 + 1 := ⟨_, rfl⟩
          have f618 : z616.toInt = v421.toInt + 1 := za e617 (rfl : v421.toInt = _) (show (1 : Int32).toInt = (1 : Int) from by decide) (om_497 c541i i539)
          refine lv_iinc (v := z616) (lv' := [(4, .int z616), (6, .int v590), (0, .ref h0), (1, .int x1), (2, .int x2), (3, .int x3), (5, .int z548)]) hx hb dX9_laysEnds_139 hl (k := 5) rfl (by rw [e617]; rfl) (by decide) rfl (fun ls hl => ?_)
          refine lv_goto (tgt := 3) hx hb dX9_laysEnds_142 (by decide) ?_
          exact ih538 z616 f602 f614 H locs ls (om_498 c541i f618 i539) (zdec hm540 (om_499 c541i f618)) hP hD hS (lv_sub hl [2, 3, 4, 5, 0] rfl)
        refine lv_icmp_ne (tgt := 39) hx hb dX9_laysEnds_32 (by decide) (fun c619 => ?_) (fun c619 => ?_)
        · skip
          have c619i : ¬ (z550.toInt = z553.toInt) := fun q => c619 ((zc_eq (rfl : z550.toInt = _) (rfl : z553.toInt = _)).mpr q)
          refine lv_aload_n hx hb dX9_laysEnds_39 rfl (lv_at hl 1 rfl) ?_
          refine va_get (D := g.1) (ci := 9) (v := .ref h0_wayX) (C := RX9) (T := TX9) (N := 37) hx hb hG iX9 hown hX.1 hP 0 rfl rfl 22 (by decide) (hG _ wf_X9_78) (fun _ h9 => h9) rfl dX9_laysEnds_40 ?_
          refine lv_iload_n hx hb dX9_laysEnds_43 rfl (lv_at hl 2 rfl) ?_
          refine va_iald hx hb hX.1 hP 2 0 rfl rfl (zin (rfl : x1.toInt = _) (om_500 hy0)) dX9_laysEnds_44 ?_
          refine lv_topi (fun z620 e621 => ?_)
          have f622 : z620.toInt = z550.toInt := congrArg Int32.toInt (e621.trans e551.symm)
          have i623 : (-3) ≤ z620.toInt ∧ z620.toInt ≤ 3 := hy13.at e621
          refine lv_iload hx hb dX9_laysEnds_45 (lv_at hl 5 rfl) ?_
          refine lv_ineg hx hb dX9_laysEnds_47 ?_
          refine lv_topi (fun z624 e625 => ?_)
          have f626 : z624.toInt = -v421.toInt := zng e625 (rfl : v421.toInt = _) (om_502 c541i i539)
          refine lv_iconst (v := 1) hx hb dX9_laysEnds_48 (by decide) ?_
          refine lv_isub hx hb dX9_laysEnds_49 ?_
          refine lv_topi (fun z627 e628 => ?_)
          have f629 : z627.toInt = z624.toInt - (1 : Int) := zs e628 (rfl : z624.toInt = _) (show (1 : Int32).toInt = (1 : Int) from by decide) (om_503 c541i f626 i539)
          refine lv_icmp_ne (tgt := 58) hx hb dX9_laysEnds_50 (by decide) (fun c630 => ?_) (fun c630 => ?_)
          · skip
            have c630i : ¬ (z620.toInt = z627.toInt) := fun q => c630 ((zc_eq (rfl : z620.toInt = _) (rfl : z627.toInt = _)).mpr q)
            refine lv_aload_n hx hb dX9_laysEnds_58 rfl (lv_at hl 1 rfl) ?_
            refine va_get (D := g.1) (ci := 9) (v := .ref h0_wayY) (C := RX9) (T := TX9) (N := 37) hx hb hG iX9 hown hX.1 hP 0 rfl rfl 23 (by decide) (hG _ wf_X9_81) (fun _ h9 => h9) rfl dX9_laysEnds_59 ?_
            refine lv_iload_n hx hb dX9_laysEnds_62 rfl (lv_at hl 2 rfl) ?_
            refine va_iald hx hb hX.1 hP 3 0 rfl rfl (zin (rfl : x1.toInt = _) (om_500 hy0)) dX9_laysEnds_63 ?_
            refine lv_topi (fun z631 e632 => ?_)
            have i633 : (-3) ≤ z631.toInt ∧ z631.toInt ≤ 3 := hy14.at e632
            refine lv_iload hx hb dX9_laysEnds_64 (lv_at hl 5 rfl) ?_
            refine lv_iconst (v := 1) hx hb dX9_laysEnds_66 (by decide) ?_
            refine lv_iadd hx hb dX9_laysEnds_67 ?_
            refine lv_topi (fun z634 e635 => ?_)
            have f636 : z634.toInt = v421.toInt + (1 : Int) := za e635 (rfl : v421.toInt = _) (show (1 : Int32).toInt = (1 : Int) from by decide) (om_501 c541i i539)
            refine lv_icmp_ne (tgt := 75) hx hb dX9_laysEnds_68 (by decide) (fun c637 => ?_) (fun c637 => ?_)
            · skip
              have c637i : ¬ (z631.toInt = z634.toInt) := fun q => c637 ((zc_eq (rfl : z631.toInt = _) (rfl : z634.toInt = _)).mpr q)
              refine lv_aload_n hx hb dX9_laysEnds_75 rfl (lv_at hl 1 rfl) ?_
              refine va_get (D := g.1) (ci := 9) (v := .ref h0_wayY) (C := RX9) (T := TX9) (N := 37) hx hb hG iX9 hown hX.1 hP 0 rfl rfl 23 (by decide) (hG _ wf_X9_81) (fun _ h9 => h9) rfl dX9_laysEnds_76 ?_
              refine lv_iload_n hx hb dX9_laysEnds_79 rfl (lv_at hl 2 rfl) ?_
              refine va_iald hx hb hX.1 hP 3 0 rfl rfl (zin (rfl : x1.toInt = _) (om_500 hy0)) dX9_laysEnds_80 ?_
              refine lv_topi (fun z638 e639 => ?_)
              have f640 : z638.toInt = z631.toInt := congrArg Int32.toInt (e639.trans e632.symm)
              have i641 : (-3) ≤ z638.toInt ∧ z638.toInt ≤ 3 := hy14.at e639
              refine lv_iload hx hb dX9_laysEnds_81 (lv_at hl 5 rfl) ?_
              refine lv_ineg hx hb dX9_laysEnds_83 ?_
              refine lv_topi (fun z642 e643 => ?_)
              have f644 : z642.toInt = -v421.toInt := zng e643 (rfl : v421.toInt = _) (om_502 c541i i539)
              refine lv_iconst (v := 1) hx hb dX9_laysEnds_84 (by decide) ?_
              refine lv_isub hx hb dX9_laysEnds_85 ?_
              refine lv_topi (fun z645 e646 => ?_)
              have f647 : z645.toInt = z642.toInt - (1 : Int) := zs e646 (rfl : z642.toInt = _) (show (1 : Int32).toInt = (1 : Int) from by decide) (om_503 c541i f644 i539)
              refine lv_icmp_ne (tgt := 94) hx hb dX9_laysEnds_86 (by decide) (fun c648 => ?_) (fun c648 => ?_)
              · skip
                have c648i : ¬ (z638.toInt = z645.toInt) := fun q => c648 ((zc_eq (rfl : z638.toInt = _) (rfl : z645.toInt = _)).mpr q)
                refine lv_iconst (v := 0) hx hb dX9_laysEnds_94 (by decide) ?_
                exact J591 (0 : Int32) H locs ls  hP hD hS (lv_sub hl [1, 2, 3, 4, 5, 0] rfl)
              · skip
                have c648i : z638.toInt = z645.toInt := (zc_eq (rfl : z638.toInt = _) (rfl : z645.toInt = _)).mp c648
                refine lv_iload_n hx hb dX9_laysEnds_89 rfl (lv_at hl 4 rfl) ?_
                refine lv_ineg hx hb dX9_laysEnds_90 ?_
                refine lv_topi (fun z649 e650 => ?_)
                refine lv_goto (tgt := 95) hx hb dX9_laysEnds_91 (by decide) ?_
                exact J591 z649 H locs ls  hP hD hS (lv_sub hl [1, 2, 3, 4, 5, 0] rfl)
            · skip
              have c637i : z631.toInt = z634.toInt := (zc_eq (rfl : z631.toInt = _) (rfl : z634.toInt = _)).mp c637
              refine lv_iload_n hx hb dX9_laysEnds_71 rfl (lv_at hl 4 rfl) ?_
              refine lv_goto (tgt := 95) hx hb dX9_laysEnds_72 (by decide) ?_
              exact J591 x3 H locs ls  hP hD hS (lv_sub hl [1, 2, 3, 4, 5, 0] rfl)
          · skip
            have c630i : z620.toInt = z627.toInt := (zc_eq (rfl : z620.toInt = _) (rfl : z627.toInt = _)).mp c630
            refine lv_iload_n hx hb dX9_laysEnds_53 rfl (lv_at hl 3 rfl) ?_
            refine lv_ineg hx hb dX9_laysEnds_54 ?_
            refine lv_topi (fun z651 e652 => ?_)
            refine lv_goto (tgt := 95) hx hb dX9_laysEnds_55 (by decide) ?_
            exact J591 z651 H locs ls  hP hD hS (lv_sub hl [1, 2, 3, 4, 5, 0] rfl)
        · skip
          have c619i : z550.toInt = z553.toInt := (zc_eq (rfl : z550.toInt = _) (rfl : z553.toInt = _)).mp c619
          refine lv_iload_n hx hb dX9_laysEnds_35 rfl (lv_at hl 3 rfl) ?_
          refine lv_goto (tgt := 95) hx hb dX9_laysEnds_36 (by decide) ?_
          exact J591 x2 H locs ls  hP hD hS (lv_sub hl [1, 2, 3, 4, 5, 0] rfl)
  exact L536 _ (0 : Int32) f_h0_low f_h0_high _ _ ls ((show 0 ≤ (0 : Int) ∧ (0 : Int) ≤ 3 from by decide)) (Nat.lt_succ_self _) hP hD hS (lv_sub hl [1, 2, 3, 4, 0] rfl)
theorem dX9_goesOnFlat_0 : decode cX9_goesOnFlat 0 = .ok (.aload_n 0, 1) := by decide +kernel
theorem dX9_goesOnFlat_1 : decode cX9_goesOnFlat 1 = .ok (.iload_n 1, 1) := by decide +kernel
theorem dX9_goesOnFlat_2 : decode cX9_goesOnFlat 2 = .ok (.iload_n 2, 1) := by decide +kernel
theorem dX9_goesOnFlat_3 : decode cX9_goesOnFlat 3 = .ok (.invokevirtual 261, 3) := by decide +kernel
theorem dX9_goesOnFlat_6 : decode cX9_goesOnFlat 6 = .ok (.aload_n 0, 1) := by decide +kernel
theorem dX9_goesOnFlat_7 : decode cX9_goesOnFlat 7 = .ok (.getfield 78, 3) := by decide +kernel
theorem dX9_goesOnFlat_10 : decode cX9_goesOnFlat 10 = .ok (.iload_n 1, 1) := by decide +kernel
theorem dX9_goesOnFlat_11 : decode cX9_goesOnFlat 11 = .ok (.aload_n 0, 1) := by decide +kernel
theorem dX9_goesOnFlat_12 : decode cX9_goesOnFlat 12 = .ok (.getfield 78, 3) := by decide +kernel
theorem dX9_goesOnFlat_15 : decode cX9_goesOnFlat 15 = .ok (.iload_n 2, 1) := by decide +kernel
theorem dX9_goesOnFlat_16 : decode cX9_goesOnFlat 16 = .ok (.iaload, 1) := by decide +kernel
theorem dX9_goesOnFlat_17 : decode cX9_goesOnFlat 17 = .ok (.iastore, 1) := by decide +kernel
theorem dX9_goesOnFlat_18 : decode cX9_goesOnFlat 18 = .ok (.aload_n 0, 1) := by decide +kernel
theorem dX9_goesOnFlat_19 : decode cX9_goesOnFlat 19 = .ok (.getfield 81, 3) := by decide +kernel
theorem dX9_goesOnFlat_22 : decode cX9_goesOnFlat 22 = .ok (.iload_n 1, 1) := by decide +kernel
theorem dX9_goesOnFlat_23 : decode cX9_goesOnFlat 23 = .ok (.aload_n 0, 1) := by decide +kernel
theorem dX9_goesOnFlat_24 : decode cX9_goesOnFlat 24 = .ok (.getfield 81, 3) := by decide +kernel
theorem dX9_goesOnFlat_27 : decode cX9_goesOnFlat 27 = .ok (.iload_n 2, 1) := by decide +kernel
theorem dX9_goesOnFlat_28 : decode cX9_goesOnFlat 28 = .ok (.iaload, 1) := by decide +kernel
theorem dX9_goesOnFlat_29 : decode cX9_goesOnFlat 29 = .ok (.iastore, 1) := by decide +kernel
theorem dX9_goesOnFlat_30 : decode cX9_goesOnFlat 30 = .ok (.aload_n 0, 1) := by decide +kernel
theorem dX9_goesOnFlat_31 : decode cX9_goesOnFlat 31 = .ok (.getfield 84, 3) := by decide +kernel
theorem dX9_goesOnFlat_34 : decode cX9_goesOnFlat 34 = .ok (.iload_n 1, 1) := by decide +kernel
theorem dX9_goesOnFlat_35 : decode cX9_goesOnFlat 35 = .ok (.aload_n 0, 1) := by decide +kernel
theorem dX9_goesOnFlat_36 : decode cX9_goesOnFlat 36 = .ok (.getfield 84, 3) := by decide +kernel
theorem dX9_goesOnFlat_39 : decode cX9_goesOnFlat 39 = .ok (.iload_n 2, 1) := by decide +kernel
theorem dX9_goesOnFlat_40 : decode cX9_goesOnFlat 40 = .ok (.iaload, 1) := by decide +kernel
theorem dX9_goesOnFlat_41 : decode cX9_goesOnFlat 41 = .ok (.iastore, 1) := by decide +kernel
theorem dX9_goesOnFlat_42 : decode cX9_goesOnFlat 42 = .ok (.aload_n 0, 1) := by decide +kernel
theorem dX9_goesOnFlat_43 : decode cX9_goesOnFlat 43 = .ok (.iload_n 1, 1) := by decide +kernel
theorem dX9_goesOnFlat_44 : decode cX9_goesOnFlat 44 = .ok (.aload_n 0, 1) := by decide +kernel
theorem dX9_goesOnFlat_45 : decode cX9_goesOnFlat 45 = .ok (.getfield 78, 3) := by decide +kernel
theorem dX9_goesOnFlat_48 : decode cX9_goesOnFlat 48 = .ok (.iload_n 2, 1) := by decide +kernel
theorem dX9_goesOnFlat_49 : decode cX9_goesOnFlat 49 = .ok (.iaload, 1) := by decide +kernel
theorem dX9_goesOnFlat_50 : decode cX9_goesOnFlat 50 = .ok (.aload_n 0, 1) := by decide +kernel
theorem dX9_goesOnFlat_51 : decode cX9_goesOnFlat 51 = .ok (.getfield 69, 3) := by decide +kernel
theorem dX9_goesOnFlat_54 : decode cX9_goesOnFlat 54 = .ok (.iconst 4, 1) := by decide +kernel
theorem dX9_goesOnFlat_55 : decode cX9_goesOnFlat 55 = .ok (.iload_n 1, 1) := by decide +kernel
theorem dX9_goesOnFlat_56 : decode cX9_goesOnFlat 56 = .ok (.imul, 1) := by decide +kernel
theorem dX9_goesOnFlat_57 : decode cX9_goesOnFlat 57 = .ok (.iaload, 1) := by decide +kernel
theorem dX9_goesOnFlat_58 : decode cX9_goesOnFlat 58 = .ok (.aload_n 0, 1) := by decide +kernel
theorem dX9_goesOnFlat_59 : decode cX9_goesOnFlat 59 = .ok (.getfield 69, 3) := by decide +kernel
theorem dX9_goesOnFlat_62 : decode cX9_goesOnFlat 62 = .ok (.iconst 4, 1) := by decide +kernel
theorem dX9_goesOnFlat_63 : decode cX9_goesOnFlat 63 = .ok (.iload_n 2, 1) := by decide +kernel
theorem dX9_goesOnFlat_64 : decode cX9_goesOnFlat 64 = .ok (.imul, 1) := by decide +kernel
theorem dX9_goesOnFlat_65 : decode cX9_goesOnFlat 65 = .ok (.iaload, 1) := by decide +kernel
theorem dX9_goesOnFlat_66 : decode cX9_goesOnFlat 66 = .ok (.isub, 1) := by decide +kernel
theorem dX9_goesOnFlat_67 : decode cX9_goesOnFlat 67 = .ok (.invokevirtual 264, 3) := by decide +kernel
theorem dX9_goesOnFlat_70 : decode cX9_goesOnFlat 70 = .ok (.aload_n 0, 1) := by decide +kernel
theorem dX9_goesOnFlat_71 : decode cX9_goesOnFlat 71 = .ok (.iload_n 1, 1) := by decide +kernel
theorem dX9_goesOnFlat_72 : decode cX9_goesOnFlat 72 = .ok (.aload_n 0, 1) := by decide +kernel
theorem dX9_goesOnFlat_73 : decode cX9_goesOnFlat 73 = .ok (.getfield 81, 3) := by decide +kernel
theorem dX9_goesOnFlat_76 : decode cX9_goesOnFlat 76 = .ok (.iload_n 2, 1) := by decide +kernel
theorem dX9_goesOnFlat_77 : decode cX9_goesOnFlat 77 = .ok (.iaload, 1) := by decide +kernel
theorem dX9_goesOnFlat_78 : decode cX9_goesOnFlat 78 = .ok (.aload_n 0, 1) := by decide +kernel
theorem dX9_goesOnFlat_79 : decode cX9_goesOnFlat 79 = .ok (.getfield 69, 3) := by decide +kernel
theorem dX9_goesOnFlat_82 : decode cX9_goesOnFlat 82 = .ok (.iconst 4, 1) := by decide +kernel
theorem dX9_goesOnFlat_83 : decode cX9_goesOnFlat 83 = .ok (.iload_n 1, 1) := by decide +kernel
theorem dX9_goesOnFlat_84 : decode cX9_goesOnFlat 84 = .ok (.imul, 1) := by decide +kernel
theorem dX9_goesOnFlat_85 : decode cX9_goesOnFlat 85 = .ok (.iconst 1, 1) := by decide +kernel
theorem dX9_goesOnFlat_86 : decode cX9_goesOnFlat 86 = .ok (.iadd, 1) := by decide +kernel
theorem dX9_goesOnFlat_87 : decode cX9_goesOnFlat 87 = .ok (.iaload, 1) := by decide +kernel
theorem dX9_goesOnFlat_88 : decode cX9_goesOnFlat 88 = .ok (.aload_n 0, 1) := by decide +kernel
theorem dX9_goesOnFlat_89 : decode cX9_goesOnFlat 89 = .ok (.getfield 69, 3) := by decide +kernel
theorem dX9_goesOnFlat_92 : decode cX9_goesOnFlat 92 = .ok (.iconst 4, 1) := by decide +kernel
theorem dX9_goesOnFlat_93 : decode cX9_goesOnFlat 93 = .ok (.iload_n 2, 1) := by decide +kernel
theorem dX9_goesOnFlat_94 : decode cX9_goesOnFlat 94 = .ok (.imul, 1) := by decide +kernel
theorem dX9_goesOnFlat_95 : decode cX9_goesOnFlat 95 = .ok (.iconst 1, 1) := by decide +kernel
theorem dX9_goesOnFlat_96 : decode cX9_goesOnFlat 96 = .ok (.iadd, 1) := by decide +kernel
theorem dX9_goesOnFlat_97 : decode cX9_goesOnFlat 97 = .ok (.iaload, 1) := by decide +kernel
theorem dX9_goesOnFlat_98 : decode cX9_goesOnFlat 98 = .ok (.isub, 1) := by decide +kernel
theorem dX9_goesOnFlat_99 : decode cX9_goesOnFlat 99 = .ok (.invokevirtual 264, 3) := by decide +kernel
theorem dX9_goesOnFlat_102 : decode cX9_goesOnFlat 102 = .ok (.return_, 1) := by decide +kernel
abbrev rm_kX9_goesOnFlat : Room := { frames := 1, cells := 0, slots := 0, locals := 24 }
set_option maxHeartbeats 4000000 in
set_option maxRecDepth 100000 in
theorem kX9_goesOnFlat (l : Launch) (g : zL) (h0 : Nat) (x1 : Int32) (x2 : Int32) (h0_told : Nat) (h0_read : Nat) (h0_now : Nat) (h0_readNow : Nat) (h0_kept : Nat) (h0_undone : Int32) (h0_seed : Int32) (h0_hasPart : Int32) (h0_tape : Nat) (h0_taped : Int32) (h0_refused : Nat) (h0_faultKind : Int32) (h0_faultPlace : Int32) (h0_size : Int32) (h0_at : Int32) (h0_from : Int32) (h0_wrong : Int32) (h0_wrongAt : Int32) (h0_ownLetters : Nat) (h0_flats : Nat) (h0_isLaid : Int32) (h0_corner : Nat) (h0_wayX : Nat) (h0_wayY : Nat) (h0_normal : Nat) (h0_low : Nat) (h0_high : Nat) (h0_clear : Nat) (h0_ways : Nat) (h0_canBe : Nat) (h0_lain : Nat) (h0_canTool : Int32) (h0_fewestBy : Nat) (h0_sortOf : Nat) (h0_rows : Int32) (h0_seenFlange : Nat) (h0_seenLength : Nat) (f_h0_wayX : Nat → Int32) (f_h0_wayY : Nat → Int32) (f_h0_normal : Nat → Int32) (f_h0_corner : Nat → Int32) (f_h0_flats : Nat → Int32) (hy0 : 1 ≤ x1.toInt ∧ x1.toInt ≤ 8) (hy1 : 0 ≤ x2.toInt ∧ x2.toInt ≤ 8) (hy2 : 0 ≤ h0_undone.toInt ∧ h0_undone.toInt ≤ 20) (hy3 : 0 ≤ h0_seed.toInt ∧ h0_seed.toInt ≤ 2147483647) (hy4 : 0 ≤ h0_hasPart.toInt ∧ h0_hasPart.toInt ≤ 1) (hy5 : 0 ≤ h0_taped.toInt ∧ h0_taped.toInt ≤ 1200) (hy6 : 0 ≤ h0_faultKind.toInt ∧ h0_faultKind.toInt ≤ 5) (hy7 : 0 ≤ h0_size.toInt ∧ h0_size.toInt ≤ 1200) (hy8 : 0 ≤ h0_at.toInt ∧ h0_at.toInt ≤ 1200) (hy9 : 0 ≤ h0_from.toInt ∧ h0_from.toInt ≤ 1200) (hy10 : 0 ≤ h0_wrong.toInt ∧ h0_wrong.toInt ≤ 5) (hy11 : 0 ≤ h0_isLaid.toInt ∧ h0_isLaid.toInt ≤ 1) (hy12 : 0 ≤ h0_canTool.toInt ∧ h0_canTool.toInt ≤ 255) (hy13 : 0 ≤ h0_rows.toInt ∧ h0_rows.toInt ≤ 8) (hy14 : aI (-3) 3 f_h0_wayX) (hy15 : aI (-3) 3 f_h0_wayY) (hy16 : aI (-3) 3 f_h0_normal) (hy17 : x2.toInt < x1.toInt) (hy18 : pNz x1 f_h0_wayX f_h0_wayY f_h0_normal) : zCv l g yX9_goesOnFlat cX9_goesOnFlat 3 none rm_kX9_goesOnFlat [.ref h0, .int x1, .int x2] [(h0, .inr (9, [.ref h0_told, .ref h0_read, .ref h0_now, .ref h0_readNow, .ref h0_kept, .int h0_undone, .int h0_seed, .int h0_hasPart, .ref h0_tape, .int h0_taped, .ref h0_refused, .int h0_faultKind, .int h0_faultPlace, .int h0_size, .int h0_at, .int h0_from, .int h0_wrong, .int h0_wrongAt, .ref h0_ownLetters, .ref h0_flats, .int h0_isLaid, .ref h0_corner, .ref h0_wayX, .ref h0_wayY, .ref h0_normal, .ref h0_low, .ref h0_high, .ref h0_clear, .ref h0_ways, .ref h0_canBe, .ref h0_lain, .int h0_canTool, .ref h0_fewestBy, .ref h0_sortOf, .int h0_rows, .ref h0_seenFlange, .ref h0_seenLength])), (h0_wayX, .inl (g.2.1.1, 10, .inl f_h0_wayX)), (h0_wayY, .inl (g.2.1.1, 10, .inl f_h0_wayY)), (h0_normal, .inl (g.2.1.1, 10, .inl f_h0_normal)), (h0_corner, .inl (g.2.1.1, 30, .inl f_h0_corner)), (h0_flats, .inl (g.2.1.1, 72, .inl f_h0_flats))] (fun (u : (Nat → Int32) × (Nat → Int32) × (Nat → Int32) × (Nat → Int32)) => (aI (-3) 3 u.1) ∧ (aI (-3) 3 u.2.1) ∧ (aI (-3) 3 u.2.2.1) ∧ (pNs x1 u.1 u.2.1 u.2.2.1)) (fun (u : (Nat → Int32) × (Nat → Int32) × (Nat → Int32) × (Nat → Int32)) => [(h0, .inr (9, [.ref h0_told, .ref h0_read, .ref h0_now, .ref h0_readNow, .ref h0_kept, .int h0_undone, .int h0_seed, .int h0_hasPart, .ref h0_tape, .int h0_taped, .ref h0_refused, .int h0_faultKind, .int h0_faultPlace, .int h0_size, .int h0_at, .int h0_from, .int h0_wrong, .int h0_wrongAt, .ref h0_ownLetters, .ref h0_flats, .int h0_isLaid, .ref h0_corner, .ref h0_wayX, .ref h0_wayY, .ref h0_normal, .ref h0_low, .ref h0_high, .ref h0_clear, .ref h0_ways, .ref h0_canBe, .ref h0_lain, .int h0_canTool, .ref h0_fewestBy, .ref h0_sortOf, .int h0_rows, .ref h0_seenFlange, .ref h0_seenLength])), (h0_wayX, .inl (g.2.1.1, 10, .inl u.1)), (h0_wayY, .inl (g.2.1.1, 10, .inl u.2.1)), (h0_normal, .inl (g.2.1.1, 10, .inl u.2.2.1)), (h0_corner, .inl (g.2.1.1, 30, .inl u.2.2.2)), (h0_flats, .inl (g.2.1.1, 72, .inl f_h0_flats))]) := by
  refine zCv.mk2 (by decide) (Nat.le_of_ble_eq_true rfl) ?_
  intro p e s m below meth c A args Q hE hret hP hD hS ls hl
  obtain ⟨hx, hb, hr, hml, hown, hG, hlocks, hnm, hX, hA⟩ := hE
  have hown : s.vm.findClass RX9 = some m.cls := hown
  have hl : lv_has ls 3 [(0, .ref h0), (1, .int x1), (2, .int x2)] := hl
  refine lv_aload_n hx hb dX9_goesOnFlat_0 rfl (lv_at hl 0 rfl) ?_
  refine lv_iload_n hx hb dX9_goesOnFlat_1 rfl (lv_at hl 1 rfl) ?_
  refine lv_iload_n hx hb dX9_goesOnFlat_2 rfl (lv_at hl 2 rfl) ?_
  refine zfv (wr := [(h0_wayX, .inl (g.2.1.1, 10, .inl f_h0_wayX)), (h0_wayY, .inl (g.2.1.1, 10, .inl f_h0_wayY)), (h0_normal, .inl (g.2.1.1, 10, .inl f_h0_normal)), (h0_flats, .inl (g.2.1.1, 72, .inl f_h0_flats))]) (va_runV (As := [.int x1, .int x2]) (rest := []) ⟨hx, hb, hml, hown, hG⟩ (kX9_copiesCorner l g h0 x1 x2 h0_told h0_read h0_now h0_readNow h0_kept h0_undone h0_seed h0_hasPart h0_tape h0_taped h0_refused h0_faultKind h0_faultPlace h0_size h0_at h0_from h0_wrong h0_wrongAt h0_ownLetters h0_flats h0_isLaid h0_corner h0_wayX h0_wayY h0_normal h0_low h0_high h0_clear h0_ways h0_canBe h0_lain h0_canTool h0_fewestBy h0_sortOf h0_rows h0_seenFlange h0_seenLength f_h0_corner (om_504 hy0) (om_505 hy0 hy1 hy17) (om_27 hy2) (om_28 hy3) (om_29 hy4) (om_32 hy5) (om_31 hy6) (om_32 hy7) (om_32 hy8) (om_32 hy9) (om_31 hy10) (om_29 hy11) (om_13 hy12) (om_33 hy13) _) ⟨callB_of 2 hG (zGood wc_X9_copiesCorner) rfl rfl rfl (hG _ wini_X9) (hG _ wm_X9_261) hX9_copiesCorner ⟨Nat.le_of_ble_eq_true rfl, Nat.le_of_ble_eq_true rfl⟩, hG _ wi_X9_copiesCorner, hG _ wse_X9_X9_copiesCorner⟩ (zpreV (va_recv hX.1 hP (ci := 9) (q0 := 0) rfl rfl) hX hP hD hS hA [0, 4] rfl (by decide)) rfl rfl hl.1 rfl (lv_room (Nat.le_of_ble_eq_true rfl)) dX9_goesOnFlat_3 ⟨Nat.le_of_ble_eq_true rfl, Nat.le_of_ble_eq_true rfl⟩) hP hD hS hA [0, 4] [1, 2, 3, 5] rfl rfl (by decide) (by decide) (fun u2 H locs hp hP hD hS => ?_)
  refine W.cs (cells' := 0) (slots' := 0) rfl rfl ?_
  obtain ⟨f3, rfl⟩ : ∃ z9, z9 = u2 := ⟨_, rfl⟩
  have hP : va_P g.1 vwCl [(h0_wayX, .inl (g.2.1.1, 10, .inl f_h0_wayX)), (h0_wayY, .inl (g.2.1.1, 10, .inl f_h0_wayY)), (h0_normal, .inl (g.2.1.1, 10, .inl f_h0_normal)), (h0_flats, .inl (g.2.1.1, 72, .inl f_h0_flats)), (h0, .inr (9, [.ref h0_told, .ref h0_read, .ref h0_now, .ref h0_readNow, .ref h0_kept, .int h0_undone, .int h0_seed, .int h0_hasPart, .ref h0_tape, .int h0_taped, .ref h0_refused, .int h0_faultKind, .int h0_faultPlace, .int h0_size, .int h0_at, .int h0_from, .int h0_wrong, .int h0_wrongAt, .ref h0_ownLetters, .ref h0_flats, .int h0_isLaid, .ref h0_corner, .ref h0_wayX, .ref h0_wayY, .ref h0_normal, .ref h0_low, .ref h0_high, .ref h0_clear, .ref h0_ways, .ref h0_canBe, .ref h0_lain, .int h0_canTool, .ref h0_fewestBy, .ref h0_sortOf, .int h0_rows, .ref h0_seenFlange, .ref h0_seenLength])), (h0_corner, .inl (g.2.1.1, 30, .inl f3))] H := hP
  have hD : va_D A [(h0_wayX, .inl (g.2.1.1, 10, .inl f_h0_wayX)), (h0_wayY, .inl (g.2.1.1, 10, .inl f_h0_wayY)), (h0_normal, .inl (g.2.1.1, 10, .inl f_h0_normal)), (h0_flats, .inl (g.2.1.1, 72, .inl f_h0_flats)), (h0, .inr (9, [.ref h0_told, .ref h0_read, .ref h0_now, .ref h0_readNow, .ref h0_kept, .int h0_undone, .int h0_seed, .int h0_hasPart, .ref h0_tape, .int h0_taped, .ref h0_refused, .int h0_faultKind, .int h0_faultPlace, .int h0_size, .int h0_at, .int h0_from, .int h0_wrong, .int h0_wrongAt, .ref h0_ownLetters, .ref h0_flats, .int h0_isLaid, .ref h0_corner, .ref h0_wayX, .ref h0_wayY, .ref h0_normal, .ref h0_low, .ref h0_high, .ref h0_clear, .ref h0_ways, .ref h0_canBe, .ref h0_lain, .int h0_canTool, .ref h0_fewestBy, .ref h0_sortOf, .int h0_rows, .ref h0_seenFlange, .ref h0_seenLength])), (h0_corner, .inl (g.2.1.1, 30, .inl f3))] := hD
  refine lv_aload_n hx hb dX9_goesOnFlat_6 rfl (lv_at hl 0 rfl) ?_
  refine va_get (D := g.1) (ci := 9) (v := .ref h0_wayX) (C := RX9) (T := TX9) (N := 37) hx hb hG iX9 hown hX.1 hP 4 rfl rfl 22 (by decide) (hG _ wf_X9_78) (fun _ h9 => h9) rfl dX9_goesOnFlat_7 ?_
  refine lv_iload_n hx hb dX9_goesOnFlat_10 rfl (lv_at hl 1 rfl) ?_
  refine lv_aload_n hx hb dX9_goesOnFlat_11 rfl (lv_at hl 0 rfl) ?_
  refine va_get (D := g.1) (ci := 9) (v := .ref h0_wayX) (C := RX9) (T := TX9) (N := 37) hx hb hG iX9 hown hX.1 hP 4 rfl rfl 22 (by decide) (hG _ wf_X9_78) (fun _ h9 => h9) rfl dX9_goesOnFlat_12 ?_
  refine lv_iload_n hx hb dX9_goesOnFlat_15 rfl (lv_at hl 2 rfl) ?_
  refine va_iald hx hb hX.1 hP 0 0 rfl rfl (zin (rfl : x2.toInt = _) (om_506 hy0 hy1 hy17)) dX9_goesOnFlat_16 ?_
  refine lv_topi (fun z4 e5 => ?_)
  have i6 : (-3) ≤ z4.toInt ∧ z4.toInt ≤ 3 := hy14.at e5
  have f7 : ¬ z4.toInt = 0 := by rw [e5]; exact (hy18.at (rfl : x2.toInt = _) (rfl : x1.toInt = _) (om_507 hy1 hy17)).1
  refine va_iast hx hb hX.1 hP hD hS 0 0 rfl rfl (zin (rfl : x1.toInt = _) (om_508 hy0)) dX9_goesOnFlat_17 (fun H locs hP hD hS => ?_)
  obtain ⟨f8, e9⟩ : ∃ z9 : Nat → Int32, z9 = upd f_h0_wayX x1.toNatClampNeg z4 := ⟨_, rfl⟩
  rw [← e9] at hP hD
  have hf10 : aI (-3) 3 f8 := hy14.up e9 (rfl : z4.toInt = _) (om_509 i6)
  have hc11 : pNz x1 f8 f_h0_wayY f_h0_normal := pNz.ux hy18 e9 (rfl : x1.toInt = _) (rfl : x1.toInt = _) (om_510 hy0)
  have hP : va_P g.1 vwCl [(h0_wayX, .inl (g.2.1.1, 10, .inl f8)), (h0_wayY, .inl (g.2.1.1, 10, .inl f_h0_wayY)), (h0_normal, .inl (g.2.1.1, 10, .inl f_h0_normal)), (h0_flats, .inl (g.2.1.1, 72, .inl f_h0_flats)), (h0, .inr (9, [.ref h0_told, .ref h0_read, .ref h0_now, .ref h0_readNow, .ref h0_kept, .int h0_undone, .int h0_seed, .int h0_hasPart, .ref h0_tape, .int h0_taped, .ref h0_refused, .int h0_faultKind, .int h0_faultPlace, .int h0_size, .int h0_at, .int h0_from, .int h0_wrong, .int h0_wrongAt, .ref h0_ownLetters, .ref h0_flats, .int h0_isLaid, .ref h0_corner, .ref h0_wayX, .ref h0_wayY, .ref h0_normal, .ref h0_low, .ref h0_high, .ref h0_clear, .ref h0_ways, .ref h0_canBe, .ref h0_lain, .int h0_canTool, .ref h0_fewestBy, .ref h0_sortOf, .int h0_rows, .ref h0_seenFlange, .ref h0_seenLength])), (h0_corner, .inl (g.2.1.1, 30, .inl f3))] H := hP
  have hD : va_D A [(h0_wayX, .inl (g.2.1.1, 10, .inl f8)), (h0_wayY, .inl (g.2.1.1, 10, .inl f_h0_wayY)), (h0_normal, .inl (g.2.1.1, 10, .inl f_h0_normal)), (h0_flats, .inl (g.2.1.1, 72, .inl f_h0_flats)), (h0, .inr (9, [.ref h0_told, .ref h0_read, .ref h0_now, .ref h0_readNow, .ref h0_kept, .int h0_undone, .int h0_seed, .int h0_hasPart, .ref h0_tape, .int h0_taped, .ref h0_refused, .int h0_faultKind, .int h0_faultPlace, .int h0_size, .int h0_at, .int h0_from, .int h0_wrong, .int h0_wrongAt, .ref h0_ownLetters, .ref h0_flats, .int h0_isLaid, .ref h0_corner, .ref h0_wayX, .ref h0_wayY, .ref h0_normal, .ref h0_low, .ref h0_high, .ref h0_clear, .ref h0_ways, .ref h0_canBe, .ref h0_lain, .int h0_canTool, .ref h0_fewestBy, .ref h0_sortOf, .int h0_rows, .ref h0_seenFlange, .ref h0_seenLength])), (h0_corner, .inl (g.2.1.1, 30, .inl f3))] := hD
  refine lv_aload_n hx hb dX9_goesOnFlat_18 rfl (lv_at hl 0 rfl) ?_
  refine va_get (D := g.1) (ci := 9) (v := .ref h0_wayY) (C := RX9) (T := TX9) (N := 37) hx hb hG iX9 hown hX.1 hP 4 rfl rfl 23 (by decide) (hG _ wf_X9_81) (fun _ h9 => h9) rfl dX9_goesOnFlat_19 ?_
  refine lv_iload_n hx hb dX9_goesOnFlat_22 rfl (lv_at hl 1 rfl) ?_
  refine lv_aload_n hx hb dX9_goesOnFlat_23 rfl (lv_at hl 0 rfl) ?_
  refine va_get (D := g.1) (ci := 9) (v := .ref h0_wayY) (C := RX9) (T := TX9) (N := 37) hx hb hG iX9 hown hX.1 hP 4 rfl rfl 23 (by decide) (hG _ wf_X9_81) (fun _ h9 => h9) rfl dX9_goesOnFlat_24 ?_
  refine lv_iload_n hx hb dX9_goesOnFlat_27 rfl (lv_at hl 2 rfl) ?_
  refine va_iald hx hb hX.1 hP 1 0 rfl rfl (zin (rfl : x2.toInt = _) (om_506 hy0 hy1 hy17)) dX9_goesOnFlat_28 ?_
  refine lv_topi (fun z12 e13 => ?_)
  have i14 : (-3) ≤ z12.toInt ∧ z12.toInt ≤ 3 := hy15.at e13
  have f15 : ¬ z12.toInt = 0 := by rw [e13]; exact (hy18.at (rfl : x2.toInt = _) (rfl : x1.toInt = _) (om_507 hy1 hy17)).2.1
  refine va_iast hx hb hX.1 hP hD hS 1 0 rfl rfl (zin (rfl : x1.toInt = _) (om_508 hy0)) dX9_goesOnFlat_29 (fun H locs hP hD hS => ?_)
  obtain ⟨f16, e17⟩ : ∃ z9 : Nat → Int32, z9 = upd f_h0_wayY x1.toNatClampNeg z12 := ⟨_, rfl⟩
  rw [← e17] at hP hD
  have hf18 : aI (-3) 3 f16 := hy15.up e17 (rfl : z12.toInt = _) (om_509 i14)
  have hc19 : pNz x1 f_h0_wayX f16 f_h0_normal := pNz.uy hy18 e17 (rfl : x1.toInt = _) (rfl : x1.toInt = _) (om_510 hy0)
  have hc20 : pNz x1 f8 f16 f_h0_normal := pNz.uy hc11 e17 (rfl : x1.toInt = _) (rfl : x1.toInt = _) (om_510 hy0)
  have hP : va_P g.1 vwCl [(h0_wayX, .inl (g.2.1.1, 10, .inl f8)), (h0_wayY, .inl (g.2.1.1, 10, .inl f16)), (h0_normal, .inl (g.2.1.1, 10, .inl f_h0_normal)), (h0_flats, .inl (g.2.1.1, 72, .inl f_h0_flats)), (h0, .inr (9, [.ref h0_told, .ref h0_read, .ref h0_now, .ref h0_readNow, .ref h0_kept, .int h0_undone, .int h0_seed, .int h0_hasPart, .ref h0_tape, .int h0_taped, .ref h0_refused, .int h0_faultKind, .int h0_faultPlace, .int h0_size, .int h0_at, .int h0_from, .int h0_wrong, .int h0_wrongAt, .ref h0_ownLetters, .ref h0_flats, .int h0_isLaid, .ref h0_corner, .ref h0_wayX, .ref h0_wayY, .ref h0_normal, .ref h0_low, .ref h0_high, .ref h0_clear, .ref h0_ways, .ref h0_canBe, .ref h0_lain, .int h0_canTool, .ref h0_fewestBy, .ref h0_sortOf, .int h0_rows, .ref h0_seenFlange, .ref h0_seenLength])), (h0_corner, .inl (g.2.1.1, 30, .inl f3))] H := hP
  have hD : va_D A [(h0_wayX, .inl (g.2.1.1, 10, .inl f8)), (h0_wayY, .inl (g.2.1.1, 10, .inl f16)), (h0_normal, .inl (g.2.1.1, 10, .inl f_h0_normal)), (h0_flats, .inl (g.2.1.1, 72, .inl f_h0_flats)), (h0, .inr (9, [.ref h0_told, .ref h0_read, .ref h0_now, .ref h0_readNow, .ref h0_kept, .int h0_undone, .int h0_seed, .int h0_hasPart, .ref h0_tape, .int h0_taped, .ref h0_refused, .int h0_faultKind, .int h0_faultPlace, .int h0_size, .int h0_at, .int h0_from, .int h0_wrong, .int h0_wrongAt, .ref h0_ownLetters, .ref h0_flats, .int h0_isLaid, .ref h0_corner, .ref h0_wayX, .ref h0_wayY, .ref h0_normal, .ref h0_low, .ref h0_high, .ref h0_clear, .ref h0_ways, .ref h0_canBe, .ref h0_lain, .int h0_canTool, .ref h0_fewestBy, .ref h0_sortOf, .int h0_rows, .ref h0_seenFlange, .ref h0_seenLength])), (h0_corner, .inl (g.2.1.1, 30, .inl f3))] := hD
  refine lv_aload_n hx hb dX9_goesOnFlat_30 rfl (lv_at hl 0 rfl) ?_
  refine va_get (D := g.1) (ci := 9) (v := .ref h0_normal) (C := RX9) (T := TX9) (N := 37) hx hb hG iX9 hown hX.1 hP 4 rfl rfl 24 (by decide) (hG _ wf_X9_84) (fun _ h9 => h9) rfl dX9_goesOnFlat_31 ?_
  refine lv_iload_n hx hb dX9_goesOnFlat_34 rfl (lv_at hl 1 rfl) ?_
  refine lv_aload_n hx hb dX9_goesOnFlat_35 rfl (lv_at hl 0 rfl) ?_
  refine va_get (D := g.1) (ci := 9) (v := .ref h0_normal) (C := RX9) (T := TX9) (N := 37) hx hb hG iX9 hown hX.1 hP 4 rfl rfl 24 (by decide) (hG _ wf_X9_84) (fun _ h9 => h9) rfl dX9_goesOnFlat_36 ?_
  refine lv_iload_n hx hb dX9_goesOnFlat_39 rfl (lv_at hl 2 rfl) ?_
  refine va_iald hx hb hX.1 hP 2 0 rfl rfl (zin (rfl : x2.toInt = _) (om_506 hy0 hy1 hy17)) dX9_goesOnFlat_40 ?_
  refine lv_topi (fun z21 e22 => ?_)
  have i23 : (-3) ≤ z21.toInt ∧ z21.toInt ≤ 3 := hy16.at e22
  have f24 : ¬ z21.toInt = 0 := by rw [e22]; exact (hy18.at (rfl : x2.toInt = _) (rfl : x1.toInt = _) (om_507 hy1 hy17)).2.2
  refine va_iast hx hb hX.1 hP hD hS 2 0 rfl rfl (zin (rfl : x1.toInt = _) (om_508 hy0)) dX9_goesOnFlat_41 (fun H locs hP hD hS => ?_)
  obtain ⟨f25, e26⟩ : ∃ z9 : Nat → Int32, z9 = upd f_h0_normal x1.toNatClampNeg z21 := ⟨_, rfl⟩
  rw [← e26] at hP hD
  have hf27 : aI (-3) 3 f25 := hy16.up e26 (rfl : z21.toInt = _) (om_509 i23)
  have hc28 : pNz x1 f_h0_wayX f_h0_wayY f25 := pNz.un hy18 e26 (rfl : x1.toInt = _) (rfl : x1.toInt = _) (om_510 hy0)
  have hc29 : pNz x1 f8 f_h0_wayY f25 := pNz.un hc11 e26 (rfl : x1.toInt = _) (rfl : x1.toInt = _) (om_510 hy0)
  have hc30 : pNz x1 f_h0_wayX f16 f25 := pNz.un hc19 e26 (rfl : x1.toInt = _) (rfl : x1.toInt = _) (om_510 hy0)
  have hc31 : pNz x1 f8 f16 f25 := pNz.un hc20 e26 (rfl : x1.toInt = _) (rfl : x1.toInt = _) (om_510 hy0)
  have hP : va_P g.1 vwCl [(h0_wayX, .inl (g.2.1.1, 10, .inl f8)), (h0_wayY, .inl (g.2.1.1, 10, .inl f16)), (h0_normal, .inl (g.2.1.1, 10, .inl f25)), (h0_flats, .inl (g.2.1.1, 72, .inl f_h0_flats)), (h0, .inr (9, [.ref h0_told, .ref h0_read, .ref h0_now, .ref h0_readNow, .ref h0_kept, .int h0_undone, .int h0_seed, .int h0_hasPart, .ref h0_tape, .int h0_taped, .ref h0_refused, .int h0_faultKind, .int h0_faultPlace, .int h0_size, .int h0_at, .int h0_from, .int h0_wrong, .int h0_wrongAt, .ref h0_ownLetters, .ref h0_flats, .int h0_isLaid, .ref h0_corner, .ref h0_wayX, .ref h0_wayY, .ref h0_normal, .ref h0_low, .ref h0_high, .ref h0_clear, .ref h0_ways, .ref h0_canBe, .ref h0_lain, .int h0_canTool, .ref h0_fewestBy, .ref h0_sortOf, .int h0_rows, .ref h0_seenFlange, .ref h0_seenLength])), (h0_corner, .inl (g.2.1.1, 30, .inl f3))] H := hP
  have hD : va_D A [(h0_wayX, .inl (g.2.1.1, 10, .inl f8)), (h0_wayY, .inl (g.2.1.1, 10, .inl f16)), (h0_normal, .inl (g.2.1.1, 10, .inl f25)), (h0_flats, .inl (g.2.1.1, 72, .inl f_h0_flats)), (h0, .inr (9, [.ref h0_told, .ref h0_read, .ref h0_now, .ref h0_readNow, .ref h0_kept, .int h0_undone, .int h0_seed, .int h0_hasPart, .ref h0_tape, .int h0_taped, .ref h0_refused, .int h0_faultKind, .int h0_faultPlace, .int h0_size, .int h0_at, .int h0_from, .int h0_wrong, .int h0_wrongAt, .ref h0_ownLetters, .ref h0_flats, .int h0_isLaid, .ref h0_corner, .ref h0_wayX, .ref h0_wayY, .ref h0_normal, .ref h0_low, .ref h0_high, .ref h0_clear, .ref h0_ways, .ref h0_canBe, .ref h0_lain, .int h0_canTool, .ref h0_fewestBy, .ref h0_sortOf, .int h0_rows, .ref h0_seenFlange, .ref h0_seenLength])), (h0_corner, .inl (g.2.1.1, 30, .inl f3))] := hD
  refine lv_aload_n hx hb dX9_goesOnFlat_42 rfl (lv_at hl 0 rfl) ?_
  refine lv_iload_n hx hb dX9_goesOnFlat_43 rfl (lv_at hl 1 rfl) ?_
  refine lv_aload_n hx hb dX9_goesOnFlat_44 rfl (lv_at hl 0 rfl) ?_
  refine va_get (D := g.1) (ci := 9) (v := .ref h0_wayX) (C := RX9) (T := TX9) (N := 37) hx hb hG iX9 hown hX.1 hP 4 rfl rfl 22 (by decide) (hG _ wf_X9_78) (fun _ h9 => h9) rfl dX9_goesOnFlat_45 ?_
  refine lv_iload_n hx hb dX9_goesOnFlat_48 rfl (lv_at hl 2 rfl) ?_
  refine va_iald hx hb hX.1 hP 0 0 rfl rfl (zin (rfl : x2.toInt = _) (om_506 hy0 hy1 hy17)) dX9_goesOnFlat_49 ?_
  refine lv_topi (fun z32 e33 => ?_)
  have i34 : (-3) ≤ z32.toInt ∧ z32.toInt ≤ 3 := hf10.at e33
  have f35 : ¬ z32.toInt = 0 := by rw [e33]; exact (hc11.at (rfl : x2.toInt = _) (rfl : x1.toInt = _) (om_507 hy1 hy17)).1
  refine lv_aload_n hx hb dX9_goesOnFlat_50 rfl (lv_at hl 0 rfl) ?_
  refine va_get (D := g.1) (ci := 9) (v := .ref h0_flats) (C := RX9) (T := TX9) (N := 37) hx hb hG iX9 hown hX.1 hP 4 rfl rfl 19 (by decide) (hG _ wf_X9_69) (fun _ h9 => h9) rfl dX9_goesOnFlat_51 ?_
  refine lv_iconst (v := 4) hx hb dX9_goesOnFlat_54 (by decide) ?_
  refine lv_iload_n hx hb dX9_goesOnFlat_55 rfl (lv_at hl 1 rfl) ?_
  refine lv_imul hx hb dX9_goesOnFlat_56 ?_
  refine lv_topi (fun z36 e37 => ?_)
  have f38 : z36.toInt = (4 : Int) * x1.toInt := zm e37 (show (4 : Int32).toInt = (4 : Int) from by decide) (rfl : x1.toInt = _) (om_511 hy0)
  refine va_iald hx hb hX.1 hP 3 0 rfl rfl (zin (rfl : z36.toInt = _) (om_512 f38 hy0)) dX9_goesOnFlat_57 ?_
  refine lv_topi (fun z39 e40 => ?_)
  refine lv_aload_n hx hb dX9_goesOnFlat_58 rfl (lv_at hl 0 rfl) ?_
  refine va_get (D := g.1) (ci := 9) (v := .ref h0_flats) (C := RX9) (T := TX9) (N := 37) hx hb hG iX9 hown hX.1 hP 4 rfl rfl 19 (by decide) (hG _ wf_X9_69) (fun _ h9 => h9) rfl dX9_goesOnFlat_59 ?_
  refine lv_iconst (v := 4) hx hb dX9_goesOnFlat_62 (by decide) ?_
  refine lv_iload_n hx hb dX9_goesOnFlat_63 rfl (lv_at hl 2 rfl) ?_
  refine lv_imul hx hb dX9_goesOnFlat_64 ?_
  refine lv_topi (fun z41 e42 => ?_)
  have f43 : z41.toInt = (4 : Int) * x2.toInt := zm e42 (show (4 : Int32).toInt = (4 : Int) from by decide) (rfl : x2.toInt = _) (om_513 hy0 hy1 hy17)
  refine va_iald hx hb hX.1 hP 3 0 rfl rfl (zin (rfl : z41.toInt = _) (om_514 f43 hy0 hy1 hy17)) dX9_goesOnFlat_65 ?_
  refine lv_topi (fun z44 e45 => ?_)
  refine lv_isub hx hb dX9_goesOnFlat_66 ?_
  refine lv_topi (fun z46 e47 => ?_)
  refine zfv (wr := [(h0_wayX, .inl (g.2.1.1, 10, .inl f8)), (h0_wayY, .inl (g.2.1.1, 10, .inl f16)), (h0_normal, .inl (g.2.1.1, 10, .inl f25)), (h0_flats, .inl (g.2.1.1, 72, .inl f_h0_flats))]) (va_runV (As := [.int x1, .int z32, .int z46]) (rest := []) ⟨hx, hb, hml, hown, hG⟩ (kX9_moves l g h0 x1 z32 z46 h0_told h0_read h0_now h0_readNow h0_kept h0_undone h0_seed h0_hasPart h0_tape h0_taped h0_refused h0_faultKind h0_faultPlace h0_size h0_at h0_from h0_wrong h0_wrongAt h0_ownLetters h0_flats h0_isLaid h0_corner h0_wayX h0_wayY h0_normal h0_low h0_high h0_clear h0_ways h0_canBe h0_lain h0_canTool h0_fewestBy h0_sortOf h0_rows h0_seenFlange h0_seenLength f3 (om_504 hy0) (om_509 i34) (om_27 hy2) (om_28 hy3) (om_29 hy4) (om_32 hy5) (om_31 hy6) (om_32 hy7) (om_32 hy8) (om_32 hy9) (om_31 hy10) (om_29 hy11) (om_13 hy12) (om_33 hy13) (om_515 f35) _) ⟨callB_of 3 hG (zGood wc_X9_moves) rfl rfl rfl (hG _ wini_X9) (hG _ wm_X9_264) hX9_moves ⟨Nat.le_of_ble_eq_true rfl, Nat.le_of_ble_eq_true rfl⟩, hG _ wi_X9_moves, hG _ wse_X9_X9_moves⟩ (zpreV (va_recv hX.1 hP (ci := 9) (q0 := 4) rfl rfl) hX hP hD hS hA [4, 5] rfl (by decide)) rfl rfl hl.1 rfl (lv_room (Nat.le_of_ble_eq_true rfl)) dX9_goesOnFlat_67 ⟨Nat.le_of_ble_eq_true rfl, Nat.le_of_ble_eq_true rfl⟩) hP hD hS hA [4, 5] [0, 1, 2, 3] rfl rfl (by decide) (by decide) (fun u49 H locs hp hP hD hS => ?_)
  refine W.cs (cells' := 0) (slots' := 0) rfl rfl ?_
  obtain ⟨f50, rfl⟩ : ∃ z9, z9 = u49 := ⟨_, rfl⟩
  have hP : va_P g.1 vwCl [(h0_wayX, .inl (g.2.1.1, 10, .inl f8)), (h0_wayY, .inl (g.2.1.1, 10, .inl f16)), (h0_normal, .inl (g.2.1.1, 10, .inl f25)), (h0_flats, .inl (g.2.1.1, 72, .inl f_h0_flats)), (h0, .inr (9, [.ref h0_told, .ref h0_read, .ref h0_now, .ref h0_readNow, .ref h0_kept, .int h0_undone, .int h0_seed, .int h0_hasPart, .ref h0_tape, .int h0_taped, .ref h0_refused, .int h0_faultKind, .int h0_faultPlace, .int h0_size, .int h0_at, .int h0_from, .int h0_wrong, .int h0_wrongAt, .ref h0_ownLetters, .ref h0_flats, .int h0_isLaid, .ref h0_corner, .ref h0_wayX, .ref h0_wayY, .ref h0_normal, .ref h0_low, .ref h0_high, .ref h0_clear, .ref h0_ways, .ref h0_canBe, .ref h0_lain, .int h0_canTool, .ref h0_fewestBy, .ref h0_sortOf, .int h0_rows, .ref h0_seenFlange, .ref h0_seenLength])), (h0_corner, .inl (g.2.1.1, 30, .inl f50))] H := hP
  have hD : va_D A [(h0_wayX, .inl (g.2.1.1, 10, .inl f8)), (h0_wayY, .inl (g.2.1.1, 10, .inl f16)), (h0_normal, .inl (g.2.1.1, 10, .inl f25)), (h0_flats, .inl (g.2.1.1, 72, .inl f_h0_flats)), (h0, .inr (9, [.ref h0_told, .ref h0_read, .ref h0_now, .ref h0_readNow, .ref h0_kept, .int h0_undone, .int h0_seed, .int h0_hasPart, .ref h0_tape, .int h0_taped, .ref h0_refused, .int h0_faultKind, .int h0_faultPlace, .int h0_size, .int h0_at, .int h0_from, .int h0_wrong, .int h0_wrongAt, .ref h0_ownLetters, .ref h0_flats, .int h0_isLaid, .ref h0_corner, .ref h0_wayX, .ref h0_wayY, .ref h0_normal, .ref h0_low, .ref h0_high, .ref h0_clear, .ref h0_ways, .ref h0_canBe, .ref h0_lain, .int h0_canTool, .ref h0_fewestBy, .ref h0_sortOf, .int h0_rows, .ref h0_seenFlange, .ref h0_seenLength])), (h0_corner, .inl (g.2.1.1, 30, .inl f50))] := hD
  refine lv_aload_n hx hb dX9_goesOnFlat_70 rfl (lv_at hl 0 rfl) ?_
  refine lv_iload_n hx hb dX9_goesOnFlat_71 rfl (lv_at hl 1 rfl) ?_
  refine lv_aload_n hx hb dX9_goesOnFlat_72 rfl (lv_at hl 0 rfl) ?_
  refine va_get (D := g.1) (ci := 9) (v := .ref h0_wayY) (C := RX9) (T := TX9) (N := 37) hx hb hG iX9 hown hX.1 hP 4 rfl rfl 23 (by decide) (hG _ wf_X9_81) (fun _ h9 => h9) rfl dX9_goesOnFlat_73 ?_
  refine lv_iload_n hx hb dX9_goesOnFlat_76 rfl (lv_at hl 2 rfl) ?_
  refine va_iald hx hb hX.1 hP 1 0 rfl rfl (zin (rfl : x2.toInt = _) (om_506 hy0 hy1 hy17)) dX9_goesOnFlat_77 ?_
  refine lv_topi (fun z51 e52 => ?_)
  have i53 : (-3) ≤ z51.toInt ∧ z51.toInt ≤ 3 := hf18.at e52
  have f54 : ¬ z51.toInt = 0 := by rw [e52]; exact (hc19.at (rfl : x2.toInt = _) (rfl : x1.toInt = _) (om_507 hy1 hy17)).2.1
  refine lv_aload_n hx hb dX9_goesOnFlat_78 rfl (lv_at hl 0 rfl) ?_
  refine va_get (D := g.1) (ci := 9) (v := .ref h0_flats) (C := RX9) (T := TX9) (N := 37) hx hb hG iX9 hown hX.1 hP 4 rfl rfl 19 (by decide) (hG _ wf_X9_69) (fun _ h9 => h9) rfl dX9_goesOnFlat_79 ?_
  refine lv_iconst (v := 4) hx hb dX9_goesOnFlat_82 (by decide) ?_
  refine lv_iload_n hx hb dX9_goesOnFlat_83 rfl (lv_at hl 1 rfl) ?_
  refine lv_imul hx hb dX9_goesOnFlat_84 ?_
  refine lv_topi (fun z55 e56 => ?_)
  have f57 : z55.toInt = (4 : Int) * x1.toInt := zm e56 (show (4 : Int32).toInt = (4 : Int) from by decide) (rfl : x1.toInt = _) (om_511 hy0)
  refine lv_iconst (v := 1) hx hb dX9_goesOnFlat_85 (by decide) ?_
  refine lv_iadd hx hb dX9_goesOnFlat_86 ?_
  refine lv_topi (fun z58 e59 => ?_)
  have f60 : z58.toInt = z55.toInt + (1 : Int) := za e59 (rfl : z55.toInt = _) (show (1 : Int32).toInt = (1 : Int) from by decide) (om_516 f57 hy0)
  refine va_iald hx hb hX.1 hP 3 0 rfl rfl (zin (rfl : z58.toInt = _) (om_517 f57 f60 hy0)) dX9_goesOnFlat_87 ?_
  refine lv_topi (fun z61 e62 => ?_)
  refine lv_aload_n hx hb dX9_goesOnFlat_88 rfl (lv_at hl 0 rfl) ?_
  refine va_get (D := g.1) (ci := 9) (v := .ref h0_flats) (C := RX9) (T := TX9) (N := 37) hx hb hG iX9 hown hX.1 hP 4 rfl rfl 19 (by decide) (hG _ wf_X9_69) (fun _ h9 => h9) rfl dX9_goesOnFlat_89 ?_
  refine lv_iconst (v := 4) hx hb dX9_goesOnFlat_92 (by decide) ?_
  refine lv_iload_n hx hb dX9_goesOnFlat_93 rfl (lv_at hl 2 rfl) ?_
  refine lv_imul hx hb dX9_goesOnFlat_94 ?_
  refine lv_topi (fun z63 e64 => ?_)
  have f65 : z63.toInt = (4 : Int) * x2.toInt := zm e64 (show (4 : Int32).toInt = (4 : Int) from by decide) (rfl : x2.toInt = _) (om_513 hy0 hy1 hy17)
  refine lv_iconst (v := 1) hx hb dX9_goesOnFlat_95 (by decide) ?_
  refine lv_iadd hx hb dX9_goesOnFlat_96 ?_
  refine lv_topi (fun z66 e67 => ?_)
  have f68 : z66.toInt = z63.toInt + (1 : Int) := za e67 (rfl : z63.toInt = _) (show (1 : Int32).toInt = (1 : Int) from by decide) (om_518 f65 hy0 hy1 hy17)
  refine va_iald hx hb hX.1 hP 3 0 rfl rfl (zin (rfl : z66.toInt = _) (om_519 f65 f68 hy0 hy1 hy17)) dX9_goesOnFlat_97 ?_
  refine lv_topi (fun z69 e70 => ?_)
  refine lv_isub hx hb dX9_goesOnFlat_98 ?_
  refine lv_topi (fun z71 e72 => ?_)
  refine zfv (wr := [(h0_wayX, .inl (g.2.1.1, 10, .inl f8)), (h0_wayY, .inl (g.2.1.1, 10, .inl f16)), (h0_normal, .inl (g.2.1.1, 10, .inl f25)), (h0_flats, .inl (g.2.1.1, 72, .inl f_h0_flats))]) (va_runV (As := [.int x1, .int z51, .int z71]) (rest := []) ⟨hx, hb, hml, hown, hG⟩ (kX9_moves l g h0 x1 z51 z71 h0_told h0_read h0_now h0_readNow h0_kept h0_undone h0_seed h0_hasPart h0_tape h0_taped h0_refused h0_faultKind h0_faultPlace h0_size h0_at h0_from h0_wrong h0_wrongAt h0_ownLetters h0_flats h0_isLaid h0_corner h0_wayX h0_wayY h0_normal h0_low h0_high h0_clear h0_ways h0_canBe h0_lain h0_canTool h0_fewestBy h0_sortOf h0_rows h0_seenFlange h0_seenLength f50 (om_504 hy0) (om_509 i53) (om_27 hy2) (om_28 hy3) (om_29 hy4) (om_32 hy5) (om_31 hy6) (om_32 hy7) (om_32 hy8) (om_32 hy9) (om_31 hy10) (om_29 hy11) (om_13 hy12) (om_33 hy13) (om_515 f54) _) ⟨callB_of 3 hG (zGood wc_X9_moves) rfl rfl rfl (hG _ wini_X9) (hG _ wm_X9_264) hX9_moves ⟨Nat.le_of_ble_eq_true rfl, Nat.le_of_ble_eq_true rfl⟩, hG _ wi_X9_moves, hG _ wse_X9_X9_moves⟩ (zpreV (va_recv hX.1 hP (ci := 9) (q0 := 4) rfl rfl) hX hP hD hS hA [4, 5] rfl (by decide)) rfl rfl hl.1 rfl (lv_room (Nat.le_of_ble_eq_true rfl)) dX9_goesOnFlat_99 ⟨Nat.le_of_ble_eq_true rfl, Nat.le_of_ble_eq_true rfl⟩) hP hD hS hA [4, 5] [0, 1, 2, 3] rfl rfl (by decide) (by decide) (fun u74 H locs hp hP hD hS => ?_)
  refine W.cs (cells' := 0) (slots' := 0) rfl rfl ?_
  obtain ⟨f75, rfl⟩ : ∃ z9, z9 = u74 := ⟨_, rfl⟩
  have hP : va_P g.1 vwCl [(h0_wayX, .inl (g.2.1.1, 10, .inl f8)), (h0_wayY, .inl (g.2.1.1, 10, .inl f16)), (h0_normal, .inl (g.2.1.1, 10, .inl f25)), (h0_flats, .inl (g.2.1.1, 72, .inl f_h0_flats)), (h0, .inr (9, [.ref h0_told, .ref h0_read, .ref h0_now, .ref h0_readNow, .ref h0_kept, .int h0_undone, .int h0_seed, .int h0_hasPart, .ref h0_tape, .int h0_taped, .ref h0_refused, .int h0_faultKind, .int h0_faultPlace, .int h0_size, .int h0_at, .int h0_from, .int h0_wrong, .int h0_wrongAt, .ref h0_ownLetters, .ref h0_flats, .int h0_isLaid, .ref h0_corner, .ref h0_wayX, .ref h0_wayY, .ref h0_normal, .ref h0_low, .ref h0_high, .ref h0_clear, .ref h0_ways, .ref h0_canBe, .ref h0_lain, .int h0_canTool, .ref h0_fewestBy, .ref h0_sortOf, .int h0_rows, .ref h0_seenFlange, .ref h0_seenLength])), (h0_corner, .inl (g.2.1.1, 30, .inl f75))] H := hP
  have hD : va_D A [(h0_wayX, .inl (g.2.1.1, 10, .inl f8)), (h0_wayY, .inl (g.2.1.1, 10, .inl f16)), (h0_normal, .inl (g.2.1.1, 10, .inl f25)), (h0_flats, .inl (g.2.1.1, 72, .inl f_h0_flats)), (h0, .inr (9, [.ref h0_told, .ref h0_read, .ref h0_now, .ref h0_readNow, .ref h0_kept, .int h0_undone, .int h0_seed, .int h0_hasPart, .ref h0_tape, .int h0_taped, .ref h0_refused, .int h0_faultKind, .int h0_faultPlace, .int h0_size, .int h0_at, .int h0_from, .int h0_wrong, .int h0_wrongAt, .ref h0_ownLetters, .ref h0_flats, .int h0_isLaid, .ref h0_corner, .ref h0_wayX, .ref h0_wayY, .ref h0_normal, .ref h0_low, .ref h0_high, .ref h0_clear, .ref h0_ways, .ref h0_canBe, .ref h0_lain, .int h0_canTool, .ref h0_fewestBy, .ref h0_sortOf, .int h0_rows, .ref h0_seenFlange, .ref h0_seenLength])), (h0_corner, .inl (g.2.1.1, 30, .inl f75))] := hD
  exact hret (f8, f16, f25, f75) (Nat.le_of_ble_eq_true rfl) (Nat.le_of_ble_eq_true rfl) ⟨hf10, hf18, hf27, (pNs.of hc31 e9 e17 e26 (rfl : x1.toInt = _) (rfl : z4.toInt = _) (rfl : z12.toInt = _) (rfl : z21.toInt = _) (om_520 f15 f24 f7 hy0))⟩ (hP.sub [4, 0, 1, 2, 5, 3] rfl) (hD.sub [4, 0, 1, 2, 5, 3] (by decide) rfl) hS dX9_goesOnFlat_102
theorem dX9_goesToSide_0 : decode cX9_goesToSide 0 = .ok (.aload_n 0, 1) := by decide +kernel
theorem dX9_goesToSide_1 : decode cX9_goesToSide 1 = .ok (.getfield 7, 3) := by decide +kernel
theorem dX9_goesToSide_4 : decode cX9_goesToSide 4 = .ok (.bipush 22, 2) := by decide +kernel
theorem dX9_goesToSide_6 : decode cX9_goesToSide 6 = .ok (.iload_n 2, 1) := by decide +kernel
theorem dX9_goesToSide_7 : decode cX9_goesToSide 7 = .ok (.iadd, 1) := by decide +kernel
theorem dX9_goesToSide_8 : decode cX9_goesToSide 8 = .ok (.iaload, 1) := by decide +kernel
theorem dX9_goesToSide_9 : decode cX9_goesToSide 9 = .ok (.istore 4, 2) := by decide +kernel
theorem dX9_goesToSide_11 : decode cX9_goesToSide 11 = .ok (.aload_n 0, 1) := by decide +kernel
theorem dX9_goesToSide_12 : decode cX9_goesToSide 12 = .ok (.iload_n 1, 1) := by decide +kernel
theorem dX9_goesToSide_13 : decode cX9_goesToSide 13 = .ok (.iload_n 3, 1) := by decide +kernel
theorem dX9_goesToSide_14 : decode cX9_goesToSide 14 = .ok (.invokevirtual 261, 3) := by decide +kernel
theorem dX9_goesToSide_17 : decode cX9_goesToSide 17 = .ok (.aload_n 0, 1) := by decide +kernel
theorem dX9_goesToSide_18 : decode cX9_goesToSide 18 = .ok (.iload_n 1, 1) := by decide +kernel
theorem dX9_goesToSide_19 : decode cX9_goesToSide 19 = .ok (.iload 4, 2) := by decide +kernel
theorem dX9_goesToSide_21 : decode cX9_goesToSide 21 = .ok (.iconst 2, 1) := by decide +kernel
theorem dX9_goesToSide_22 : decode cX9_goesToSide 22 = .ok (.irem, 1) := by decide +kernel
theorem dX9_goesToSide_23 : decode cX9_goesToSide 23 = .ok (.ifCond .ne 12, 3) := by decide +kernel
theorem dX9_goesToSide_35 : decode cX9_goesToSide 35 = .ok (.aload_n 0, 1) := by decide +kernel
theorem dX9_goesToSide_36 : decode cX9_goesToSide 36 = .ok (.getfield 81, 3) := by decide +kernel
theorem dX9_goesToSide_39 : decode cX9_goesToSide 39 = .ok (.iload_n 3, 1) := by decide +kernel
theorem dX9_goesToSide_40 : decode cX9_goesToSide 40 = .ok (.iaload, 1) := by decide +kernel
theorem dX9_goesToSide_41 : decode cX9_goesToSide 41 = .ok (.aload_n 0, 1) := by decide +kernel
theorem dX9_goesToSide_42 : decode cX9_goesToSide 42 = .ok (.getfield 7, 3) := by decide +kernel
theorem dX9_goesToSide_45 : decode cX9_goesToSide 45 = .ok (.bipush 31, 2) := by decide +kernel
theorem dX9_goesToSide_47 : decode cX9_goesToSide 47 = .ok (.iload_n 2, 1) := by decide +kernel
theorem dX9_goesToSide_48 : decode cX9_goesToSide 48 = .ok (.iadd, 1) := by decide +kernel
theorem dX9_goesToSide_49 : decode cX9_goesToSide 49 = .ok (.iaload, 1) := by decide +kernel
theorem dX9_goesToSide_50 : decode cX9_goesToSide 50 = .ok (.invokevirtual 264, 3) := by decide +kernel
theorem dX9_goesToSide_53 : decode cX9_goesToSide 53 = .ok (.iload 4, 2) := by decide +kernel
theorem dX9_goesToSide_74 : decode cX9_goesToSide 74 = .ok (.iload 4, 2) := by decide +kernel
theorem dX9_goesToSide_76 : decode cX9_goesToSide 76 = .ok (.iconst 1, 1) := by decide +kernel
theorem dX9_goesToSide_77 : decode cX9_goesToSide 77 = .ok (.if_icmp .ne 19, 3) := by decide +kernel
theorem dX9_goesToSide_96 : decode cX9_goesToSide 96 = .ok (.return_, 1) := by decide +kernel
theorem dX9_goesToSide_80 : decode cX9_goesToSide 80 = .ok (.aload_n 0, 1) := by decide +kernel
theorem dX9_goesToSide_81 : decode cX9_goesToSide 81 = .ok (.iload_n 1, 1) := by decide +kernel
theorem dX9_goesToSide_82 : decode cX9_goesToSide 82 = .ok (.aload_n 0, 1) := by decide +kernel
theorem dX9_goesToSide_83 : decode cX9_goesToSide 83 = .ok (.getfield 78, 3) := by decide +kernel
theorem dX9_goesToSide_86 : decode cX9_goesToSide 86 = .ok (.iload_n 3, 1) := by decide +kernel
theorem dX9_goesToSide_87 : decode cX9_goesToSide 87 = .ok (.iaload, 1) := by decide +kernel
theorem dX9_goesToSide_88 : decode cX9_goesToSide 88 = .ok (.aload_n 0, 1) := by decide +kernel
theorem dX9_goesToSide_89 : decode cX9_goesToSide 89 = .ok (.iload_n 3, 1) := by decide +kernel
theorem dX9_goesToSide_90 : decode cX9_goesToSide 90 = .ok (.invokevirtual 270, 3) := by decide +kernel
theorem dX9_goesToSide_93 : decode cX9_goesToSide 93 = .ok (.invokevirtual 264, 3) := by decide +kernel
theorem dX9_goesToSide_55 : decode cX9_goesToSide 55 = .ok (.ifCond .ne 19, 3) := by decide +kernel
theorem dX9_goesToSide_58 : decode cX9_goesToSide 58 = .ok (.aload_n 0, 1) := by decide +kernel
theorem dX9_goesToSide_59 : decode cX9_goesToSide 59 = .ok (.iload_n 1, 1) := by decide +kernel
theorem dX9_goesToSide_60 : decode cX9_goesToSide 60 = .ok (.aload_n 0, 1) := by decide +kernel
theorem dX9_goesToSide_61 : decode cX9_goesToSide 61 = .ok (.getfield 81, 3) := by decide +kernel
theorem dX9_goesToSide_64 : decode cX9_goesToSide 64 = .ok (.iload_n 3, 1) := by decide +kernel
theorem dX9_goesToSide_65 : decode cX9_goesToSide 65 = .ok (.iaload, 1) := by decide +kernel
theorem dX9_goesToSide_66 : decode cX9_goesToSide 66 = .ok (.aload_n 0, 1) := by decide +kernel
theorem dX9_goesToSide_67 : decode cX9_goesToSide 67 = .ok (.iload_n 3, 1) := by decide +kernel
theorem dX9_goesToSide_68 : decode cX9_goesToSide 68 = .ok (.invokevirtual 267, 3) := by decide +kernel
theorem dX9_goesToSide_71 : decode cX9_goesToSide 71 = .ok (.invokevirtual 264, 3) := by decide +kernel
theorem dX9_goesToSide_26 : decode cX9_goesToSide 26 = .ok (.aload_n 0, 1) := by decide +kernel
theorem dX9_goesToSide_27 : decode cX9_goesToSide 27 = .ok (.getfield 78, 3) := by decide +kernel
theorem dX9_goesToSide_30 : decode cX9_goesToSide 30 = .ok (.iload_n 3, 1) := by decide +kernel
theorem dX9_goesToSide_31 : decode cX9_goesToSide 31 = .ok (.iaload, 1) := by decide +kernel
theorem dX9_goesToSide_32 : decode cX9_goesToSide 32 = .ok (.goto 9, 3) := by decide +kernel
abbrev rm_kX9_goesToSide : Room := { frames := 2, cells := 0, slots := 0, locals := 44 }
set_option maxHeartbeats 4000000 in
set_option maxRecDepth 100000 in
theorem kX9_goesToSide (l : Launch) (g : zL) (h0 : Nat) (x1 : Int32) (x2 : Int32) (x3 : Int32) (h0_told : Nat) (h0_read : Nat) (h0_now : Nat) (h0_readNow : Nat) (h0_kept : Nat) (h0_undone : Int32) (h0_seed : Int32) (h0_hasPart : Int32) (h0_tape : Nat) (h0_taped : Int32) (h0_refused : Nat) (h0_faultKind : Int32) (h0_faultPlace : Int32) (h0_size : Int32) (h0_at : Int32) (h0_from : Int32) (h0_wrong : Int32) (h0_wrongAt : Int32) (h0_ownLetters : Nat) (h0_flats : Nat) (h0_isLaid : Int32) (h0_corner : Nat) (h0_wayX : Nat) (h0_wayY : Nat) (h0_normal : Nat) (h0_low : Nat) (h0_high : Nat) (h0_clear : Nat) (h0_ways : Nat) (h0_canBe : Nat) (h0_lain : Nat) (h0_canTool : Int32) (h0_fewestBy : Nat) (h0_sortOf : Nat) (h0_rows : Int32) (h0_seenFlange : Nat) (h0_seenLength : Nat) (f_h0_wayX : Nat → Int32) (f_h0_wayY : Nat → Int32) (f_h0_told : Nat → Int32) (h0_told_3 : Int32) (h0_told_4 : Int32) (f_h0_corner : Nat → Int32) (hy0 : 0 ≤ x1.toInt ∧ x1.toInt ≤ 9) (hy1 : 1 ≤ x2.toInt ∧ x2.toInt ≤ 8) (hy2 : 0 ≤ x3.toInt ∧ x3.toInt ≤ 8) (hy3 : 0 ≤ h0_undone.toInt ∧ h0_undone.toInt ≤ 20) (hy4 : 0 ≤ h0_seed.toInt ∧ h0_seed.toInt ≤ 2147483647) (hy5 : 0 ≤ h0_hasPart.toInt ∧ h0_hasPart.toInt ≤ 1) (hy6 : 0 ≤ h0_taped.toInt ∧ h0_taped.toInt ≤ 1200) (hy7 : 0 ≤ h0_faultKind.toInt ∧ h0_faultKind.toInt ≤ 5) (hy8 : 0 ≤ h0_size.toInt ∧ h0_size.toInt ≤ 1200) (hy9 : 0 ≤ h0_at.toInt ∧ h0_at.toInt ≤ 1200) (hy10 : 0 ≤ h0_from.toInt ∧ h0_from.toInt ≤ 1200) (hy11 : 0 ≤ h0_wrong.toInt ∧ h0_wrong.toInt ≤ 5) (hy12 : 0 ≤ h0_isLaid.toInt ∧ h0_isLaid.toInt ≤ 1) (hy13 : 0 ≤ h0_canTool.toInt ∧ h0_canTool.toInt ≤ 255) (hy14 : 0 ≤ h0_rows.toInt ∧ h0_rows.toInt ≤ 8) (hy15 : aI (-3) 3 f_h0_wayX) (hy16 : aI (-3) 3 f_h0_wayY) (hy17 : pW mB f_h0_told) (hy18 : 0 ≤ h0_told_3.toInt ∧ h0_told_3.toInt ≤ 9) (hy19 : cEq f_h0_told 3 h0_told_3) (hy20 : 0 ≤ h0_told_4.toInt ∧ h0_told_4.toInt ≤ 8) (hy21 : cEq f_h0_told 4 h0_told_4) (hy22 : pAx f_h0_wayX x3) (hy23 : pAx f_h0_wayY x3) (hy24 : ((h0_hasPart.toInt = 0 ∧ h0_told_3.toInt = 0) ∨ (h0_hasPart.toInt = 1 ∧ 1 ≤ h0_told_3.toInt))) : zCv l g yX9_goesToSide cX9_goesToSide 5 none rm_kX9_goesToSide [.ref h0, .int x1, .int x2, .int x3] [(h0, .inr (9, [.ref h0_told, .ref h0_read, .ref h0_now, .ref h0_readNow, .ref h0_kept, .int h0_undone, .int h0_seed, .int h0_hasPart, .ref h0_tape, .int h0_taped, .ref h0_refused, .int h0_faultKind, .int h0_faultPlace, .int h0_size, .int h0_at, .int h0_from, .int h0_wrong, .int h0_wrongAt, .ref h0_ownLetters, .ref h0_flats, .int h0_isLaid, .ref h0_corner, .ref h0_wayX, .ref h0_wayY, .ref h0_normal, .ref h0_low, .ref h0_high, .ref h0_clear, .ref h0_ways, .ref h0_canBe, .ref h0_lain, .int h0_canTool, .ref h0_fewestBy, .ref h0_sortOf, .int h0_rows, .ref h0_seenFlange, .ref h0_seenLength])), (h0_wayX, .inl (g.2.1.1, 10, .inl f_h0_wayX)), (h0_wayY, .inl (g.2.1.1, 10, .inl f_h0_wayY)), (h0_told, .inl (g.2.1.1, 103, .inl f_h0_told)), (h0_corner, .inl (g.2.1.1, 30, .inl f_h0_corner))] (fun (u : (Nat → Int32)) => True) (fun (u : (Nat → Int32)) => [(h0, .inr (9, [.ref h0_told, .ref h0_read, .ref h0_now, .ref h0_readNow, .ref h0_kept, .int h0_undone, .int h0_seed, .int h0_hasPart, .ref h0_tape, .int h0_taped, .ref h0_refused, .int h0_faultKind, .int h0_faultPlace, .int h0_size, .int h0_at, .int h0_from, .int h0_wrong, .int h0_wrongAt, .ref h0_ownLetters, .ref h0_flats, .int h0_isLaid, .ref h0_corner, .ref h0_wayX, .ref h0_wayY, .ref h0_normal, .ref h0_low, .ref h0_high, .ref h0_clear, .ref h0_ways, .ref h0_canBe, .ref h0_lain, .int h0_canTool, .ref h0_fewestBy, .ref h0_sortOf, .int h0_rows, .ref h0_seenFlange, .ref h0_seenLength])), (h0_wayX, .inl (g.2.1.1, 10, .inl f_h0_wayX)), (h0_wayY, .inl (g.2.1.1, 10, .inl f_h0_wayY)), (h0_told, .inl (g.2.1.1, 103, .inl f_h0_told)), (h0_corner, .inl (g.2.1.1, 30, .inl u))]) := by
  refine zCv.mk2 (by decide) (Nat.le_of_ble_eq_true rfl) ?_
  intro p e s m below meth c A args Q hE hret hP hD hS ls hl
  obtain ⟨hx, hb, hr, hml, hown, hG, hlocks, hnm, hX, hA⟩ := hE
  have hown : s.vm.findClass RX9 = some m.cls := hown
  have hl : lv_has ls 5 [(0, .ref h0), (1, .int x1), (2, .int x2), (3, .int x3)] := hl
  refine lv_aload_n hx hb dX9_goesToSide_0 rfl (lv_at hl 0 rfl) ?_
  refine va_get (D := g.1) (ci := 9) (v := .ref h0_told) (C := RX9) (T := TX9) (N := 37) hx hb hG iX9 hown hX.1 hP 0 rfl rfl 0 (by decide) (hG _ wf_X9_7) (fun _ h9 => h9) rfl dX9_goesToSide_1 ?_
  refine lv_bipush (v := 22) hx hb dX9_goesToSide_4 (by decide) ?_
  refine lv_iload_n hx hb dX9_goesToSide_6 rfl (lv_at hl 2 rfl) ?_
  refine lv_iadd hx hb dX9_goesToSide_7 ?_
  refine lv_topi (fun z1 e2 => ?_)
  have f3 : z1.toInt = (22 : Int) + x2.toInt := za e2 (show (22 : Int32).toInt = (22 : Int) from by decide) (rfl : x2.toInt = _) (om_405 hy1)
  refine va_iald hx hb hX.1 hP 3 0 rfl rfl (zin (rfl : z1.toInt = _) (om_406 f3 hy1)) dX9_goesToSide_8 ?_
  refine lv_topi (fun z4 e5 => ?_)
  have f6 : 0 ≤ z4.toInt ∧ z4.toInt ≤ 3 := ((hy17.at e5 (rfl : z1.toInt = _) (om_171 f3 hy1)).2.2.2.1).resolve_left (fun q9 => q9 (om_407 f3 hy1))
  refine lv_istore (lv' := [(4, .int z4), (0, .ref h0), (1, .int x1), (2, .int x2), (3, .int x3)]) hx hb dX9_goesToSide_9 hl (by decide) rfl (fun ls hl => ?_)
  refine lv_aload_n hx hb dX9_goesToSide_11 rfl (lv_at hl 1 rfl) ?_
  refine lv_iload_n hx hb dX9_goesToSide_12 rfl (lv_at hl 2 rfl) ?_
  refine lv_iload_n hx hb dX9_goesToSide_13 rfl (lv_at hl 4 rfl) ?_
  refine zfv (wr := [(h0_wayX, .inl (g.2.1.1, 10, .inl f_h0_wayX)), (h0_wayY, .inl (g.2.1.1, 10, .inl f_h0_wayY)), (h0_told, .inl (g.2.1.1, 103, .inl f_h0_told))]) (va_runV (As := [.int x1, .int x3]) (rest := []) ⟨hx, hb, hml, hown, hG⟩ (kX9_copiesCorner l g h0 x1 x3 h0_told h0_read h0_now h0_readNow h0_kept h0_undone h0_seed h0_hasPart h0_tape h0_taped h0_refused h0_faultKind h0_faultPlace h0_size h0_at h0_from h0_wrong h0_wrongAt h0_ownLetters h0_flats h0_isLaid h0_corner h0_wayX h0_wayY h0_normal h0_low h0_high h0_clear h0_ways h0_canBe h0_lain h0_canTool h0_fewestBy h0_sortOf h0_rows h0_seenFlange h0_seenLength f_h0_corner (om_155 hy0) (om_33 hy2) (om_27 hy3) (om_28 hy4) (om_29 hy5) (om_32 hy6) (om_31 hy7) (om_32 hy8) (om_32 hy9) (om_32 hy10) (om_31 hy11) (om_29 hy12) (om_13 hy13) (om_33 hy14) _) ⟨callB_of 2 hG (zGood wc_X9_copiesCorner) rfl rfl rfl (hG _ wini_X9) (hG _ wm_X9_261) hX9_copiesCorner ⟨Nat.le_of_ble_eq_true rfl, Nat.le_of_ble_eq_true rfl⟩, hG _ wi_X9_copiesCorner, hG _ wse_X9_X9_copiesCorner⟩ (zpreV (va_recv hX.1 hP (ci := 9) (q0 := 0) rfl rfl) hX hP hD hS hA [0, 4] rfl (by decide)) rfl rfl hl.1 rfl (lv_room (Nat.le_of_ble_eq_true rfl)) dX9_goesToSide_14 ⟨Nat.le_of_ble_eq_true rfl, Nat.le_of_ble_eq_true rfl⟩) hP hD hS hA [0, 4] [1, 2, 3] rfl rfl (by decide) (by decide) (fun u8 H locs hp hP hD hS => ?_)
  refine W.cs (cells' := 0) (slots' := 0) rfl rfl ?_
  obtain ⟨f9, rfl⟩ : ∃ z9, z9 = u8 := ⟨_, rfl⟩
  have hP : va_P g.1 vwCl [(h0_wayX, .inl (g.2.1.1, 10, .inl f_h0_wayX)), (h0_wayY, .inl (g.2.1.1, 10, .inl f_h0_wayY)), (h0_told, .inl (g.2.1.1, 103, .inl f_h0_told)), (h0, .inr (9, [.ref h0_told, .ref h0_read, .ref h0_now, .ref h0_readNow, .ref h0_kept, .int h0_undone, .int h0_seed, .int h0_hasPart, .ref h0_tape, .int h0_taped, .ref h0_refused, .int h0_faultKind, .int h0_faultPlace, .int h0_size, .int h0_at, .int h0_from, .int h0_wrong, .int h0_wrongAt, .ref h0_ownLetters, .ref h0_flats, .int h0_isLaid, .ref h0_corner, .ref h0_wayX, .ref h0_wayY, .ref h0_normal, .ref h0_low, .ref h0_high, .ref h0_clear, .ref h0_ways, .ref h0_canBe, .ref h0_lain, .int h0_canTool, .ref h0_fewestBy, .ref h0_sortOf, .int h0_rows, .ref h0_seenFlange, .ref h0_seenLength])), (h0_corner, .inl (g.2.1.1, 30, .inl f9))] H := hP
  have hD : va_D A [(h0_wayX, .inl (g.2.1.1, 10, .inl f_h0_wayX)), (h0_wayY, .inl (g.2.1.1, 10, .inl f_h0_wayY)), (h0_told, .inl (g.2.1.1, 103, .inl f_h0_told)), (h0, .inr (9, [.ref h0_told, .ref h0_read, .ref h0_now, .ref h0_readNow, .ref h0_kept, .int h0_undone, .int h0_seed, .int h0_hasPart, .ref h0_tape, .int h0_taped, .ref h0_refused, .int h0_faultKind, .int h0_faultPlace, .int h0_size, .int h0_at, .int h0_from, .int h0_wrong, .int h0_wrongAt, .ref h0_ownLetters, .ref h0_flats, .int h0_isLaid, .ref h0_corner, .ref h0_wayX, .ref h0_wayY, .ref h0_normal, .ref h0_low, .ref h0_high, .ref h0_clear, .ref h0_ways, .ref h0_canBe, .ref h0_lain, .int h0_canTool, .ref h0_fewestBy, .ref h0_sortOf, .int h0_rows, .ref h0_seenFlange, .ref h0_seenLength])), (h0_corner, .inl (g.2.1.1, 30, .inl f9))] := hD
  refine lv_aload_n hx hb dX9_goesToSide_17 rfl (lv_at hl 1 rfl) ?_
  refine lv_iload_n hx hb dX9_goesToSide_18 rfl (lv_at hl 2 rfl) ?_
  refine lv_iload hx hb dX9_goesToSide_19 (lv_at hl 0 rfl) ?_
  refine lv_iconst (v := 2) hx hb dX9_goesToSide_21 (by decide) ?_
  refine lv_irem hx hb dX9_goesToSide_22 (zne0 (show (2 : Int32).toInt = (2 : Int) from by decide) ((show ¬ (2 : Int) = 0 from by decide))) ?_
  refine lv_topi (fun z10 e11 => ?_)
  have f12 : z10.toInt = z4.toInt % (2 : Int) := zrm e11 (rfl : z4.toInt = _) (show (2 : Int32).toInt = (2 : Int) from by decide) (om_145 f6)
  refine lv_if_ne (tgt := 35) hx hb dX9_goesToSide_23 (by decide) (fun c13 => ?_) (fun c13 => ?_)
  · skip
    have c13i : ¬ (z10.toInt = (0 : Int)) := fun q => c13 ((zc_eq (rfl : z10.toInt = _) (show (0 : Int32).toInt = (0 : Int) from by decide)).mpr q)
    refine lv_aload_n hx hb dX9_goesToSide_35 rfl (lv_at hl 1 rfl) ?_
    refine va_get (D := g.1) (ci := 9) (v := .ref h0_wayY) (C := RX9) (T := TX9) (N := 37) hx hb hG iX9 hown hX.1 hP 3 rfl rfl 23 (by decide) (hG _ wf_X9_81) (fun _ h9 => h9) rfl dX9_goesToSide_36 ?_
    refine lv_iload_n hx hb dX9_goesToSide_39 rfl (lv_at hl 4 rfl) ?_
    refine va_iald hx hb hX.1 hP 1 0 rfl rfl (zin (rfl : x3.toInt = _) (om_521 hy2)) dX9_goesToSide_40 ?_
    refine lv_topi (fun z14 e15 => ?_)
    have i16 : (-3) ≤ z14.toInt ∧ z14.toInt ≤ 3 := hy16.at e15
    have f17 : ¬ z14.toInt = 0 := by rw [e15]; exact hy23
    refine lv_aload_n hx hb dX9_goesToSide_41 rfl (lv_at hl 1 rfl) ?_
    refine va_get (D := g.1) (ci := 9) (v := .ref h0_told) (C := RX9) (T := TX9) (N := 37) hx hb hG iX9 hown hX.1 hP 3 rfl rfl 0 (by decide) (hG _ wf_X9_7) (fun _ h9 => h9) rfl dX9_goesToSide_42 ?_
    refine lv_bipush (v := 31) hx hb dX9_goesToSide_45 (by decide) ?_
    refine lv_iload_n hx hb dX9_goesToSide_47 rfl (lv_at hl 3 rfl) ?_
    refine lv_iadd hx hb dX9_goesToSide_48 ?_
    refine lv_topi (fun z18 e19 => ?_)
    have f20 : z18.toInt = (31 : Int) + x2.toInt := za e19 (show (31 : Int32).toInt = (31 : Int) from by decide) (rfl : x2.toInt = _) (om_152 hy1)
    refine va_iald hx hb hX.1 hP 2 0 rfl rfl (zin (rfl : z18.toInt = _) (om_153 f20 hy1)) dX9_goesToSide_49 ?_
    refine lv_topi (fun z21 e22 => ?_)
    refine zfv (wr := [(h0_wayX, .inl (g.2.1.1, 10, .inl f_h0_wayX)), (h0_wayY, .inl (g.2.1.1, 10, .inl f_h0_wayY)), (h0_told, .inl (g.2.1.1, 103, .inl f_h0_told))]) (va_runV (As := [.int x1, .int z14, .int z21]) (rest := []) ⟨hx, hb, hml, hown, hG⟩ (kX9_moves l g h0 x1 z14 z21 h0_told h0_read h0_now h0_readNow h0_kept h0_undone h0_seed h0_hasPart h0_tape h0_taped h0_refused h0_faultKind h0_faultPlace h0_size h0_at h0_from h0_wrong h0_wrongAt h0_ownLetters h0_flats h0_isLaid h0_corner h0_wayX h0_wayY h0_normal h0_low h0_high h0_clear h0_ways h0_canBe h0_lain h0_canTool h0_fewestBy h0_sortOf h0_rows h0_seenFlange h0_seenLength f9 (om_155 hy0) (om_509 i16) (om_27 hy3) (om_28 hy4) (om_29 hy5) (om_32 hy6) (om_31 hy7) (om_32 hy8) (om_32 hy9) (om_32 hy10) (om_31 hy11) (om_29 hy12) (om_13 hy13) (om_33 hy14) (om_515 f17) _) ⟨callB_of 3 hG (zGood wc_X9_moves) rfl rfl rfl (hG _ wini_X9) (hG _ wm_X9_264) hX9_moves ⟨Nat.le_of_ble_eq_true rfl, Nat.le_of_ble_eq_true rfl⟩, hG _ wi_X9_moves, hG _ wse_X9_X9_moves⟩ (zpreV (va_recv hX.1 hP (ci := 9) (q0 := 3) rfl rfl) hX hP hD hS hA [3, 4] rfl (by decide)) rfl rfl hl.1 rfl (lv_room (Nat.le_of_ble_eq_true rfl)) dX9_goesToSide_50 ⟨Nat.le_of_ble_eq_true rfl, Nat.le_of_ble_eq_true rfl⟩) hP hD hS hA [3, 4] [0, 1, 2] rfl rfl (by decide) (by decide) (fun u24 H locs hp hP hD hS => ?_)
    refine W.cs (cells' := 0) (slots' := 0) rfl rfl ?_
    obtain ⟨f25, rfl⟩ : ∃ z9, z9 = u24 := ⟨_, rfl⟩
    have hP : va_P g.1 vwCl [(h0_wayX, .inl (g.2.1.1, 10, .inl f_h0_wayX)), (h0_wayY, .inl (g.2.1.1, 10, .inl f_h0_wayY)), (h0_told, .inl (g.2.1.1, 103, .inl f_h0_told)), (h0, .inr (9, [.ref h0_told, .ref h0_read, .ref h0_now, .ref h0_readNow, .ref h0_kept, .int h0_undone, .int h0_seed, .int h0_hasPart, .ref h0_tape, .int h0_taped, .ref h0_refused, .int h0_faultKind, .int h0_faultPlace, .int h0_size, .int h0_at, .int h0_from, .int h0_wrong, .int h0_wrongAt, .ref h0_ownLetters, .ref h0_flats, .int h0_isLaid, .ref h0_corner, .ref h0_wayX, .ref h0_wayY, .ref h0_normal, .ref h0_low, .ref h0_high, .ref h0_clear, .ref h0_ways, .ref h0_canBe, .ref h0_lain, .int h0_canTool, .ref h0_fewestBy, .ref h0_sortOf, .int h0_rows, .ref h0_seenFlange, .ref h0_seenLength])), (h0_corner, .inl (g.2.1.1, 30, .inl f25))] H := hP
    have hD : va_D A [(h0_wayX, .inl (g.2.1.1, 10, .inl f_h0_wayX)), (h0_wayY, .inl (g.2.1.1, 10, .inl f_h0_wayY)), (h0_told, .inl (g.2.1.1, 103, .inl f_h0_told)), (h0, .inr (9, [.ref h0_told, .ref h0_read, .ref h0_now, .ref h0_readNow, .ref h0_kept, .int h0_undone, .int h0_seed, .int h0_hasPart, .ref h0_tape, .int h0_taped, .ref h0_refused, .int h0_faultKind, .int h0_faultPlace, .int h0_size, .int h0_at, .int h0_from, .int h0_wrong, .int h0_wrongAt, .ref h0_ownLetters, .ref h0_flats, .int h0_isLaid, .ref h0_corner, .ref h0_wayX, .ref h0_wayY, .ref h0_normal, .ref h0_low, .ref h0_high, .ref h0_clear, .ref h0_ways, .ref h0_canBe, .ref h0_lain, .int h0_canTool, .ref h0_fewestBy, .ref h0_sortOf, .int h0_rows, .ref h0_seenFlange, .ref h0_seenLength])), (h0_corner, .inl (g.2.1.1, 30, .inl f25))] := hD
    refine lv_iload hx hb dX9_goesToSide_53 (lv_at hl 0 rfl) ?_
    have J37 : ∀  (fn36 : Nat → Int32) (H : Heap) (locs : List Loc) (ls : Array Slot), va_P g.1 vwCl [(h0_wayX, .inl (g.2.1.1, 10, .inl f_h0_wayX)), (h0_wayY, .inl (g.2.1.1, 10, .inl f_h0_wayY)), (h0_told, .inl (g.2.1.1, 103, .inl f_h0_told)), (h0, .inr (9, [.ref h0_told, .ref h0_read, .ref h0_now, .ref h0_readNow, .ref h0_kept, .int h0_undone, .int h0_seed, .int h0_hasPart, .ref h0_tape, .int h0_taped, .ref h0_refused, .int h0_faultKind, .int h0_faultPlace, .int h0_size, .int h0_at, .int h0_from, .int h0_wrong, .int h0_wrongAt, .ref h0_ownLetters, .ref h0_flats, .int h0_isLaid, .ref h0_corner, .ref h0_wayX, .ref h0_wayY, .ref h0_normal, .ref h0_low, .ref h0_high, .ref h0_clear, .ref h0_ways, .ref h0_canBe, .ref h0_lain, .int h0_canTool, .ref h0_fewestBy, .ref h0_sortOf, .int h0_rows, .ref h0_seenFlange, .ref h0_seenLength])), (h0_corner, .inl (g.2.1.1, 30, .inl fn36))] H → va_D A [(h0_wayX, .inl (g.2.1.1, 10, .inl f_h0_wayX)), (h0_wayY, .inl (g.2.1.1, 10, .inl f_h0_wayY)), (h0_told, .inl (g.2.1.1, 103, .inl f_h0_told)), (h0, .inr (9, [.ref h0_told, .ref h0_read, .ref h0_now, .ref h0_readNow, .ref h0_kept, .int h0_undone, .int h0_seed, .int h0_hasPart, .ref h0_tape, .int h0_taped, .ref h0_refused, .int h0_faultKind, .int h0_faultPlace, .int h0_size, .int h0_at, .int h0_from, .int h0_wrong, .int h0_wrongAt, .ref h0_ownLetters, .ref h0_flats, .int h0_isLaid, .ref h0_corner, .ref h0_wayX, .ref h0_wayY, .ref h0_normal, .ref h0_low, .ref h0_high, .ref h0_clear, .ref h0_ways, .ref h0_canBe, .ref h0_lain, .int h0_canTool, .ref h0_fewestBy, .ref h0_sortOf, .int h0_rows, .ref h0_seenFlange, .ref h0_seenLength])), (h0_corner, .inl (g.2.1.1, 30, .inl fn36))] → va_S A s.heap H locs → lv_has ls 5 [(0, .ref h0), (1, .int x1), (2, .int x2), (3, .int x3), (4, .int z4)] → W p l e rm_kX9_goesToSide s m args below meth c H locs 0 0 Q (F0 m 74 ls []) := by
      intro fn36 H locs ls  hP hD hS hl
      refine lv_iload hx hb dX9_goesToSide_74 (lv_at hl 4 rfl) ?_
      refine lv_iconst (v := 1) hx hb dX9_goesToSide_76 (by decide) ?_
      refine lv_icmp_ne (tgt := 96) hx hb dX9_goesToSide_77 (by decide) (fun c38 => ?_) (fun c38 => ?_)
      · skip
        have c38i : ¬ (z4.toInt = (1 : Int)) := fun q => c38 ((zc_eq (rfl : z4.toInt = _) (show (1 : Int32).toInt = (1 : Int) from by decide)).mpr q)
        exact hret fn36 (Nat.le_of_ble_eq_true rfl) (Nat.le_of_ble_eq_true rfl) trivial (hP.sub [3, 0, 1, 2, 4] rfl) (hD.sub [3, 0, 1, 2, 4] (by decide) rfl) hS dX9_goesToSide_96
      · skip
        have c38i : z4.toInt = (1 : Int) := (zc_eq (rfl : z4.toInt = _) (show (1 : Int32).toInt = (1 : Int) from by decide)).mp c38
        refine lv_aload_n hx hb dX9_goesToSide_80 rfl (lv_at hl 0 rfl) ?_
        refine lv_iload_n hx hb dX9_goesToSide_81 rfl (lv_at hl 1 rfl) ?_
        refine lv_aload_n hx hb dX9_goesToSide_82 rfl (lv_at hl 0 rfl) ?_
        refine va_get (D := g.1) (ci := 9) (v := .ref h0_wayX) (C := RX9) (T := TX9) (N := 37) hx hb hG iX9 hown hX.1 hP 3 rfl rfl 22 (by decide) (hG _ wf_X9_78) (fun _ h9 => h9) rfl dX9_goesToSide_83 ?_
        refine lv_iload_n hx hb dX9_goesToSide_86 rfl (lv_at hl 3 rfl) ?_
        refine va_iald hx hb hX.1 hP 0 0 rfl rfl (zin (rfl : x3.toInt = _) (om_521 hy2)) dX9_goesToSide_87 ?_
        refine lv_topi (fun z39 e40 => ?_)
        have i41 : (-3) ≤ z39.toInt ∧ z39.toInt ≤ 3 := hy15.at e40
        have f42 : ¬ z39.toInt = 0 := by rw [e40]; exact hy22
        refine lv_aload_n hx hb dX9_goesToSide_88 rfl (lv_at hl 0 rfl) ?_
        refine lv_iload_n hx hb dX9_goesToSide_89 rfl (lv_at hl 3 rfl) ?_
        refine zfi (wr := [(h0_wayX, .inl (g.2.1.1, 10, .inl f_h0_wayX)), (h0_wayY, .inl (g.2.1.1, 10, .inl f_h0_wayY)), (h0_corner, .inl (g.2.1.1, 30, .inl fn36))]) (va_runV (As := [.int x3]) (rest := [.int z39, .int x1, .ref h0]) ⟨hx, hb, hml, hown, hG⟩ (kX9_alongX l g h0 x3 h0_told h0_read h0_now h0_readNow h0_kept h0_undone h0_seed h0_hasPart h0_tape h0_taped h0_refused h0_faultKind h0_faultPlace h0_size h0_at h0_from h0_wrong h0_wrongAt h0_ownLetters h0_flats h0_isLaid h0_corner h0_wayX h0_wayY h0_normal h0_low h0_high h0_clear h0_ways h0_canBe h0_lain h0_canTool h0_fewestBy h0_sortOf h0_rows h0_seenFlange h0_seenLength f_h0_told h0_told_3 h0_told_4 (om_33 hy2) (om_27 hy3) (om_28 hy4) (om_29 hy5) (om_32 hy6) (om_31 hy7) (om_32 hy8) (om_32 hy9) (om_32 hy10) (om_31 hy11) (om_29 hy12) (om_13 hy13) (om_33 hy14) hy17 (om_155 hy18) hy19 (om_33 hy20) hy21 (om_331 hy18 hy24 hy5) _) ⟨callB_of 1 hG (zGood wc_X9_alongX) rfl rfl rfl (hG _ wini_X9) (hG _ wm_X9_270) hX9_alongX ⟨Nat.le_of_ble_eq_true rfl, Nat.le_of_ble_eq_true rfl⟩, hG _ wi_X9_alongX, hG _ wse_X9_X9_alongX⟩ (zpreV (va_recv hX.1 hP (ci := 9) (q0 := 3) rfl rfl) hX hP hD hS hA [3, 2] rfl (by decide)) rfl rfl hl.1 rfl (lv_room (Nat.le_of_ble_eq_true rfl)) dX9_goesToSide_90 ⟨Nat.le_of_ble_eq_true rfl, Nat.le_of_ble_eq_true rfl⟩) hP hD hS hA [3, 2] [0, 1, 4] rfl rfl (by decide) (by decide) (fun r43 _ H locs hp hP hD hS => ?_)
        refine W.cs (cells' := 0) (slots' := 0) rfl rfl ?_
        have hP : va_P g.1 vwCl [(h0_wayX, .inl (g.2.1.1, 10, .inl f_h0_wayX)), (h0_wayY, .inl (g.2.1.1, 10, .inl f_h0_wayY)), (h0_corner, .inl (g.2.1.1, 30, .inl fn36)), (h0, .inr (9, [.ref h0_told, .ref h0_read, .ref h0_now, .ref h0_readNow, .ref h0_kept, .int h0_undone, .int h0_seed, .int h0_hasPart, .ref h0_tape, .int h0_taped, .ref h0_refused, .int h0_faultKind, .int h0_faultPlace, .int h0_size, .int h0_at, .int h0_from, .int h0_wrong, .int h0_wrongAt, .ref h0_ownLetters, .ref h0_flats, .int h0_isLaid, .ref h0_corner, .ref h0_wayX, .ref h0_wayY, .ref h0_normal, .ref h0_low, .ref h0_high, .ref h0_clear, .ref h0_ways, .ref h0_canBe, .ref h0_lain, .int h0_canTool, .ref h0_fewestBy, .ref h0_sortOf, .int h0_rows, .ref h0_seenFlange, .ref h0_seenLength])), (h0_told, .inl (g.2.1.1, 103, .inl f_h0_told))] H := hP
        have hD : va_D A [(h0_wayX, .inl (g.2.1.1, 10, .inl f_h0_wayX)), (h0_wayY, .inl (g.2.1.1, 10, .inl f_h0_wayY)), (h0_corner, .inl (g.2.1.1, 30, .inl fn36)), (h0, .inr (9, [.ref h0_told, .ref h0_read, .ref h0_now, .ref h0_readNow, .ref h0_kept, .int h0_undone, .int h0_seed, .int h0_hasPart, .ref h0_tape, .int h0_taped, .ref h0_refused, .int h0_faultKind, .int h0_faultPlace, .int h0_size, .int h0_at, .int h0_from, .int h0_wrong, .int h0_wrongAt, .ref h0_ownLetters, .ref h0_flats, .int h0_isLaid, .ref h0_corner, .ref h0_wayX, .ref h0_wayY, .ref h0_normal, .ref h0_low, .ref h0_high, .ref h0_clear, .ref h0_ways, .ref h0_canBe, .ref h0_lain, .int h0_canTool, .ref h0_fewestBy, .ref h0_sortOf, .int h0_rows, .ref h0_seenFlange, .ref h0_seenLength])), (h0_told, .inl (g.2.1.1, 103, .inl f_h0_told))] := hD
        refine zfv (wr := [(h0_wayX, .inl (g.2.1.1, 10, .inl f_h0_wayX)), (h0_wayY, .inl (g.2.1.1, 10, .inl f_h0_wayY)), (h0_told, .inl (g.2.1.1, 103, .inl f_h0_told))]) (va_runV (As := [.int x1, .int z39, .int r43]) (rest := []) ⟨hx, hb, hml, hown, hG⟩ (kX9_moves l g h0 x1 z39 r43 h0_told h0_read h0_now h0_readNow h0_kept h0_undone h0_seed h0_hasPart h0_tape h0_taped h0_refused h0_faultKind h0_faultPlace h0_size h0_at h0_from h0_wrong h0_wrongAt h0_ownLetters h0_flats h0_isLaid h0_corner h0_wayX h0_wayY h0_normal h0_low h0_high h0_clear h0_ways h0_canBe h0_lain h0_canTool h0_fewestBy h0_sortOf h0_rows h0_seenFlange h0_seenLength fn36 (om_155 hy0) (om_509 i41) (om_27 hy3) (om_28 hy4) (om_29 hy5) (om_32 hy6) (om_31 hy7) (om_32 hy8) (om_32 hy9) (om_32 hy10) (om_31 hy11) (om_29 hy12) (om_13 hy13) (om_33 hy14) (om_515 f42) _) ⟨callB_of 3 hG (zGood wc_X9_moves) rfl rfl rfl (hG _ wini_X9) (hG _ wm_X9_264) hX9_moves ⟨Nat.le_of_ble_eq_true rfl, Nat.le_of_ble_eq_true rfl⟩, hG _ wi_X9_moves, hG _ wse_X9_X9_moves⟩ (zpreV (va_recv hX.1 hP (ci := 9) (q0 := 3) rfl rfl) hX hP hD hS hA [3, 2] rfl (by decide)) rfl rfl hl.1 rfl (lv_room (Nat.le_of_ble_eq_true rfl)) dX9_goesToSide_93 ⟨Nat.le_of_ble_eq_true rfl, Nat.le_of_ble_eq_true rfl⟩) hP hD hS hA [3, 2] [0, 1, 4] rfl rfl (by decide) (by decide) (fun u45 H locs hp hP hD hS => ?_)
        refine W.cs (cells' := 0) (slots' := 0) rfl rfl ?_
        obtain ⟨f46, rfl⟩ : ∃ z9, z9 = u45 := ⟨_, rfl⟩
        have hP : va_P g.1 vwCl [(h0_wayX, .inl (g.2.1.1, 10, .inl f_h0_wayX)), (h0_wayY, .inl (g.2.1.1, 10, .inl f_h0_wayY)), (h0_told, .inl (g.2.1.1, 103, .inl f_h0_told)), (h0, .inr (9, [.ref h0_told, .ref h0_read, .ref h0_now, .ref h0_readNow, .ref h0_kept, .int h0_undone, .int h0_seed, .int h0_hasPart, .ref h0_tape, .int h0_taped, .ref h0_refused, .int h0_faultKind, .int h0_faultPlace, .int h0_size, .int h0_at, .int h0_from, .int h0_wrong, .int h0_wrongAt, .ref h0_ownLetters, .ref h0_flats, .int h0_isLaid, .ref h0_corner, .ref h0_wayX, .ref h0_wayY, .ref h0_normal, .ref h0_low, .ref h0_high, .ref h0_clear, .ref h0_ways, .ref h0_canBe, .ref h0_lain, .int h0_canTool, .ref h0_fewestBy, .ref h0_sortOf, .int h0_rows, .ref h0_seenFlange, .ref h0_seenLength])), (h0_corner, .inl (g.2.1.1, 30, .inl f46))] H := hP
        have hD : va_D A [(h0_wayX, .inl (g.2.1.1, 10, .inl f_h0_wayX)), (h0_wayY, .inl (g.2.1.1, 10, .inl f_h0_wayY)), (h0_told, .inl (g.2.1.1, 103, .inl f_h0_told)), (h0, .inr (9, [.ref h0_told, .ref h0_read, .ref h0_now, .ref h0_readNow, .ref h0_kept, .int h0_undone, .int h0_seed, .int h0_hasPart, .ref h0_tape, .int h0_taped, .ref h0_refused, .int h0_faultKind, .int h0_faultPlace, .int h0_size, .int h0_at, .int h0_from, .int h0_wrong, .int h0_wrongAt, .ref h0_ownLetters, .ref h0_flats, .int h0_isLaid, .ref h0_corner, .ref h0_wayX, .ref h0_wayY, .ref h0_normal, .ref h0_low, .ref h0_high, .ref h0_clear, .ref h0_ways, .ref h0_canBe, .ref h0_lain, .int h0_canTool, .ref h0_fewestBy, .ref h0_sortOf, .int h0_rows, .ref h0_seenFlange, .ref h0_seenLength])), (h0_corner, .inl (g.2.1.1, 30, .inl f46))] := hD
        exact hret f46 (Nat.le_of_ble_eq_true rfl) (Nat.le_of_ble_eq_true rfl) trivial (hP.sub [3, 0, 1, 2, 4] rfl) (hD.sub [3, 0, 1, 2, 4] (by decide) rfl) hS dX9_goesToSide_96
    refine lv_if_ne (tgt := 74) hx hb dX9_goesToSide_55 (by decide) (fun c47 => ?_) (fun c47 => ?_)
    · skip
      have c47i : ¬ (z4.toInt = (0 : Int)) := fun q => c47 ((zc_eq (rfl : z4.toInt = _) (show (0 : Int32).toInt = (0 : Int) from by decide)).mpr q)
      exact J37 f25 H locs ls  hP hD hS (lv_sub hl [1, 2, 3, 4, 0] rfl)
    · skip
      have c47i : z4.toInt = (0 : Int) := (zc_eq (rfl : z4.toInt = _) (show (0 : Int32).toInt = (0 : Int) from by decide)).mp c47
      refine lv_aload_n hx hb dX9_goesToSide_58 rfl (lv_at hl 1 rfl) ?_
      refine lv_iload_n hx hb dX9_goesToSide_59 rfl (lv_at hl 2 rfl) ?_
      refine lv_aload_n hx hb dX9_goesToSide_60 rfl (lv_at hl 1 rfl) ?_
      refine va_get (D := g.1) (ci := 9) (v := .ref h0_wayY) (C := RX9) (T := TX9) (N := 37) hx hb hG iX9 hown hX.1 hP 3 rfl rfl 23 (by decide) (hG _ wf_X9_81) (fun _ h9 => h9) rfl dX9_goesToSide_61 ?_
      refine lv_iload_n hx hb dX9_goesToSide_64 rfl (lv_at hl 4 rfl) ?_
      refine va_iald hx hb hX.1 hP 1 0 rfl rfl (zin (rfl : x3.toInt = _) (om_521 hy2)) dX9_goesToSide_65 ?_
      refine lv_topi (fun z48 e49 => ?_)
      have f50 : z48.toInt = z14.toInt := congrArg Int32.toInt (e49.trans e15.symm)
      have i51 : (-3) ≤ z48.toInt ∧ z48.toInt ≤ 3 := hy16.at e49
      have f52 : ¬ z48.toInt = 0 := by rw [e49]; exact hy23
      refine lv_aload_n hx hb dX9_goesToSide_66 rfl (lv_at hl 1 rfl) ?_
      refine lv_iload_n hx hb dX9_goesToSide_67 rfl (lv_at hl 4 rfl) ?_
      refine zfi (wr := [(h0_wayX, .inl (g.2.1.1, 10, .inl f_h0_wayX)), (h0_wayY, .inl (g.2.1.1, 10, .inl f_h0_wayY)), (h0_corner, .inl (g.2.1.1, 30, .inl f25))]) (va_runV (As := [.int x3]) (rest := [.int z48, .int x1, .ref h0]) ⟨hx, hb, hml, hown, hG⟩ (kX9_alongY l g h0 x3 h0_told h0_read h0_now h0_readNow h0_kept h0_undone h0_seed h0_hasPart h0_tape h0_taped h0_refused h0_faultKind h0_faultPlace h0_size h0_at h0_from h0_wrong h0_wrongAt h0_ownLetters h0_flats h0_isLaid h0_corner h0_wayX h0_wayY h0_normal h0_low h0_high h0_clear h0_ways h0_canBe h0_lain h0_canTool h0_fewestBy h0_sortOf h0_rows h0_seenFlange h0_seenLength f_h0_told h0_told_3 h0_told_4 (om_33 hy2) (om_27 hy3) (om_28 hy4) (om_29 hy5) (om_32 hy6) (om_31 hy7) (om_32 hy8) (om_32 hy9) (om_32 hy10) (om_31 hy11) (om_29 hy12) (om_13 hy13) (om_33 hy14) hy17 (om_155 hy18) hy19 (om_33 hy20) hy21 (om_331 hy18 hy24 hy5) _) ⟨callB_of 1 hG (zGood wc_X9_alongY) rfl rfl rfl (hG _ wini_X9) (hG _ wm_X9_267) hX9_alongY ⟨Nat.le_of_ble_eq_true rfl, Nat.le_of_ble_eq_true rfl⟩, hG _ wi_X9_alongY, hG _ wse_X9_X9_alongY⟩ (zpreV (va_recv hX.1 hP (ci := 9) (q0 := 3) rfl rfl) hX hP hD hS hA [3, 2] rfl (by decide)) rfl rfl hl.1 rfl (lv_room (Nat.le_of_ble_eq_true rfl)) dX9_goesToSide_68 ⟨Nat.le_of_ble_eq_true rfl, Nat.le_of_ble_eq_true rfl⟩) hP hD hS hA [3, 2] [0, 1, 4] rfl rfl (by decide) (by decide) (fun r53 _ H locs hp hP hD hS => ?_)
      refine W.cs (cells' := 0) (slots' := 0) rfl rfl ?_
      have hP : va_P g.1 vwCl [(h0_wayX, .inl (g.2.1.1, 10, .inl f_h0_wayX)), (h0_wayY, .inl (g.2.1.1, 10, .inl f_h0_wayY)), (h0_corner, .inl (g.2.1.1, 30, .inl f25)), (h0, .inr (9, [.ref h0_told, .ref h0_read, .ref h0_now, .ref h0_readNow, .ref h0_kept, .int h0_undone, .int h0_seed, .int h0_hasPart, .ref h0_tape, .int h0_taped, .ref h0_refused, .int h0_faultKind, .int h0_faultPlace, .int h0_size, .int h0_at, .int h0_from, .int h0_wrong, .int h0_wrongAt, .ref h0_ownLetters, .ref h0_flats, .int h0_isLaid, .ref h0_corner, .ref h0_wayX, .ref h0_wayY, .ref h0_normal, .ref h0_low, .ref h0_high, .ref h0_clear, .ref h0_ways, .ref h0_canBe, .ref h0_lain, .int h0_canTool, .ref h0_fewestBy, .ref h0_sortOf, .int h0_rows, .ref h0_seenFlange, .ref h0_seenLength])), (h0_told, .inl (g.2.1.1, 103, .inl f_h0_told))] H := hP
      have hD : va_D A [(h0_wayX, .inl (g.2.1.1, 10, .inl f_h0_wayX)), (h0_wayY, .inl (g.2.1.1, 10, .inl f_h0_wayY)), (h0_corner, .inl (g.2.1.1, 30, .inl f25)), (h0, .inr (9, [.ref h0_told, .ref h0_read, .ref h0_now, .ref h0_readNow, .ref h0_kept, .int h0_undone, .int h0_seed, .int h0_hasPart, .ref h0_tape, .int h0_taped, .ref h0_refused, .int h0_faultKind, .int h0_faultPlace, .int h0_size, .int h0_at, .int h0_from, .int h0_wrong, .int h0_wrongAt, .ref h0_ownLetters, .ref h0_flats, .int h0_isLaid, .ref h0_corner, .ref h0_wayX, .ref h0_wayY, .ref h0_normal, .ref h0_low, .ref h0_high, .ref h0_clear, .ref h0_ways, .ref h0_canBe, .ref h0_lain, .int h0_canTool, .ref h0_fewestBy, .ref h0_sortOf, .int h0_rows, .ref h0_seenFlange, .ref h0_seenLength])), (h0_told, .inl (g.2.1.1, 103, .inl f_h0_told))] := hD
      refine zfv (wr := [(h0_wayX, .inl (g.2.1.1, 10, .inl f_h0_wayX)), (h0_wayY, .inl (g.2.1.1, 10, .inl f_h0_wayY)), (h0_told, .inl (g.2.1.1, 103, .inl f_h0_told))]) (va_runV (As := [.int x1, .int z48, .int r53]) (rest := []) ⟨hx, hb, hml, hown, hG⟩ (kX9_moves l g h0 x1 z48 r53 h0_told h0_read h0_now h0_readNow h0_kept h0_undone h0_seed h0_hasPart h0_tape h0_taped h0_refused h0_faultKind h0_faultPlace h0_size h0_at h0_from h0_wrong h0_wrongAt h0_ownLetters h0_flats h0_isLaid h0_corner h0_wayX h0_wayY h0_normal h0_low h0_high h0_clear h0_ways h0_canBe h0_lain h0_canTool h0_fewestBy h0_sortOf h0_rows h0_seenFlange h0_seenLength f25 (om_155 hy0) (om_509 i51) (om_27 hy3) (om_28 hy4) (om_29 hy5) (om_32 hy6) (om_31 hy7) (om_32 hy8) (om_32 hy9) (om_32 hy10) (om_31 hy11) (om_29 hy12) (om_13 hy13) (om_33 hy14) (om_515 f52) _) ⟨callB_of 3 hG (zGood wc_X9_moves) rfl rfl rfl (hG _ wini_X9) (hG _ wm_X9_264) hX9_moves ⟨Nat.le_of_ble_eq_true rfl, Nat.le_of_ble_eq_true rfl⟩, hG _ wi_X9_moves, hG _ wse_X9_X9_moves⟩ (zpreV (va_recv hX.1 hP (ci := 9) (q0 := 3) rfl rfl) hX hP hD hS hA [3, 2] rfl (by decide)) rfl rfl hl.1 rfl (lv_room (Nat.le_of_ble_eq_true rfl)) dX9_goesToSide_71 ⟨Nat.le_of_ble_eq_true rfl, Nat.le_of_ble_eq_true rfl⟩) hP hD hS hA [3, 2] [0, 1, 4] rfl rfl (by decide) (by decide) (fun u55 H locs hp hP hD hS => ?_)
      refine W.cs (cells' := 0) (slots' := 0) rfl rfl ?_
      obtain ⟨f56, rfl⟩ : ∃ z9, z9 = u55 := ⟨_, rfl⟩
      have hP : va_P g.1 vwCl [(h0_wayX, .inl (g.2.1.1, 10, .inl f_h0_wayX)), (h0_wayY, .inl (g.2.1.1, 10, .inl f_h0_wayY)), (h0_told, .inl (g.2.1.1, 103, .inl f_h0_told)), (h0, .inr (9, [.ref h0_told, .ref h0_read, .ref h0_now, .ref h0_readNow, .ref h0_kept, .int h0_undone, .int h0_seed, .int h0_hasPart, .ref h0_tape, .int h0_taped, .ref h0_refused, .int h0_faultKind, .int h0_faultPlace, .int h0_size, .int h0_at, .int h0_from, .int h0_wrong, .int h0_wrongAt, .ref h0_ownLetters, .ref h0_flats, .int h0_isLaid, .ref h0_corner, .ref h0_wayX, .ref h0_wayY, .ref h0_normal, .ref h0_low, .ref h0_high, .ref h0_clear, .ref h0_ways, .ref h0_canBe, .ref h0_lain, .int h0_canTool, .ref h0_fewestBy, .ref h0_sortOf, .int h0_rows, .ref h0_seenFlange, .ref h0_seenLength])), (h0_corner, .inl (g.2.1.1, 30, .inl f56))] H := hP
      have hD : va_D A [(h0_wayX, .inl (g.2.1.1, 10, .inl f_h0_wayX)), (h0_wayY, .inl (g.2.1.1, 10, .inl f_h0_wayY)), (h0_told, .inl (g.2.1.1, 103, .inl f_h0_told)), (h0, .inr (9, [.ref h0_told, .ref h0_read, .ref h0_now, .ref h0_readNow, .ref h0_kept, .int h0_undone, .int h0_seed, .int h0_hasPart, .ref h0_tape, .int h0_taped, .ref h0_refused, .int h0_faultKind, .int h0_faultPlace, .int h0_size, .int h0_at, .int h0_from, .int h0_wrong, .int h0_wrongAt, .ref h0_ownLetters, .ref h0_flats, .int h0_isLaid, .ref h0_corner, .ref h0_wayX, .ref h0_wayY, .ref h0_normal, .ref h0_low, .ref h0_high, .ref h0_clear, .ref h0_ways, .ref h0_canBe, .ref h0_lain, .int h0_canTool, .ref h0_fewestBy, .ref h0_sortOf, .int h0_rows, .ref h0_seenFlange, .ref h0_seenLength])), (h0_corner, .inl (g.2.1.1, 30, .inl f56))] := hD
      exact J37 f56 H locs ls  hP hD hS (lv_sub hl [1, 2, 3, 4, 0] rfl)
  · skip
    have c13i : z10.toInt = (0 : Int) := (zc_eq (rfl : z10.toInt = _) (show (0 : Int32).toInt = (0 : Int) from by decide)).mp c13
    refine lv_aload_n hx hb dX9_goesToSide_26 rfl (lv_at hl 1 rfl) ?_
    refine va_get (D := g.1) (ci := 9) (v := .ref h0_wayX) (C := RX9) (T := TX9) (N := 37) hx hb hG iX9 hown hX.1 hP 3 rfl rfl 22 (by decide) (hG _ wf_X9_78) (fun _ h9 => h9) rfl dX9_goesToSide_27 ?_
    refine lv_iload_n hx hb dX9_goesToSide_30 rfl (lv_at hl 4 rfl) ?_
    refine va_iald hx hb hX.1 hP 0 0 rfl rfl (zin (rfl : x3.toInt = _) (om_521 hy2)) dX9_goesToSide_31 ?_
    refine lv_topi (fun z57 e58 => ?_)
    have i59 : (-3) ≤ z57.toInt ∧ z57.toInt ≤ 3 := hy15.at e58
    have f60 : ¬ z57.toInt = 0 := by rw [e58]; exact hy22
    refine lv_goto (tgt := 41) hx hb dX9_goesToSide_32 (by decide) ?_
    refine lv_aload_n hx hb dX9_goesToSide_41 rfl (lv_at hl 1 rfl) ?_
    refine va_get (D := g.1) (ci := 9) (v := .ref h0_told) (C := RX9) (T := TX9) (N := 37) hx hb hG iX9 hown hX.1 hP 3 rfl rfl 0 (by decide) (hG _ wf_X9_7) (fun _ h9 => h9) rfl dX9_goesToSide_42 ?_
    refine lv_bipush (v := 31) hx hb dX9_goesToSide_45 (by decide) ?_
    refine lv_iload_n hx hb dX9_goesToSide_47 rfl (lv_at hl 3 rfl) ?_
    refine lv_iadd hx hb dX9_goesToSide_48 ?_
    refine lv_topi (fun z61 e62 => ?_)
    have f63 : z61.toInt = (31 : Int) + x2.toInt := za e62 (show (31 : Int32).toInt = (31 : Int) from by decide) (rfl : x2.toInt = _) (om_152 hy1)
    refine va_iald hx hb hX.1 hP 2 0 rfl rfl (zin (rfl : z61.toInt = _) (om_153 f63 hy1)) dX9_goesToSide_49 ?_
    refine lv_topi (fun z64 e65 => ?_)
    refine zfv (wr := [(h0_wayX, .inl (g.2.1.1, 10, .inl f_h0_wayX)), (h0_wayY, .inl (g.2.1.1, 10, .inl f_h0_wayY)), (h0_told, .inl (g.2.1.1, 103, .inl f_h0_told))]) (va_runV (As := [.int x1, .int z57, .int z64]) (rest := []) ⟨hx, hb, hml, hown, hG⟩ (kX9_moves l g h0 x1 z57 z64 h0_told h0_read h0_now h0_readNow h0_kept h0_undone h0_seed h0_hasPart h0_tape h0_taped h0_refused h0_faultKind h0_faultPlace h0_size h0_at h0_from h0_wrong h0_wrongAt h0_ownLetters h0_flats h0_isLaid h0_corner h0_wayX h0_wayY h0_normal h0_low h0_high h0_clear h0_ways h0_canBe h0_lain h0_canTool h0_fewestBy h0_sortOf h0_rows h0_seenFlange h0_seenLength f9 (om_155 hy0) (om_509 i59) (om_27 hy3) (om_28 hy4) (om_29 hy5) (om_32 hy6) (om_31 hy7) (om_32 hy8) (om_32 hy9) (om_32 hy10) (om_31 hy11) (om_29 hy12) (om_13 hy13) (om_33 hy14) (om_515 f60) _) ⟨callB_of 3 hG (zGood wc_X9_moves) rfl rfl rfl (hG _ wini_X9) (hG _ wm_X9_264) hX9_moves ⟨Nat.le_of_ble_eq_true rfl, Nat.le_of_ble_eq_true rfl⟩, hG _ wi_X9_moves, hG _ wse_X9_X9_moves⟩ (zpreV (va_recv hX.1 hP (ci := 9) (q0 := 3) rfl rfl) hX hP hD hS hA [3, 4] rfl (by decide)) rfl rfl hl.1 rfl (lv_room (Nat.le_of_ble_eq_true rfl)) dX9_goesToSide_50 ⟨Nat.le_of_ble_eq_true rfl, Nat.le_of_ble_eq_true rfl⟩) hP hD hS hA [3, 4] [0, 1, 2] rfl rfl (by decide) (by decide) (fun u67 H locs hp hP hD hS => ?_)
    refine W.cs (cells' := 0) (slots' := 0) rfl rfl ?_
    obtain ⟨f68, rfl⟩ : ∃ z9, z9 = u67 := ⟨_, rfl⟩
    have hP : va_P g.1 vwCl [(h0_wayX, .inl (g.2.1.1, 10, .inl f_h0_wayX)), (h0_wayY, .inl (g.2.1.1, 10, .inl f_h0_wayY)), (h0_told, .inl (g.2.1.1, 103, .inl f_h0_told)), (h0, .inr (9, [.ref h0_told, .ref h0_read, .ref h0_now, .ref h0_readNow, .ref h0_kept, .int h0_undone, .int h0_seed, .int h0_hasPart, .ref h0_tape, .int h0_taped, .ref h0_refused, .int h0_faultKind, .int h0_faultPlace, .int h0_size, .int h0_at, .int h0_from, .int h0_wrong, .int h0_wrongAt, .ref h0_ownLetters, .ref h0_flats, .int h0_isLaid, .ref h0_corner, .ref h0_wayX, .ref h0_wayY, .ref h0_normal, .ref h0_low, .ref h0_high, .ref h0_clear, .ref h0_ways, .ref h0_canBe, .ref h0_lain, .int h0_canTool, .ref h0_fewestBy, .ref h0_sortOf, .int h0_rows, .ref h0_seenFlange, .ref h0_seenLength])), (h0_corner, .inl (g.2.1.1, 30, .inl f68))] H := hP
    have hD : va_D A [(h0_wayX, .inl (g.2.1.1, 10, .inl f_h0_wayX)), (h0_wayY, .inl (g.2.1.1, 10, .inl f_h0_wayY)), (h0_told, .inl (g.2.1.1, 103, .inl f_h0_told)), (h0, .inr (9, [.ref h0_told, .ref h0_read, .ref h0_now, .ref h0_readNow, .ref h0_kept, .int h0_undone, .int h0_seed, .int h0_hasPart, .ref h0_tape, .int h0_taped, .ref h0_refused, .int h0_faultKind, .int h0_faultPlace, .int h0_size, .int h0_at, .int h0_from, .int h0_wrong, .int h0_wrongAt, .ref h0_ownLetters, .ref h0_flats, .int h0_isLaid, .ref h0_corner, .ref h0_wayX, .ref h0_wayY, .ref h0_normal, .ref h0_low, .ref h0_high, .ref h0_clear, .ref h0_ways, .ref h0_canBe, .ref h0_lain, .int h0_canTool, .ref h0_fewestBy, .ref h0_sortOf, .int h0_rows, .ref h0_seenFlange, .ref h0_seenLength])), (h0_corner, .inl (g.2.1.1, 30, .inl f68))] := hD
    refine lv_iload hx hb dX9_goesToSide_53 (lv_at hl 0 rfl) ?_
    have J79 : ∀  (fn78 : Nat → Int32) (H : Heap) (locs : List Loc) (ls : Array Slot), va_P g.1 vwCl [(h0_wayX, .inl (g.2.1.1, 10, .inl f_h0_wayX)), (h0_wayY, .inl (g.2.1.1, 10, .inl f_h0_wayY)), (h0_told, .inl (g.2.1.1, 103, .inl f_h0_told)), (h0, .inr (9, [.ref h0_told, .ref h0_read, .ref h0_now, .ref h0_readNow, .ref h0_kept, .int h0_undone, .int h0_seed, .int h0_hasPart, .ref h0_tape, .int h0_taped, .ref h0_refused, .int h0_faultKind, .int h0_faultPlace, .int h0_size, .int h0_at, .int h0_from, .int h0_wrong, .int h0_wrongAt, .ref h0_ownLetters, .ref h0_flats, .int h0_isLaid, .ref h0_corner, .ref h0_wayX, .ref h0_wayY, .ref h0_normal, .ref h0_low, .ref h0_high, .ref h0_clear, .ref h0_ways, .ref h0_canBe, .ref h0_lain, .int h0_canTool, .ref h0_fewestBy, .ref h0_sortOf, .int h0_rows, .ref h0_seenFlange, .ref h0_seenLength])), (h0_corner, .inl (g.2.1.1, 30, .inl fn78))] H → va_D A [(h0_wayX, .inl (g.2.1.1, 10, .inl f_h0_wayX)), (h0_wayY, .inl (g.2.1.1, 10, .inl f_h0_wayY)), (h0_told, .inl (g.2.1.1, 103, .inl f_h0_told)), (h0, .inr (9, [.ref h0_told, .ref h0_read, .ref h0_now, .ref h0_readNow, .ref h0_kept, .int h0_undone, .int h0_seed, .int h0_hasPart, .ref h0_tape, .int h0_taped, .ref h0_refused, .int h0_faultKind, .int h0_faultPlace, .int h0_size, .int h0_at, .int h0_from, .int h0_wrong, .int h0_wrongAt, .ref h0_ownLetters, .ref h0_flats, .int h0_isLaid, .ref h0_corner, .ref h0_wayX, .ref h0_wayY, .ref h0_normal, .ref h0_low, .ref h0_high, .ref h0_clear, .ref h0_ways, .ref h0_canBe, .ref h0_lain, .int h0_canTool, .ref h0_fewestBy, .ref h0_sortOf, .int h0_rows, .ref h0_seenFlange, .ref h0_seenLength])), (h0_corner, .inl (g.2.1.1, 30, .inl fn78))] → va_S A s.heap H locs → lv_has ls 5 [(0, .ref h0), (1, .int x1), (2, .int x2), (3, .int x3), (4, .int z4)] → W p l e rm_kX9_goesToSide s m args below meth c H locs 0 0 Q (F0 m 74 ls []) := by
      intro fn78 H locs ls  hP hD hS hl
      refine lv_iload hx hb dX9_goesToSide_74 (lv_at hl 4 rfl) ?_
      refine lv_iconst (v := 1) hx hb dX9_goesToSide_76 (by decide) ?_
      refine lv_icmp_ne (tgt := 96) hx hb dX9_goesToSide_77 (by decide) (fun c80 => ?_) (fun c80 => ?_)
      · skip
        have c80i : ¬ (z4.toInt = (1 : Int)) := fun q => c80 ((zc_eq (rfl : z4.toInt = _) (show (1 : Int32).toInt = (1 : Int) from by decide)).mpr q)
        exact hret fn78 (Nat.le_of_ble_eq_true rfl) (Nat.le_of_ble_eq_true rfl) trivial (hP.sub [3, 0, 1, 2, 4] rfl) (hD.sub [3, 0, 1, 2, 4] (by decide) rfl) hS dX9_goesToSide_96
      · skip
        have c80i : z4.toInt = (1 : Int) := (zc_eq (rfl : z4.toInt = _) (show (1 : Int32).toInt = (1 : Int) from by decide)).mp c80
        refine lv_aload_n hx hb dX9_goesToSide_80 rfl (lv_at hl 0 rfl) ?_
        refine lv_iload_n hx hb dX9_goesToSide_81 rfl (lv_at hl 1 rfl) ?_
        refine lv_aload_n hx hb dX9_goesToSide_82 rfl (lv_at hl 0 rfl) ?_
        refine va_get (D := g.1) (ci := 9) (v := .ref h0_wayX) (C := RX9) (T := TX9) (N := 37) hx hb hG iX9 hown hX.1 hP 3 rfl rfl 22 (by decide) (hG _ wf_X9_78) (fun _ h9 => h9) rfl dX9_goesToSide_83 ?_
        refine lv_iload_n hx hb dX9_goesToSide_86 rfl (lv_at hl 3 rfl) ?_
        refine va_iald hx hb hX.1 hP 0 0 rfl rfl (zin (rfl : x3.toInt = _) (om_521 hy2)) dX9_goesToSide_87 ?_
        refine lv_topi (fun z81 e82 => ?_)
        have f83 : z81.toInt = z57.toInt := congrArg Int32.toInt (e82.trans e58.symm)
        have i84 : (-3) ≤ z81.toInt ∧ z81.toInt ≤ 3 := hy15.at e82
        have f85 : ¬ z81.toInt = 0 := by rw [e82]; exact hy22
        refine lv_aload_n hx hb dX9_goesToSide_88 rfl (lv_at hl 0 rfl) ?_
        refine lv_iload_n hx hb dX9_goesToSide_89 rfl (lv_at hl 3 rfl) ?_
        refine zfi (wr := [(h0_wayX, .inl (g.2.1.1, 10, .inl f_h0_wayX)), (h0_wayY, .inl (g.2.1.1, 10, .inl f_h0_wayY)), (h0_corner, .inl (g.2.1.1, 30, .inl fn78))]) (va_runV (As := [.int x3]) (rest := [.int z81, .int x1, .ref h0]) ⟨hx, hb, hml, hown, hG⟩ (kX9_alongX l g h0 x3 h0_told h0_read h0_now h0_readNow h0_kept h0_undone h0_seed h0_hasPart h0_tape h0_taped h0_refused h0_faultKind h0_faultPlace h0_size h0_at h0_from h0_wrong h0_wrongAt h0_ownLetters h0_flats h0_isLaid h0_corner h0_wayX h0_wayY h0_normal h0_low h0_high h0_clear h0_ways h0_canBe h0_lain h0_canTool h0_fewestBy h0_sortOf h0_rows h0_seenFlange h0_seenLength f_h0_told h0_told_3 h0_told_4 (om_33 hy2) (om_27 hy3) (om_28 hy4) (om_29 hy5) (om_32 hy6) (om_31 hy7) (om_32 hy8) (om_32 hy9) (om_32 hy10) (om_31 hy11) (om_29 hy12) (om_13 hy13) (om_33 hy14) hy17 (om_155 hy18) hy19 (om_33 hy20) hy21 (om_331 hy18 hy24 hy5) _) ⟨callB_of 1 hG (zGood wc_X9_alongX) rfl rfl rfl (hG _ wini_X9) (hG _ wm_X9_270) hX9_alongX ⟨Nat.le_of_ble_eq_true rfl, Nat.le_of_ble_eq_true rfl⟩, hG _ wi_X9_alongX, hG _ wse_X9_X9_alongX⟩ (zpreV (va_recv hX.1 hP (ci := 9) (q0 := 3) rfl rfl) hX hP hD hS hA [3, 2] rfl (by decide)) rfl rfl hl.1 rfl (lv_room (Nat.le_of_ble_eq_true rfl)) dX9_goesToSide_90 ⟨Nat.le_of_ble_eq_true rfl, Nat.le_of_ble_eq_true rfl⟩) hP hD hS hA [3, 2] [0, 1, 4] rfl rfl (by decide) (by decide) (fun r86 _ H locs hp hP hD hS => ?_)
        refine W.cs (cells' := 0) (slots' := 0) rfl rfl ?_
        have hP : va_P g.1 vwCl [(h0_wayX, .inl (g.2.1.1, 10, .inl f_h0_wayX)), (h0_wayY, .inl (g.2.1.1, 10, .inl f_h0_wayY)), (h0_corner, .inl (g.2.1.1, 30, .inl fn78)), (h0, .inr (9, [.ref h0_told, .ref h0_read, .ref h0_now, .ref h0_readNow, .ref h0_kept, .int h0_undone, .int h0_seed, .int h0_hasPart, .ref h0_tape, .int h0_taped, .ref h0_refused, .int h0_faultKind, .int h0_faultPlace, .int h0_size, .int h0_at, .int h0_from, .int h0_wrong, .int h0_wrongAt, .ref h0_ownLetters, .ref h0_flats, .int h0_isLaid, .ref h0_corner, .ref h0_wayX, .ref h0_wayY, .ref h0_normal, .ref h0_low, .ref h0_high, .ref h0_clear, .ref h0_ways, .ref h0_canBe, .ref h0_lain, .int h0_canTool, .ref h0_fewestBy, .ref h0_sortOf, .int h0_rows, .ref h0_seenFlange, .ref h0_seenLength])), (h0_told, .inl (g.2.1.1, 103, .inl f_h0_told))] H := hP
        have hD : va_D A [(h0_wayX, .inl (g.2.1.1, 10, .inl f_h0_wayX)), (h0_wayY, .inl (g.2.1.1, 10, .inl f_h0_wayY)), (h0_corner, .inl (g.2.1.1, 30, .inl fn78)), (h0, .inr (9, [.ref h0_told, .ref h0_read, .ref h0_now, .ref h0_readNow, .ref h0_kept, .int h0_undone, .int h0_seed, .int h0_hasPart, .ref h0_tape, .int h0_taped, .ref h0_refused, .int h0_faultKind, .int h0_faultPlace, .int h0_size, .int h0_at, .int h0_from, .int h0_wrong, .int h0_wrongAt, .ref h0_ownLetters, .ref h0_flats, .int h0_isLaid, .ref h0_corner, .ref h0_wayX, .ref h0_wayY, .ref h0_normal, .ref h0_low, .ref h0_high, .ref h0_clear, .ref h0_ways, .ref h0_canBe, .ref h0_lain, .int h0_canTool, .ref h0_fewestBy, .ref h0_sortOf, .int h0_rows, .ref h0_seenFlange, .ref h0_seenLength])), (h0_told, .inl (g.2.1.1, 103, .inl f_h0_told))] := hD
        refine zfv (wr := [(h0_wayX, .inl (g.2.1.1, 10, .inl f_h0_wayX)), (h0_wayY, .inl (g.2.1.1, 10, .inl f_h0_wayY)), (h0_told, .inl (g.2.1.1, 103, .inl f_h0_told))]) (va_runV (As := [.int x1, .int z81, .int r86]) (rest := []) ⟨hx, hb, hml, hown, hG⟩ (kX9_moves l g h0 x1 z81 r86 h0_told h0_read h0_now h0_readNow h0_kept h0_undone h0_seed h0_hasPart h0_tape h0_taped h0_refused h0_faultKind h0_faultPlace h0_size h0_at h0_from h0_wrong h0_wrongAt h0_ownLetters h0_flats h0_isLaid h0_corner h0_wayX h0_wayY h0_normal h0_low h0_high h0_clear h0_ways h0_canBe h0_lain h0_canTool h0_fewestBy h0_sortOf h0_rows h0_seenFlange h0_seenLength fn78 (om_155 hy0) (om_509 i84) (om_27 hy3) (om_28 hy4) (om_29 hy5) (om_32 hy6) (om_31 hy7) (om_32 hy8) (om_32 hy9) (om_32 hy10) (om_31 hy11) (om_29 hy12) (om_13 hy13) (om_33 hy14) (om_515 f85) _) ⟨callB_of 3 hG (zGood wc_X9_moves) rfl rfl rfl (hG _ wini_X9) (hG _ wm_X9_264) hX9_moves ⟨Nat.le_of_ble_eq_true rfl, Nat.le_of_ble_eq_true rfl⟩, hG _ wi_X9_moves, hG _ wse_X9_X9_moves⟩ (zpreV (va_recv hX.1 hP (ci := 9) (q0 := 3) rfl rfl) hX hP hD hS hA [3, 2] rfl (by decide)) rfl rfl hl.1 rfl (lv_room (Nat.le_of_ble_eq_true rfl)) dX9_goesToSide_93 ⟨Nat.le_of_ble_eq_true rfl, Nat.le_of_ble_eq_true rfl⟩) hP hD hS hA [3, 2] [0, 1, 4] rfl rfl (by decide) (by decide) (fun u88 H locs hp hP hD hS => ?_)
        refine W.cs (cells' := 0) (slots' := 0) rfl rfl ?_
        obtain ⟨f89, rfl⟩ : ∃ z9, z9 = u88 := ⟨_, rfl⟩
        have hP : va_P g.1 vwCl [(h0_wayX, .inl (g.2.1.1, 10, .inl f_h0_wayX)), (h0_wayY, .inl (g.2.1.1, 10, .inl f_h0_wayY)), (h0_told, .inl (g.2.1.1, 103, .inl f_h0_told)), (h0, .inr (9, [.ref h0_told, .ref h0_read, .ref h0_now, .ref h0_readNow, .ref h0_kept, .int h0_undone, .int h0_seed, .int h0_hasPart, .ref h0_tape, .int h0_taped, .ref h0_refused, .int h0_faultKind, .int h0_faultPlace, .int h0_size, .int h0_at, .int h0_from, .int h0_wrong, .int h0_wrongAt, .ref h0_ownLetters, .ref h0_flats, .int h0_isLaid, .ref h0_corner, .ref h0_wayX, .ref h0_wayY, .ref h0_normal, .ref h0_low, .ref h0_high, .ref h0_clear, .ref h0_ways, .ref h0_canBe, .ref h0_lain, .int h0_canTool, .ref h0_fewestBy, .ref h0_sortOf, .int h0_rows, .ref h0_seenFlange, .ref h0_seenLength])), (h0_corner, .inl (g.2.1.1, 30, .inl f89))] H := hP
        have hD : va_D A [(h0_wayX, .inl (g.2.1.1, 10, .inl f_h0_wayX)), (h0_wayY, .inl (g.2.1.1, 10, .inl f_h0_wayY)), (h0_told, .inl (g.2.1.1, 103, .inl f_h0_told)), (h0, .inr (9, [.ref h0_told, .ref h0_read, .ref h0_now, .ref h0_readNow, .ref h0_kept, .int h0_undone, .int h0_seed, .int h0_hasPart, .ref h0_tape, .int h0_taped, .ref h0_refused, .int h0_faultKind, .int h0_faultPlace, .int h0_size, .int h0_at, .int h0_from, .int h0_wrong, .int h0_wrongAt, .ref h0_ownLetters, .ref h0_flats, .int h0_isLaid, .ref h0_corner, .ref h0_wayX, .ref h0_wayY, .ref h0_normal, .ref h0_low, .ref h0_high, .ref h0_clear, .ref h0_ways, .ref h0_canBe, .ref h0_lain, .int h0_canTool, .ref h0_fewestBy, .ref h0_sortOf, .int h0_rows, .ref h0_seenFlange, .ref h0_seenLength])), (h0_corner, .inl (g.2.1.1, 30, .inl f89))] := hD
        exact hret f89 (Nat.le_of_ble_eq_true rfl) (Nat.le_of_ble_eq_true rfl) trivial (hP.sub [3, 0, 1, 2, 4] rfl) (hD.sub [3, 0, 1, 2, 4] (by decide) rfl) hS dX9_goesToSide_96
    refine lv_if_ne (tgt := 74) hx hb dX9_goesToSide_55 (by decide) (fun c90 => ?_) (fun c90 => ?_)
    · skip
      have c90i : ¬ (z4.toInt = (0 : Int)) := fun q => c90 ((zc_eq (rfl : z4.toInt = _) (show (0 : Int32).toInt = (0 : Int) from by decide)).mpr q)
      exact J79 f68 H locs ls  hP hD hS (lv_sub hl [1, 2, 3, 4, 0] rfl)
    · skip
      have c90i : z4.toInt = (0 : Int) := (zc_eq (rfl : z4.toInt = _) (show (0 : Int32).toInt = (0 : Int) from by decide)).mp c90
      refine lv_aload_n hx hb dX9_goesToSide_58 rfl (lv_at hl 1 rfl) ?_
      refine lv_iload_n hx hb dX9_goesToSide_59 rfl (lv_at hl 2 rfl) ?_
      refine lv_aload_n hx hb dX9_goesToSide_60 rfl (lv_at hl 1 rfl) ?_
      refine va_get (D := g.1) (ci := 9) (v := .ref h0_wayY) (C := RX9) (T := TX9) (N := 37) hx hb hG iX9 hown hX.1 hP 3 rfl rfl 23 (by decide) (hG _ wf_X9_81) (fun _ h9 => h9) rfl dX9_goesToSide_61 ?_
      refine lv_iload_n hx hb dX9_goesToSide_64 rfl (lv_at hl 4 rfl) ?_
      refine va_iald hx hb hX.1 hP 1 0 rfl rfl (zin (rfl : x3.toInt = _) (om_521 hy2)) dX9_goesToSide_65 ?_
      refine lv_topi (fun z91 e92 => ?_)
      have i93 : (-3) ≤ z91.toInt ∧ z91.toInt ≤ 3 := hy16.at e92
      have f94 : ¬ z91.toInt = 0 := by rw [e92]; exact hy23
      refine lv_aload_n hx hb dX9_goesToSide_66 rfl (lv_at hl 1 rfl) ?_
      refine lv_iload_n hx hb dX9_goesToSide_67 rfl (lv_at hl 4 rfl) ?_
      refine zfi (wr := [(h0_wayX, .inl (g.2.1.1, 10, .inl f_h0_wayX)), (h0_wayY, .inl (g.2.1.1, 10, .inl f_h0_wayY)), (h0_corner, .inl (g.2.1.1, 30, .inl f68))]) (va_runV (As := [.int x3]) (rest := [.int z91, .int x1, .ref h0]) ⟨hx, hb, hml, hown, hG⟩ (kX9_alongY l g h0 x3 h0_told h0_read h0_now h0_readNow h0_kept h0_undone h0_seed h0_hasPart h0_tape h0_taped h0_refused h0_faultKind h0_faultPlace h0_size h0_at h0_from h0_wrong h0_wrongAt h0_ownLetters h0_flats h0_isLaid h0_corner h0_wayX h0_wayY h0_normal h0_low h0_high h0_clear h0_ways h0_canBe h0_lain h0_canTool h0_fewestBy h0_sortOf h0_rows h0_seenFlange h0_seenLength f_h0_told h0_told_3 h0_told_4 (om_33 hy2) (om_27 hy3) (om_28 hy4) (om_29 hy5) (om_32 hy6) (om_31 hy7) (om_32 hy8) (om_32 hy9) (om_32 hy10) (om_31 hy11) (om_29 hy12) (om_13 hy13) (om_33 hy14) hy17 (om_155 hy18) hy19 (om_33 hy20) hy21 (om_331 hy18 hy24 hy5) _) ⟨callB_of 1 hG (zGood wc_X9_alongY) rfl rfl rfl (hG _ wini_X9) (hG _ wm_X9_267) hX9_alongY ⟨Nat.le_of_ble_eq_true rfl, Nat.le_of_ble_eq_true rfl⟩, hG _ wi_X9_alongY, hG _ wse_X9_X9_alongY⟩ (zpreV (va_recv hX.1 hP (ci := 9) (q0 := 3) rfl rfl) hX hP hD hS hA [3, 2] rfl (by decide)) rfl rfl hl.1 rfl (lv_room (Nat.le_of_ble_eq_true rfl)) dX9_goesToSide_68 ⟨Nat.le_of_ble_eq_true rfl, Nat.le_of_ble_eq_true rfl⟩) hP hD hS hA [3, 2] [0, 1, 4] rfl rfl (by decide) (by decide) (fun r95 _ H locs hp hP hD hS => ?_)
      refine W.cs (cells' := 0) (slots' := 0) rfl rfl ?_
      have hP : va_P g.1 vwCl [(h0_wayX, .inl (g.2.1.1, 10, .inl f_h0_wayX)), (h0_wayY, .inl (g.2.1.1, 10, .inl f_h0_wayY)), (h0_corner, .inl (g.2.1.1, 30, .inl f68)), (h0, .inr (9, [.ref h0_told, .ref h0_read, .ref h0_now, .ref h0_readNow, .ref h0_kept, .int h0_undone, .int h0_seed, .int h0_hasPart, .ref h0_tape, .int h0_taped, .ref h0_refused, .int h0_faultKind, .int h0_faultPlace, .int h0_size, .int h0_at, .int h0_from, .int h0_wrong, .int h0_wrongAt, .ref h0_ownLetters, .ref h0_flats, .int h0_isLaid, .ref h0_corner, .ref h0_wayX, .ref h0_wayY, .ref h0_normal, .ref h0_low, .ref h0_high, .ref h0_clear, .ref h0_ways, .ref h0_canBe, .ref h0_lain, .int h0_canTool, .ref h0_fewestBy, .ref h0_sortOf, .int h0_rows, .ref h0_seenFlange, .ref h0_seenLength])), (h0_told, .inl (g.2.1.1, 103, .inl f_h0_told))] H := hP
      have hD : va_D A [(h0_wayX, .inl (g.2.1.1, 10, .inl f_h0_wayX)), (h0_wayY, .inl (g.2.1.1, 10, .inl f_h0_wayY)), (h0_corner, .inl (g.2.1.1, 30, .inl f68)), (h0, .inr (9, [.ref h0_told, .ref h0_read, .ref h0_now, .ref h0_readNow, .ref h0_kept, .int h0_undone, .int h0_seed, .int h0_hasPart, .ref h0_tape, .int h0_taped, .ref h0_refused, .int h0_faultKind, .int h0_faultPlace, .int h0_size, .int h0_at, .int h0_from, .int h0_wrong, .int h0_wrongAt, .ref h0_ownLetters, .ref h0_flats, .int h0_isLaid, .ref h0_corner, .ref h0_wayX, .ref h0_wayY, .ref h0_normal, .ref h0_low, .ref h0_high, .ref h0_clear, .ref h0_ways, .ref h0_canBe, .ref h0_lain, .int h0_canTool, .ref h0_fewestBy, .ref h0_sortOf, .int h0_rows, .ref h0_seenFlange, .ref h0_seenLength])), (h0_told, .inl (g.2.1.1, 103, .inl f_h0_told))] := hD
      refine zfv (wr := [(h0_wayX, .inl (g.2.1.1, 10, .inl f_h0_wayX)), (h0_wayY, .inl (g.2.1.1, 10, .inl f_h0_wayY)), (h0_told, .inl (g.2.1.1, 103, .inl f_h0_told))]) (va_runV (As := [.int x1, .int z91, .int r95]) (rest := []) ⟨hx, hb, hml, hown, hG⟩ (kX9_moves l g h0 x1 z91 r95 h0_told h0_read h0_now h0_readNow h0_kept h0_undone h0_seed h0_hasPart h0_tape h0_taped h0_refused h0_faultKind h0_faultPlace h0_size h0_at h0_from h0_wrong h0_wrongAt h0_ownLetters h0_flats h0_isLaid h0_corner h0_wayX h0_wayY h0_normal h0_low h0_high h0_clear h0_ways h0_canBe h0_lain h0_canTool h0_fewestBy h0_sortOf h0_rows h0_seenFlange h0_seenLength f68 (om_155 hy0) (om_509 i93) (om_27 hy3) (om_28 hy4) (om_29 hy5) (om_32 hy6) (om_31 hy7) (om_32 hy8) (om_32 hy9) (om_32 hy10) (om_31 hy11) (om_29 hy12) (om_13 hy13) (om_33 hy14) (om_515 f94) _) ⟨callB_of 3 hG (zGood wc_X9_moves) rfl rfl rfl (hG _ wini_X9) (hG _ wm_X9_264) hX9_moves ⟨Nat.le_of_ble_eq_true rfl, Nat.le_of_ble_eq_true rfl⟩, hG _ wi_X9_moves, hG _ wse_X9_X9_moves⟩ (zpreV (va_recv hX.1 hP (ci := 9) (q0 := 3) rfl rfl) hX hP hD hS hA [3, 2] rfl (by decide)) rfl rfl hl.1 rfl (lv_room (Nat.le_of_ble_eq_true rfl)) dX9_goesToSide_71 ⟨Nat.le_of_ble_eq_true rfl, Nat.le_of_ble_eq_true rfl⟩) hP hD hS hA [3, 2] [0, 1, 4] rfl rfl (by decide) (by decide) (fun u97 H locs hp hP hD hS => ?_)
      refine W.cs (cells' := 0) (slots' := 0) rfl rfl ?_
      obtain ⟨f98, rfl⟩ : ∃ z9, z9 = u97 := ⟨_, rfl⟩
      have hP : va_P g.1 vwCl [(h0_wayX, .inl (g.2.1.1, 10, .inl f_h0_wayX)), (h0_wayY, .inl (g.2.1.1, 10, .inl f_h0_wayY)), (h0_told, .inl (g.2.1.1, 103, .inl f_h0_told)), (h0, .inr (9, [.ref h0_told, .ref h0_read, .ref h0_now, .ref h0_readNow, .ref h0_kept, .int h0_undone, .int h0_seed, .int h0_hasPart, .ref h0_tape, .int h0_taped, .ref h0_refused, .int h0_faultKind, .int h0_faultPlace, .int h0_size, .int h0_at, .int h0_from, .int h0_wrong, .int h0_wrongAt, .ref h0_ownLetters, .ref h0_flats, .int h0_isLaid, .ref h0_corner, .ref h0_wayX, .ref h0_wayY, .ref h0_normal, .ref h0_low, .ref h0_high, .ref h0_clear, .ref h0_ways, .ref h0_canBe, .ref h0_lain, .int h0_canTool, .ref h0_fewestBy, .ref h0_sortOf, .int h0_rows, .ref h0_seenFlange, .ref h0_seenLength])), (h0_corner, .inl (g.2.1.1, 30, .inl f98))] H := hP
      have hD : va_D A [(h0_wayX, .inl (g.2.1.1, 10, .inl f_h0_wayX)), (h0_wayY, .inl (g.2.1.1, 10, .inl f_h0_wayY)), (h0_told, .inl (g.2.1.1, 103, .inl f_h0_told)), (h0, .inr (9, [.ref h0_told, .ref h0_read, .ref h0_now, .ref h0_readNow, .ref h0_kept, .int h0_undone, .int h0_seed, .int h0_hasPart, .ref h0_tape, .int h0_taped, .ref h0_refused, .int h0_faultKind, .int h0_faultPlace, .int h0_size, .int h0_at, .int h0_from, .int h0_wrong, .int h0_wrongAt, .ref h0_ownLetters, .ref h0_flats, .int h0_isLaid, .ref h0_corner, .ref h0_wayX, .ref h0_wayY, .ref h0_normal, .ref h0_low, .ref h0_high, .ref h0_clear, .ref h0_ways, .ref h0_canBe, .ref h0_lain, .int h0_canTool, .ref h0_fewestBy, .ref h0_sortOf, .int h0_rows, .ref h0_seenFlange, .ref h0_seenLength])), (h0_corner, .inl (g.2.1.1, 30, .inl f98))] := hD
      exact J79 f98 H locs ls  hP hD hS (lv_sub hl [1, 2, 3, 4, 0] rfl)
theorem dX9_standsUp_0 : decode cX9_standsUp 0 = .ok (.aload_n 0, 1) := by decide +kernel
theorem dX9_standsUp_1 : decode cX9_standsUp 1 = .ok (.getfield 7, 3) := by decide +kernel
theorem dX9_standsUp_4 : decode cX9_standsUp 4 = .ok (.bipush 22, 2) := by decide +kernel
theorem dX9_standsUp_6 : decode cX9_standsUp 6 = .ok (.iload_n 1, 1) := by decide +kernel
theorem dX9_standsUp_7 : decode cX9_standsUp 7 = .ok (.iadd, 1) := by decide +kernel
theorem dX9_standsUp_8 : decode cX9_standsUp 8 = .ok (.iaload, 1) := by decide +kernel
theorem dX9_standsUp_9 : decode cX9_standsUp 9 = .ok (.istore_n 3, 1) := by decide +kernel
theorem dX9_standsUp_10 : decode cX9_standsUp 10 = .ok (.iload_n 3, 1) := by decide +kernel
theorem dX9_standsUp_59 : decode cX9_standsUp 59 = .ok (.istore 4, 2) := by decide +kernel
theorem dX9_standsUp_61 : decode cX9_standsUp 61 = .ok (.aload_n 0, 1) := by decide +kernel
theorem dX9_standsUp_62 : decode cX9_standsUp 62 = .ok (.getfield 16, 3) := by decide +kernel
theorem dX9_standsUp_65 : decode cX9_standsUp 65 = .ok (.iconst 2, 1) := by decide +kernel
theorem dX9_standsUp_66 : decode cX9_standsUp 66 = .ok (.iload_n 1, 1) := by decide +kernel
theorem dX9_standsUp_67 : decode cX9_standsUp 67 = .ok (.iadd, 1) := by decide +kernel
theorem dX9_standsUp_68 : decode cX9_standsUp 68 = .ok (.iaload, 1) := by decide +kernel
theorem dX9_standsUp_69 : decode cX9_standsUp 69 = .ok (.iconst 1, 1) := by decide +kernel
theorem dX9_standsUp_89 : decode cX9_standsUp 89 = .ok (.istore 5, 2) := by decide +kernel
theorem dX9_standsUp_91 : decode cX9_standsUp 91 = .ok (.aload_n 0, 1) := by decide +kernel
theorem dX9_standsUp_92 : decode cX9_standsUp 92 = .ok (.iload_n 1, 1) := by decide +kernel
theorem dX9_standsUp_93 : decode cX9_standsUp 93 = .ok (.iload_n 1, 1) := by decide +kernel
theorem dX9_standsUp_94 : decode cX9_standsUp 94 = .ok (.iload_n 2, 1) := by decide +kernel
theorem dX9_standsUp_95 : decode cX9_standsUp 95 = .ok (.invokevirtual 273, 3) := by decide +kernel
theorem dX9_standsUp_98 : decode cX9_standsUp 98 = .ok (.aload_n 0, 1) := by decide +kernel
theorem dX9_standsUp_99 : decode cX9_standsUp 99 = .ok (.getfield 78, 3) := by decide +kernel
theorem dX9_standsUp_102 : decode cX9_standsUp 102 = .ok (.iload_n 1, 1) := by decide +kernel
theorem dX9_standsUp_103 : decode cX9_standsUp 103 = .ok (.iload_n 3, 1) := by decide +kernel
theorem dX9_standsUp_104 : decode cX9_standsUp 104 = .ok (.iconst 1, 1) := by decide +kernel
theorem dX9_standsUp_130 : decode cX9_standsUp 130 = .ok (.iastore, 1) := by decide +kernel
theorem dX9_standsUp_131 : decode cX9_standsUp 131 = .ok (.aload_n 0, 1) := by decide +kernel
theorem dX9_standsUp_132 : decode cX9_standsUp 132 = .ok (.getfield 81, 3) := by decide +kernel
theorem dX9_standsUp_135 : decode cX9_standsUp 135 = .ok (.iload_n 1, 1) := by decide +kernel
theorem dX9_standsUp_136 : decode cX9_standsUp 136 = .ok (.iload_n 3, 1) := by decide +kernel
theorem dX9_standsUp_162 : decode cX9_standsUp 162 = .ok (.iastore, 1) := by decide +kernel
theorem dX9_standsUp_163 : decode cX9_standsUp 163 = .ok (.aload_n 0, 1) := by decide +kernel
theorem dX9_standsUp_164 : decode cX9_standsUp 164 = .ok (.getfield 84, 3) := by decide +kernel
theorem dX9_standsUp_167 : decode cX9_standsUp 167 = .ok (.iload_n 1, 1) := by decide +kernel
theorem dX9_standsUp_168 : decode cX9_standsUp 168 = .ok (.aload_n 0, 1) := by decide +kernel
theorem dX9_standsUp_169 : decode cX9_standsUp 169 = .ok (.getfield 16, 3) := by decide +kernel
theorem dX9_standsUp_172 : decode cX9_standsUp 172 = .ok (.iconst 2, 1) := by decide +kernel
theorem dX9_standsUp_173 : decode cX9_standsUp 173 = .ok (.iload_n 1, 1) := by decide +kernel
theorem dX9_standsUp_174 : decode cX9_standsUp 174 = .ok (.iadd, 1) := by decide +kernel
theorem dX9_standsUp_175 : decode cX9_standsUp 175 = .ok (.iaload, 1) := by decide +kernel
theorem dX9_standsUp_176 : decode cX9_standsUp 176 = .ok (.iconst 1, 1) := by decide +kernel
theorem dX9_standsUp_188 : decode cX9_standsUp 188 = .ok (.iastore, 1) := by decide +kernel
theorem dX9_standsUp_189 : decode cX9_standsUp 189 = .ok (.iload_n 3, 1) := by decide +kernel
theorem dX9_standsUp_190 : decode cX9_standsUp 190 = .ok (.iconst 1, 1) := by decide +kernel
theorem dX9_standsUp_191 : decode cX9_standsUp 191 = .ok (.if_icmp .le 19, 3) := by decide +kernel
theorem dX9_standsUp_210 : decode cX9_standsUp 210 = .ok (.return_, 1) := by decide +kernel
theorem dX9_standsUp_194 : decode cX9_standsUp 194 = .ok (.aload_n 0, 1) := by decide +kernel
theorem dX9_standsUp_195 : decode cX9_standsUp 195 = .ok (.iload_n 1, 1) := by decide +kernel
theorem dX9_standsUp_196 : decode cX9_standsUp 196 = .ok (.iload 5, 2) := by decide +kernel
theorem dX9_standsUp_198 : decode cX9_standsUp 198 = .ok (.aload_n 0, 1) := by decide +kernel
theorem dX9_standsUp_199 : decode cX9_standsUp 199 = .ok (.getfield 7, 3) := by decide +kernel
theorem dX9_standsUp_202 : decode cX9_standsUp 202 = .ok (.bipush 49, 2) := by decide +kernel
theorem dX9_standsUp_204 : decode cX9_standsUp 204 = .ok (.iload_n 1, 1) := by decide +kernel
theorem dX9_standsUp_205 : decode cX9_standsUp 205 = .ok (.iadd, 1) := by decide +kernel
theorem dX9_standsUp_206 : decode cX9_standsUp 206 = .ok (.iaload, 1) := by decide +kernel
theorem dX9_standsUp_207 : decode cX9_standsUp 207 = .ok (.invokevirtual 264, 3) := by decide +kernel
theorem dX9_standsUp_177 : decode cX9_standsUp 177 = .ok (.if_icmp .ne 9, 3) := by decide +kernel
theorem dX9_standsUp_186 : decode cX9_standsUp 186 = .ok (.iload 4, 2) := by decide +kernel
theorem dX9_standsUp_180 : decode cX9_standsUp 180 = .ok (.iload 4, 2) := by decide +kernel
theorem dX9_standsUp_182 : decode cX9_standsUp 182 = .ok (.ineg, 1) := by decide +kernel
theorem dX9_standsUp_183 : decode cX9_standsUp 183 = .ok (.goto 5, 3) := by decide +kernel
theorem dX9_standsUp_137 : decode cX9_standsUp 137 = .ok (.ifCond .ne 8, 3) := by decide +kernel
theorem dX9_standsUp_145 : decode cX9_standsUp 145 = .ok (.iload_n 3, 1) := by decide +kernel
theorem dX9_standsUp_146 : decode cX9_standsUp 146 = .ok (.iconst 2, 1) := by decide +kernel
theorem dX9_standsUp_147 : decode cX9_standsUp 147 = .ok (.if_icmp .ne 9, 3) := by decide +kernel
theorem dX9_standsUp_156 : decode cX9_standsUp 156 = .ok (.aload_n 0, 1) := by decide +kernel
theorem dX9_standsUp_157 : decode cX9_standsUp 157 = .ok (.getfield 81, 3) := by decide +kernel
theorem dX9_standsUp_160 : decode cX9_standsUp 160 = .ok (.iload_n 2, 1) := by decide +kernel
theorem dX9_standsUp_161 : decode cX9_standsUp 161 = .ok (.iaload, 1) := by decide +kernel
theorem dX9_standsUp_150 : decode cX9_standsUp 150 = .ok (.iload 5, 2) := by decide +kernel
theorem dX9_standsUp_152 : decode cX9_standsUp 152 = .ok (.ineg, 1) := by decide +kernel
theorem dX9_standsUp_153 : decode cX9_standsUp 153 = .ok (.goto 9, 3) := by decide +kernel
theorem dX9_standsUp_140 : decode cX9_standsUp 140 = .ok (.iload 5, 2) := by decide +kernel
theorem dX9_standsUp_142 : decode cX9_standsUp 142 = .ok (.goto 20, 3) := by decide +kernel
theorem dX9_standsUp_105 : decode cX9_standsUp 105 = .ok (.if_icmp .ne 8, 3) := by decide +kernel
theorem dX9_standsUp_113 : decode cX9_standsUp 113 = .ok (.iload_n 3, 1) := by decide +kernel
theorem dX9_standsUp_114 : decode cX9_standsUp 114 = .ok (.iconst 3, 1) := by decide +kernel
theorem dX9_standsUp_115 : decode cX9_standsUp 115 = .ok (.if_icmp .ne 9, 3) := by decide +kernel
theorem dX9_standsUp_124 : decode cX9_standsUp 124 = .ok (.aload_n 0, 1) := by decide +kernel
theorem dX9_standsUp_125 : decode cX9_standsUp 125 = .ok (.getfield 78, 3) := by decide +kernel
theorem dX9_standsUp_128 : decode cX9_standsUp 128 = .ok (.iload_n 2, 1) := by decide +kernel
theorem dX9_standsUp_129 : decode cX9_standsUp 129 = .ok (.iaload, 1) := by decide +kernel
theorem dX9_standsUp_118 : decode cX9_standsUp 118 = .ok (.iload 5, 2) := by decide +kernel
theorem dX9_standsUp_120 : decode cX9_standsUp 120 = .ok (.ineg, 1) := by decide +kernel
theorem dX9_standsUp_121 : decode cX9_standsUp 121 = .ok (.goto 9, 3) := by decide +kernel
theorem dX9_standsUp_108 : decode cX9_standsUp 108 = .ok (.iload 5, 2) := by decide +kernel
theorem dX9_standsUp_110 : decode cX9_standsUp 110 = .ok (.goto 20, 3) := by decide +kernel
theorem dX9_standsUp_70 : decode cX9_standsUp 70 = .ok (.if_icmp .ne 12, 3) := by decide +kernel
theorem dX9_standsUp_82 : decode cX9_standsUp 82 = .ok (.aload_n 0, 1) := by decide +kernel
theorem dX9_standsUp_83 : decode cX9_standsUp 83 = .ok (.getfield 84, 3) := by decide +kernel
theorem dX9_standsUp_86 : decode cX9_standsUp 86 = .ok (.iload_n 2, 1) := by decide +kernel
theorem dX9_standsUp_87 : decode cX9_standsUp 87 = .ok (.iaload, 1) := by decide +kernel
theorem dX9_standsUp_88 : decode cX9_standsUp 88 = .ok (.ineg, 1) := by decide +kernel
theorem dX9_standsUp_73 : decode cX9_standsUp 73 = .ok (.aload_n 0, 1) := by decide +kernel
theorem dX9_standsUp_74 : decode cX9_standsUp 74 = .ok (.getfield 84, 3) := by decide +kernel
theorem dX9_standsUp_77 : decode cX9_standsUp 77 = .ok (.iload_n 2, 1) := by decide +kernel
theorem dX9_standsUp_78 : decode cX9_standsUp 78 = .ok (.iaload, 1) := by decide +kernel
theorem dX9_standsUp_79 : decode cX9_standsUp 79 = .ok (.goto 10, 3) := by decide +kernel
theorem dX9_standsUp_11 : decode cX9_standsUp 11 = .ok (.ifCond .ne 12, 3) := by decide +kernel
theorem dX9_standsUp_23 : decode cX9_standsUp 23 = .ok (.iload_n 3, 1) := by decide +kernel
theorem dX9_standsUp_24 : decode cX9_standsUp 24 = .ok (.iconst 1, 1) := by decide +kernel
theorem dX9_standsUp_25 : decode cX9_standsUp 25 = .ok (.if_icmp .ne 12, 3) := by decide +kernel
theorem dX9_standsUp_37 : decode cX9_standsUp 37 = .ok (.iload_n 3, 1) := by decide +kernel
theorem dX9_standsUp_38 : decode cX9_standsUp 38 = .ok (.iconst 2, 1) := by decide +kernel
theorem dX9_standsUp_39 : decode cX9_standsUp 39 = .ok (.if_icmp .ne 13, 3) := by decide +kernel
theorem dX9_standsUp_52 : decode cX9_standsUp 52 = .ok (.aload_n 0, 1) := by decide +kernel
theorem dX9_standsUp_53 : decode cX9_standsUp 53 = .ok (.getfield 78, 3) := by decide +kernel
theorem dX9_standsUp_56 : decode cX9_standsUp 56 = .ok (.iload_n 2, 1) := by decide +kernel
theorem dX9_standsUp_57 : decode cX9_standsUp 57 = .ok (.iaload, 1) := by decide +kernel
theorem dX9_standsUp_58 : decode cX9_standsUp 58 = .ok (.ineg, 1) := by decide +kernel
theorem dX9_standsUp_42 : decode cX9_standsUp 42 = .ok (.aload_n 0, 1) := by decide +kernel
theorem dX9_standsUp_43 : decode cX9_standsUp 43 = .ok (.getfield 81, 3) := by decide +kernel
theorem dX9_standsUp_46 : decode cX9_standsUp 46 = .ok (.iload_n 2, 1) := by decide +kernel
theorem dX9_standsUp_47 : decode cX9_standsUp 47 = .ok (.iaload, 1) := by decide +kernel
theorem dX9_standsUp_48 : decode cX9_standsUp 48 = .ok (.ineg, 1) := by decide +kernel
theorem dX9_standsUp_49 : decode cX9_standsUp 49 = .ok (.goto 10, 3) := by decide +kernel
theorem dX9_standsUp_28 : decode cX9_standsUp 28 = .ok (.aload_n 0, 1) := by decide +kernel
theorem dX9_standsUp_29 : decode cX9_standsUp 29 = .ok (.getfield 78, 3) := by decide +kernel
theorem dX9_standsUp_32 : decode cX9_standsUp 32 = .ok (.iload_n 2, 1) := by decide +kernel
theorem dX9_standsUp_33 : decode cX9_standsUp 33 = .ok (.iaload, 1) := by decide +kernel
theorem dX9_standsUp_34 : decode cX9_standsUp 34 = .ok (.goto 25, 3) := by decide +kernel
theorem dX9_standsUp_14 : decode cX9_standsUp 14 = .ok (.aload_n 0, 1) := by decide +kernel
theorem dX9_standsUp_15 : decode cX9_standsUp 15 = .ok (.getfield 81, 3) := by decide +kernel
theorem dX9_standsUp_18 : decode cX9_standsUp 18 = .ok (.iload_n 2, 1) := by decide +kernel
theorem dX9_standsUp_19 : decode cX9_standsUp 19 = .ok (.iaload, 1) := by decide +kernel
theorem dX9_standsUp_20 : decode cX9_standsUp 20 = .ok (.goto 39, 3) := by decide +kernel
abbrev rm_kX9_standsUp : Room := { frames := 3, cells := 0, slots := 0, locals := 68 }
set_option maxHeartbeats 4000000 in
set_option maxRecDepth 100000 in
theorem kX9_standsUp (l : Launch) (g : zL) (h0 : Nat) (x1 : Int32) (x2 : Int32) (h0_told : Nat) (h0_read : Nat) (h0_now : Nat) (h0_readNow : Nat) (h0_kept : Nat) (h0_undone : Int32) (h0_seed : Int32) (h0_hasPart : Int32) (h0_tape : Nat) (h0_taped : Int32) (h0_refused : Nat) (h0_faultKind : Int32) (h0_faultPlace : Int32) (h0_size : Int32) (h0_at : Int32) (h0_from : Int32) (h0_wrong : Int32) (h0_wrongAt : Int32) (h0_ownLetters : Nat) (h0_flats : Nat) (h0_isLaid : Int32) (h0_corner : Nat) (h0_wayX : Nat) (h0_wayY : Nat) (h0_normal : Nat) (h0_low : Nat) (h0_high : Nat) (h0_clear : Nat) (h0_ways : Nat) (h0_canBe : Nat) (h0_lain : Nat) (h0_canTool : Int32) (h0_fewestBy : Nat) (h0_sortOf : Nat) (h0_rows : Int32) (h0_seenFlange : Nat) (h0_seenLength : Nat) (f_h0_wayX : Nat → Int32) (f_h0_wayY : Nat → Int32) (f_h0_normal : Nat → Int32) (f_h0_told : Nat → Int32) (h0_told_3 : Int32) (h0_told_4 : Int32) (f_h0_now : Nat → Int32) (h0_now_0 : Int32) (f_h0_corner : Nat → Int32) (hy0 : 1 ≤ x1.toInt ∧ x1.toInt ≤ 8) (hy1 : 0 ≤ x2.toInt ∧ x2.toInt ≤ 8) (hy2 : 0 ≤ h0_undone.toInt ∧ h0_undone.toInt ≤ 20) (hy3 : 0 ≤ h0_seed.toInt ∧ h0_seed.toInt ≤ 2147483647) (hy4 : 0 ≤ h0_hasPart.toInt ∧ h0_hasPart.toInt ≤ 1) (hy5 : 0 ≤ h0_taped.toInt ∧ h0_taped.toInt ≤ 1200) (hy6 : 0 ≤ h0_faultKind.toInt ∧ h0_faultKind.toInt ≤ 5) (hy7 : 0 ≤ h0_size.toInt ∧ h0_size.toInt ≤ 1200) (hy8 : 0 ≤ h0_at.toInt ∧ h0_at.toInt ≤ 1200) (hy9 : 0 ≤ h0_from.toInt ∧ h0_from.toInt ≤ 1200) (hy10 : 0 ≤ h0_wrong.toInt ∧ h0_wrong.toInt ≤ 5) (hy11 : 0 ≤ h0_isLaid.toInt ∧ h0_isLaid.toInt ≤ 1) (hy12 : 0 ≤ h0_canTool.toInt ∧ h0_canTool.toInt ≤ 255) (hy13 : 0 ≤ h0_rows.toInt ∧ h0_rows.toInt ≤ 8) (hy14 : aI (-3) 3 f_h0_wayX) (hy15 : aI (-3) 3 f_h0_wayY) (hy16 : aI (-3) 3 f_h0_normal) (hy17 : pW mB f_h0_told) (hy18 : 0 ≤ h0_told_3.toInt ∧ h0_told_3.toInt ≤ 9) (hy19 : cEq f_h0_told 3 h0_told_3) (hy20 : 0 ≤ h0_told_4.toInt ∧ h0_told_4.toInt ≤ 8) (hy21 : cEq f_h0_told 4 h0_told_4) (hy22 : pW nB f_h0_now) (hy23 : 0 ≤ h0_now_0.toInt ∧ h0_now_0.toInt ≤ 255) (hy24 : cEq f_h0_now 0 h0_now_0) (hy25 : x2.toInt < x1.toInt) (hy26 : pNz x1 f_h0_wayX f_h0_wayY f_h0_normal) (hy27 : ((h0_hasPart.toInt = 0 ∧ h0_told_3.toInt = 0) ∨ (h0_hasPart.toInt = 1 ∧ 1 ≤ h0_told_3.toInt))) : zCv l g yX9_standsUp cX9_standsUp 6 none rm_kX9_standsUp [.ref h0, .int x1, .int x2] [(h0, .inr (9, [.ref h0_told, .ref h0_read, .ref h0_now, .ref h0_readNow, .ref h0_kept, .int h0_undone, .int h0_seed, .int h0_hasPart, .ref h0_tape, .int h0_taped, .ref h0_refused, .int h0_faultKind, .int h0_faultPlace, .int h0_size, .int h0_at, .int h0_from, .int h0_wrong, .int h0_wrongAt, .ref h0_ownLetters, .ref h0_flats, .int h0_isLaid, .ref h0_corner, .ref h0_wayX, .ref h0_wayY, .ref h0_normal, .ref h0_low, .ref h0_high, .ref h0_clear, .ref h0_ways, .ref h0_canBe, .ref h0_lain, .int h0_canTool, .ref h0_fewestBy, .ref h0_sortOf, .int h0_rows, .ref h0_seenFlange, .ref h0_seenLength])), (h0_wayX, .inl (g.2.1.1, 10, .inl f_h0_wayX)), (h0_wayY, .inl (g.2.1.1, 10, .inl f_h0_wayY)), (h0_normal, .inl (g.2.1.1, 10, .inl f_h0_normal)), (h0_told, .inl (g.2.1.1, 103, .inl f_h0_told)), (h0_now, .inl (g.2.1.1, 21, .inl f_h0_now)), (h0_corner, .inl (g.2.1.1, 30, .inl f_h0_corner))] (fun (u : (Nat → Int32) × (Nat → Int32) × (Nat → Int32) × (Nat → Int32)) => (aI (-3) 3 u.1) ∧ (aI (-3) 3 u.2.1) ∧ (aI (-3) 3 u.2.2.1) ∧ (pNs x1 u.1 u.2.1 u.2.2.1)) (fun (u : (Nat → Int32) × (Nat → Int32) × (Nat → Int32) × (Nat → Int32)) => [(h0, .inr (9, [.ref h0_told, .ref h0_read, .ref h0_now, .ref h0_readNow, .ref h0_kept, .int h0_undone, .int h0_seed, .int h0_hasPart, .ref h0_tape, .int h0_taped, .ref h0_refused, .int h0_faultKind, .int h0_faultPlace, .int h0_size, .int h0_at, .int h0_from, .int h0_wrong, .int h0_wrongAt, .ref h0_ownLetters, .ref h0_flats, .int h0_isLaid, .ref h0_corner, .ref h0_wayX, .ref h0_wayY, .ref h0_normal, .ref h0_low, .ref h0_high, .ref h0_clear, .ref h0_ways, .ref h0_canBe, .ref h0_lain, .int h0_canTool, .ref h0_fewestBy, .ref h0_sortOf, .int h0_rows, .ref h0_seenFlange, .ref h0_seenLength])), (h0_wayX, .inl (g.2.1.1, 10, .inl u.1)), (h0_wayY, .inl (g.2.1.1, 10, .inl u.2.1)), (h0_normal, .inl (g.2.1.1, 10, .inl u.2.2.1)), (h0_told, .inl (g.2.1.1, 103, .inl f_h0_told)), (h0_now, .inl (g.2.1.1, 21, .inl f_h0_now)), (h0_corner, .inl (g.2.1.1, 30, .inl u.2.2.2))]) := by
  refine zCv.mk2 (by decide) (Nat.le_of_ble_eq_true rfl) ?_
  intro p e s m below meth c A args Q hE hret hP hD hS ls hl
  obtain ⟨hx, hb, hr, hml, hown, hG, hlocks, hnm, hX, hA⟩ := hE
  have hown : s.vm.findClass RX9 = some m.cls := hown
  have hl : lv_has ls 6 [(0, .ref h0), (1, .int x1), (2, .int x2)] := hl
  refine lv_aload_n hx hb dX9_standsUp_0 rfl (lv_at hl 0 rfl) ?_
  refine va_get (D := g.1) (ci := 9) (v := .ref h0_told) (C := RX9) (T := TX9) (N := 37) hx hb hG iX9 hown hX.1 hP 0 rfl rfl 0 (by decide) (hG _ wf_X9_7) (fun _ h9 => h9) rfl dX9_standsUp_1 ?_
  refine lv_bipush (v := 22) hx hb dX9_standsUp_4 (by decide) ?_
  refine lv_iload_n hx hb dX9_standsUp_6 rfl (lv_at hl 1 rfl) ?_
  refine lv_iadd hx hb dX9_standsUp_7 ?_
  refine lv_topi (fun z1 e2 => ?_)
  have f3 : z1.toInt = (22 : Int) + x1.toInt := za e2 (show (22 : Int32).toInt = (22 : Int) from by decide) (rfl : x1.toInt = _) (om_405 hy0)
  refine va_iald hx hb hX.1 hP 4 0 rfl rfl (zin (rfl : z1.toInt = _) (om_406 f3 hy0)) dX9_standsUp_8 ?_
  refine lv_topi (fun z4 e5 => ?_)
  have f6 : 0 ≤ z4.toInt ∧ z4.toInt ≤ 3 := ((hy17.at e5 (rfl : z1.toInt = _) (om_171 f3 hy0)).2.2.2.1).resolve_left (fun q9 => q9 (om_407 f3 hy0))
  refine lv_istore_n (lv' := [(3, .int z4), (0, .ref h0), (1, .int x1), (2, .int x2)]) hx hb dX9_standsUp_9 rfl hl (by decide) rfl (fun ls hl => ?_)
  refine lv_iload_n hx hb dX9_standsUp_10 rfl (lv_at hl 0 rfl) ?_
  have J33 : ∀  (v32 : Int32) (H : Heap) (locs : List Loc) (ls : Array Slot), (-3) ≤ v32.toInt ∧ v32.toInt ≤ 3 → ¬ v32.toInt = 0 → va_P g.1 vwCl [(h0, .inr (9, [.ref h0_told, .ref h0_read, .ref h0_now, .ref h0_readNow, .ref h0_kept, .int h0_undone, .int h0_seed, .int h0_hasPart, .ref h0_tape, .int h0_taped, .ref h0_refused, .int h0_faultKind, .int h0_faultPlace, .int h0_size, .int h0_at, .int h0_from, .int h0_wrong, .int h0_wrongAt, .ref h0_ownLetters, .ref h0_flats, .int h0_isLaid, .ref h0_corner, .ref h0_wayX, .ref h0_wayY, .ref h0_normal, .ref h0_low, .ref h0_high, .ref h0_clear, .ref h0_ways, .ref h0_canBe, .ref h0_lain, .int h0_canTool, .ref h0_fewestBy, .ref h0_sortOf, .int h0_rows, .ref h0_seenFlange, .ref h0_seenLength])), (h0_wayX, .inl (g.2.1.1, 10, .inl f_h0_wayX)), (h0_wayY, .inl (g.2.1.1, 10, .inl f_h0_wayY)), (h0_normal, .inl (g.2.1.1, 10, .inl f_h0_normal)), (h0_told, .inl (g.2.1.1, 103, .inl f_h0_told)), (h0_now, .inl (g.2.1.1, 21, .inl f_h0_now)), (h0_corner, .inl (g.2.1.1, 30, .inl f_h0_corner))] H → va_D A [(h0, .inr (9, [.ref h0_told, .ref h0_read, .ref h0_now, .ref h0_readNow, .ref h0_kept, .int h0_undone, .int h0_seed, .int h0_hasPart, .ref h0_tape, .int h0_taped, .ref h0_refused, .int h0_faultKind, .int h0_faultPlace, .int h0_size, .int h0_at, .int h0_from, .int h0_wrong, .int h0_wrongAt, .ref h0_ownLetters, .ref h0_flats, .int h0_isLaid, .ref h0_corner, .ref h0_wayX, .ref h0_wayY, .ref h0_normal, .ref h0_low, .ref h0_high, .ref h0_clear, .ref h0_ways, .ref h0_canBe, .ref h0_lain, .int h0_canTool, .ref h0_fewestBy, .ref h0_sortOf, .int h0_rows, .ref h0_seenFlange, .ref h0_seenLength])), (h0_wayX, .inl (g.2.1.1, 10, .inl f_h0_wayX)), (h0_wayY, .inl (g.2.1.1, 10, .inl f_h0_wayY)), (h0_normal, .inl (g.2.1.1, 10, .inl f_h0_normal)), (h0_told, .inl (g.2.1.1, 103, .inl f_h0_told)), (h0_now, .inl (g.2.1.1, 21, .inl f_h0_now)), (h0_corner, .inl (g.2.1.1, 30, .inl f_h0_corner))] → va_S A s.heap H locs → lv_has ls 6 [(0, .ref h0), (1, .int x1), (2, .int x2), (3, .int z4)] → W p l e rm_kX9_standsUp s m args below meth c H locs 0 0 Q (F0 m 59 ls [.int v32]) := by
    intro v32 H locs ls i34 v35 hP hD hS hl
    refine lv_istore (lv' := [(4, .int v32), (0, .ref h0), (1, .int x1), (2, .int x2), (3, .int z4)]) hx hb dX9_standsUp_59 hl (by decide) rfl (fun ls hl => ?_)
    refine lv_aload_n hx hb dX9_standsUp_61 rfl (lv_at hl 1 rfl) ?_
    refine va_get (D := g.1) (ci := 9) (v := .ref h0_now) (C := RX9) (T := TX9) (N := 37) hx hb hG iX9 hown hX.1 hP 0 rfl rfl 2 (by decide) (hG _ wf_X9_16) (fun _ h9 => h9) rfl dX9_standsUp_62 ?_
    refine lv_iconst (v := 2) hx hb dX9_standsUp_65 (by decide) ?_
    refine lv_iload_n hx hb dX9_standsUp_66 rfl (lv_at hl 2 rfl) ?_
    refine lv_iadd hx hb dX9_standsUp_67 ?_
    refine lv_topi (fun z36 e37 => ?_)
    have f38 : z36.toInt = (2 : Int) + x1.toInt := za e37 (show (2 : Int32).toInt = (2 : Int) from by decide) (rfl : x1.toInt = _) (om_522 hy0)
    refine va_iald hx hb hX.1 hP 5 0 rfl rfl (zin (rfl : z36.toInt = _) (om_523 f38 hy0)) dX9_standsUp_68 ?_
    refine lv_topi (fun z39 e40 => ?_)
    have f41 : 0 ≤ z39.toInt ∧ z39.toInt ≤ 1 := ((hy22.at e40 (rfl : z36.toInt = _) (om_524 f38 hy0)).2).resolve_left (fun q9 => q9 (om_525 f38 hy0))
    refine lv_iconst (v := 1) hx hb dX9_standsUp_69 (by decide) ?_
    have J55 : ∀  (v54 : Int32) (H : Heap) (locs : List Loc) (ls : Array Slot), (-3) ≤ v54.toInt ∧ v54.toInt ≤ 3 → ¬ v54.toInt = 0 → va_P g.1 vwCl [(h0, .inr (9, [.ref h0_told, .ref h0_read, .ref h0_now, .ref h0_readNow, .ref h0_kept, .int h0_undone, .int h0_seed, .int h0_hasPart, .ref h0_tape, .int h0_taped, .ref h0_refused, .int h0_faultKind, .int h0_faultPlace, .int h0_size, .int h0_at, .int h0_from, .int h0_wrong, .int h0_wrongAt, .ref h0_ownLetters, .ref h0_flats, .int h0_isLaid, .ref h0_corner, .ref h0_wayX, .ref h0_wayY, .ref h0_normal, .ref h0_low, .ref h0_high, .ref h0_clear, .ref h0_ways, .ref h0_canBe, .ref h0_lain, .int h0_canTool, .ref h0_fewestBy, .ref h0_sortOf, .int h0_rows, .ref h0_seenFlange, .ref h0_seenLength])), (h0_wayX, .inl (g.2.1.1, 10, .inl f_h0_wayX)), (h0_wayY, .inl (g.2.1.1, 10, .inl f_h0_wayY)), (h0_normal, .inl (g.2.1.1, 10, .inl f_h0_normal)), (h0_told, .inl (g.2.1.1, 103, .inl f_h0_told)), (h0_now, .inl (g.2.1.1, 21, .inl f_h0_now)), (h0_corner, .inl (g.2.1.1, 30, .inl f_h0_corner))] H → va_D A [(h0, .inr (9, [.ref h0_told, .ref h0_read, .ref h0_now, .ref h0_readNow, .ref h0_kept, .int h0_undone, .int h0_seed, .int h0_hasPart, .ref h0_tape, .int h0_taped, .ref h0_refused, .int h0_faultKind, .int h0_faultPlace, .int h0_size, .int h0_at, .int h0_from, .int h0_wrong, .int h0_wrongAt, .ref h0_ownLetters, .ref h0_flats, .int h0_isLaid, .ref h0_corner, .ref h0_wayX, .ref h0_wayY, .ref h0_normal, .ref h0_low, .ref h0_high, .ref h0_clear, .ref h0_ways, .ref h0_canBe, .ref h0_lain, .int h0_canTool, .ref h0_fewestBy, .ref h0_sortOf, .int h0_rows, .ref h0_seenFlange, .ref h0_seenLength])), (h0_wayX, .inl (g.2.1.1, 10, .inl f_h0_wayX)), (h0_wayY, .inl (g.2.1.1, 10, .inl f_h0_wayY)), (h0_normal, .inl (g.2.1.1, 10, .inl f_h0_normal)), (h0_told, .inl (g.2.1.1, 103, .inl f_h0_told)), (h0_now, .inl (g.2.1.1, 21, .inl f_h0_now)), (h0_corner, .inl (g.2.1.1, 30, .inl f_h0_corner))] → va_S A s.heap H locs → lv_has ls 6 [(0, .ref h0), (1, .int x1), (2, .int x2), (3, .int z4), (4, .int v32)] → W p l e rm_kX9_standsUp s m args below meth c H locs 0 0 Q (F0 m 89 ls [.int v54]) := by
      intro v54 H locs ls i56 v57 hP hD hS hl
      refine lv_istore (lv' := [(5, .int v54), (0, .ref h0), (1, .int x1), (2, .int x2), (3, .int z4), (4, .int v32)]) hx hb dX9_standsUp_89 hl (by decide) rfl (fun ls hl => ?_)
      refine lv_aload_n hx hb dX9_standsUp_91 rfl (lv_at hl 1 rfl) ?_
      refine lv_iload_n hx hb dX9_standsUp_92 rfl (lv_at hl 2 rfl) ?_
      refine lv_iload_n hx hb dX9_standsUp_93 rfl (lv_at hl 2 rfl) ?_
      refine lv_iload_n hx hb dX9_standsUp_94 rfl (lv_at hl 3 rfl) ?_
      refine zfv (wr := [(h0_normal, .inl (g.2.1.1, 10, .inl f_h0_normal)), (h0_now, .inl (g.2.1.1, 21, .inl f_h0_now))]) (va_runV (As := [.int x1, .int x1, .int x2]) (rest := []) ⟨hx, hb, hml, hown, hG⟩ (kX9_goesToSide l g h0 x1 x1 x2 h0_told h0_read h0_now h0_readNow h0_kept h0_undone h0_seed h0_hasPart h0_tape h0_taped h0_refused h0_faultKind h0_faultPlace h0_size h0_at h0_from h0_wrong h0_wrongAt h0_ownLetters h0_flats h0_isLaid h0_corner h0_wayX h0_wayY h0_normal h0_low h0_high h0_clear h0_ways h0_canBe h0_lain h0_canTool h0_fewestBy h0_sortOf h0_rows h0_seenFlange h0_seenLength f_h0_wayX f_h0_wayY f_h0_told h0_told_3 h0_told_4 f_h0_corner (om_504 hy0) (om_526 hy0) (om_505 hy0 hy1 hy25) (om_27 hy2) (om_28 hy3) (om_29 hy4) (om_32 hy5) (om_31 hy6) (om_32 hy7) (om_32 hy8) (om_32 hy9) (om_31 hy10) (om_29 hy11) (om_13 hy12) (om_33 hy13) hy14 hy15 hy17 (om_155 hy18) hy19 (om_33 hy20) hy21 (pAx.ofx hy26 (rfl : x2.toInt = _) (rfl : x1.toInt = _) (om_507 hy1 hy25)) (pAx.ofy hy26 (rfl : x2.toInt = _) (rfl : x1.toInt = _) (om_507 hy1 hy25)) (om_331 hy18 hy27 hy4) _) ⟨callB_of 3 hG (zGood wc_X9_goesToSide) rfl rfl rfl (hG _ wini_X9) (hG _ wm_X9_273) hX9_goesToSide ⟨Nat.le_of_ble_eq_true rfl, Nat.le_of_ble_eq_true rfl⟩, hG _ wi_X9_goesToSide, hG _ wse_X9_X9_goesToSide⟩ (zpreV (va_recv hX.1 hP (ci := 9) (q0 := 0) rfl rfl) hX hP hD hS hA [0, 1, 2, 4, 6] rfl (by decide)) rfl rfl hl.1 rfl (lv_room (Nat.le_of_ble_eq_true rfl)) dX9_standsUp_95 ⟨Nat.le_of_ble_eq_true rfl, Nat.le_of_ble_eq_true rfl⟩) hP hD hS hA [0, 1, 2, 4, 6] [3, 5] rfl rfl (by decide) (by decide) (fun u59 H locs hp hP hD hS => ?_)
      refine W.cs (cells' := 0) (slots' := 0) rfl rfl ?_
      obtain ⟨f60, rfl⟩ : ∃ z9, z9 = u59 := ⟨_, rfl⟩
      have hP : va_P g.1 vwCl [(h0_normal, .inl (g.2.1.1, 10, .inl f_h0_normal)), (h0_now, .inl (g.2.1.1, 21, .inl f_h0_now)), (h0, .inr (9, [.ref h0_told, .ref h0_read, .ref h0_now, .ref h0_readNow, .ref h0_kept, .int h0_undone, .int h0_seed, .int h0_hasPart, .ref h0_tape, .int h0_taped, .ref h0_refused, .int h0_faultKind, .int h0_faultPlace, .int h0_size, .int h0_at, .int h0_from, .int h0_wrong, .int h0_wrongAt, .ref h0_ownLetters, .ref h0_flats, .int h0_isLaid, .ref h0_corner, .ref h0_wayX, .ref h0_wayY, .ref h0_normal, .ref h0_low, .ref h0_high, .ref h0_clear, .ref h0_ways, .ref h0_canBe, .ref h0_lain, .int h0_canTool, .ref h0_fewestBy, .ref h0_sortOf, .int h0_rows, .ref h0_seenFlange, .ref h0_seenLength])), (h0_wayX, .inl (g.2.1.1, 10, .inl f_h0_wayX)), (h0_wayY, .inl (g.2.1.1, 10, .inl f_h0_wayY)), (h0_told, .inl (g.2.1.1, 103, .inl f_h0_told)), (h0_corner, .inl (g.2.1.1, 30, .inl f60))] H := hP
      have hD : va_D A [(h0_normal, .inl (g.2.1.1, 10, .inl f_h0_normal)), (h0_now, .inl (g.2.1.1, 21, .inl f_h0_now)), (h0, .inr (9, [.ref h0_told, .ref h0_read, .ref h0_now, .ref h0_readNow, .ref h0_kept, .int h0_undone, .int h0_seed, .int h0_hasPart, .ref h0_tape, .int h0_taped, .ref h0_refused, .int h0_faultKind, .int h0_faultPlace, .int h0_size, .int h0_at, .int h0_from, .int h0_wrong, .int h0_wrongAt, .ref h0_ownLetters, .ref h0_flats, .int h0_isLaid, .ref h0_corner, .ref h0_wayX, .ref h0_wayY, .ref h0_normal, .ref h0_low, .ref h0_high, .ref h0_clear, .ref h0_ways, .ref h0_canBe, .ref h0_lain, .int h0_canTool, .ref h0_fewestBy, .ref h0_sortOf, .int h0_rows, .ref h0_seenFlange, .ref h0_seenLength])), (h0_wayX, .inl (g.2.1.1, 10, .inl f_h0_wayX)), (h0_wayY, .inl (g.2.1.1, 10, .inl f_h0_wayY)), (h0_told, .inl (g.2.1.1, 103, .inl f_h0_told)), (h0_corner, .inl (g.2.1.1, 30, .inl f60))] := hD
      refine lv_aload_n hx hb dX9_standsUp_98 rfl (lv_at hl 1 rfl) ?_
      refine va_get (D := g.1) (ci := 9) (v := .ref h0_wayX) (C := RX9) (T := TX9) (N := 37) hx hb hG iX9 hown hX.1 hP 2 rfl rfl 22 (by decide) (hG _ wf_X9_78) (fun _ h9 => h9) rfl dX9_standsUp_99 ?_
      refine lv_iload_n hx hb dX9_standsUp_102 rfl (lv_at hl 2 rfl) ?_
      refine lv_iload_n hx hb dX9_standsUp_103 rfl (lv_at hl 4 rfl) ?_
      refine lv_iconst (v := 1) hx hb dX9_standsUp_104 (by decide) ?_
      have J71 : ∀  (v70 : Int32) (H : Heap) (locs : List Loc) (ls : Array Slot), (-3) ≤ v70.toInt ∧ v70.toInt ≤ 3 → ¬ v70.toInt = 0 → va_P g.1 vwCl [(h0_normal, .inl (g.2.1.1, 10, .inl f_h0_normal)), (h0_now, .inl (g.2.1.1, 21, .inl f_h0_now)), (h0, .inr (9, [.ref h0_told, .ref h0_read, .ref h0_now, .ref h0_readNow, .ref h0_kept, .int h0_undone, .int h0_seed, .int h0_hasPart, .ref h0_tape, .int h0_taped, .ref h0_refused, .int h0_faultKind, .int h0_faultPlace, .int h0_size, .int h0_at, .int h0_from, .int h0_wrong, .int h0_wrongAt, .ref h0_ownLetters, .ref h0_flats, .int h0_isLaid, .ref h0_corner, .ref h0_wayX, .ref h0_wayY, .ref h0_normal, .ref h0_low, .ref h0_high, .ref h0_clear, .ref h0_ways, .ref h0_canBe, .ref h0_lain, .int h0_canTool, .ref h0_fewestBy, .ref h0_sortOf, .int h0_rows, .ref h0_seenFlange, .ref h0_seenLength])), (h0_wayX, .inl (g.2.1.1, 10, .inl f_h0_wayX)), (h0_wayY, .inl (g.2.1.1, 10, .inl f_h0_wayY)), (h0_told, .inl (g.2.1.1, 103, .inl f_h0_told)), (h0_corner, .inl (g.2.1.1, 30, .inl f60))] H → va_D A [(h0_normal, .inl (g.2.1.1, 10, .inl f_h0_normal)), (h0_now, .inl (g.2.1.1, 21, .inl f_h0_now)), (h0, .inr (9, [.ref h0_told, .ref h0_read, .ref h0_now, .ref h0_readNow, .ref h0_kept, .int h0_undone, .int h0_seed, .int h0_hasPart, .ref h0_tape, .int h0_taped, .ref h0_refused, .int h0_faultKind, .int h0_faultPlace, .int h0_size, .int h0_at, .int h0_from, .int h0_wrong, .int h0_wrongAt, .ref h0_ownLetters, .ref h0_flats, .int h0_isLaid, .ref h0_corner, .ref h0_wayX, .ref h0_wayY, .ref h0_normal, .ref h0_low, .ref h0_high, .ref h0_clear, .ref h0_ways, .ref h0_canBe, .ref h0_lain, .int h0_canTool, .ref h0_fewestBy, .ref h0_sortOf, .int h0_rows, .ref h0_seenFlange, .ref h0_seenLength])), (h0_wayX, .inl (g.2.1.1, 10, .inl f_h0_wayX)), (h0_wayY, .inl (g.2.1.1, 10, .inl f_h0_wayY)), (h0_told, .inl (g.2.1.1, 103, .inl f_h0_told)), (h0_corner, .inl (g.2.1.1, 30, .inl f60))] → va_S A s.heap H locs → lv_has ls 6 [(0, .ref h0), (1, .int x1), (2, .int x2), (3, .int z4), (4, .int v32), (5, .int v54)] → W p l e rm_kX9_standsUp s m args below meth c H locs 0 0 Q (F0 m 130 ls [.int v70, .int x1, .ref h0_wayX]) := by
        intro v70 H locs ls i72 v73 hP hD hS hl
        refine va_iast hx hb hX.1 hP hD hS 3 0 rfl rfl (zin (rfl : x1.toInt = _) (om_508 hy0)) dX9_standsUp_130 (fun H locs hP hD hS => ?_)
        obtain ⟨f74, e75⟩ : ∃ z9 : Nat → Int32, z9 = upd f_h0_wayX x1.toNatClampNeg v70 := ⟨_, rfl⟩
        rw [← e75] at hP hD
        have hf76 : aI (-3) 3 f74 := hy14.up e75 (rfl : v70.toInt = _) (om_509 i72)
        have hc77 : pNz x1 f74 f_h0_wayY f_h0_normal := pNz.ux hy26 e75 (rfl : x1.toInt = _) (rfl : x1.toInt = _) (om_510 hy0)
        have hP : va_P g.1 vwCl [(h0_normal, .inl (g.2.1.1, 10, .inl f_h0_normal)), (h0_now, .inl (g.2.1.1, 21, .inl f_h0_now)), (h0, .inr (9, [.ref h0_told, .ref h0_read, .ref h0_now, .ref h0_readNow, .ref h0_kept, .int h0_undone, .int h0_seed, .int h0_hasPart, .ref h0_tape, .int h0_taped, .ref h0_refused, .int h0_faultKind, .int h0_faultPlace, .int h0_size, .int h0_at, .int h0_from, .int h0_wrong, .int h0_wrongAt, .ref h0_ownLetters, .ref h0_flats, .int h0_isLaid, .ref h0_corner, .ref h0_wayX, .ref h0_wayY, .ref h0_normal, .ref h0_low, .ref h0_high, .ref h0_clear, .ref h0_ways, .ref h0_canBe, .ref h0_lain, .int h0_canTool, .ref h0_fewestBy, .ref h0_sortOf, .int h0_rows, .ref h0_seenFlange, .ref h0_seenLength])), (h0_wayX, .inl (g.2.1.1, 10, .inl f74)), (h0_wayY, .inl (g.2.1.1, 10, .inl f_h0_wayY)), (h0_told, .inl (g.2.1.1, 103, .inl f_h0_told)), (h0_corner, .inl (g.2.1.1, 30, .inl f60))] H := hP
        have hD : va_D A [(h0_normal, .inl (g.2.1.1, 10, .inl f_h0_normal)), (h0_now, .inl (g.2.1.1, 21, .inl f_h0_now)), (h0, .inr (9, [.ref h0_told, .ref h0_read, .ref h0_now, .ref h0_readNow, .ref h0_kept, .int h0_undone, .int h0_seed, .int h0_hasPart, .ref h0_tape, .int h0_taped, .ref h0_refused, .int h0_faultKind, .int h0_faultPlace, .int h0_size, .int h0_at, .int h0_from, .int h0_wrong, .int h0_wrongAt, .ref h0_ownLetters, .ref h0_flats, .int h0_isLaid, .ref h0_corner, .ref h0_wayX, .ref h0_wayY, .ref h0_normal, .ref h0_low, .ref h0_high, .ref h0_clear, .ref h0_ways, .ref h0_canBe, .ref h0_lain, .int h0_canTool, .ref h0_fewestBy, .ref h0_sortOf, .int h0_rows, .ref h0_seenFlange, .ref h0_seenLength])), (h0_wayX, .inl (g.2.1.1, 10, .inl f74)), (h0_wayY, .inl (g.2.1.1, 10, .inl f_h0_wayY)), (h0_told, .inl (g.2.1.1, 103, .inl f_h0_told)), (h0_corner, .inl (g.2.1.1, 30, .inl f60))] := hD
        refine lv_aload_n hx hb dX9_standsUp_131 rfl (lv_at hl 0 rfl) ?_
        refine va_get (D := g.1) (ci := 9) (v := .ref h0_wayY) (C := RX9) (T := TX9) (N := 37) hx hb hG iX9 hown hX.1 hP 2 rfl rfl 23 (by decide) (hG _ wf_X9_81) (fun _ h9 => h9) rfl dX9_standsUp_132 ?_
        refine lv_iload_n hx hb dX9_standsUp_135 rfl (lv_at hl 1 rfl) ?_
        refine lv_iload_n hx hb dX9_standsUp_136 rfl (lv_at hl 3 rfl) ?_
        have J88 : ∀  (v87 : Int32) (H : Heap) (locs : List Loc) (ls : Array Slot), (-3) ≤ v87.toInt ∧ v87.toInt ≤ 3 → ¬ v87.toInt = 0 → va_P g.1 vwCl [(h0_normal, .inl (g.2.1.1, 10, .inl f_h0_normal)), (h0_now, .inl (g.2.1.1, 21, .inl f_h0_now)), (h0, .inr (9, [.ref h0_told, .ref h0_read, .ref h0_now, .ref h0_readNow, .ref h0_kept, .int h0_undone, .int h0_seed, .int h0_hasPart, .ref h0_tape, .int h0_taped, .ref h0_refused, .int h0_faultKind, .int h0_faultPlace, .int h0_size, .int h0_at, .int h0_from, .int h0_wrong, .int h0_wrongAt, .ref h0_ownLetters, .ref h0_flats, .int h0_isLaid, .ref h0_corner, .ref h0_wayX, .ref h0_wayY, .ref h0_normal, .ref h0_low, .ref h0_high, .ref h0_clear, .ref h0_ways, .ref h0_canBe, .ref h0_lain, .int h0_canTool, .ref h0_fewestBy, .ref h0_sortOf, .int h0_rows, .ref h0_seenFlange, .ref h0_seenLength])), (h0_wayX, .inl (g.2.1.1, 10, .inl f74)), (h0_wayY, .inl (g.2.1.1, 10, .inl f_h0_wayY)), (h0_told, .inl (g.2.1.1, 103, .inl f_h0_told)), (h0_corner, .inl (g.2.1.1, 30, .inl f60))] H → va_D A [(h0_normal, .inl (g.2.1.1, 10, .inl f_h0_normal)), (h0_now, .inl (g.2.1.1, 21, .inl f_h0_now)), (h0, .inr (9, [.ref h0_told, .ref h0_read, .ref h0_now, .ref h0_readNow, .ref h0_kept, .int h0_undone, .int h0_seed, .int h0_hasPart, .ref h0_tape, .int h0_taped, .ref h0_refused, .int h0_faultKind, .int h0_faultPlace, .int h0_size, .int h0_at, .int h0_from, .int h0_wrong, .int h0_wrongAt, .ref h0_ownLetters, .ref h0_flats, .int h0_isLaid, .ref h0_corner, .ref h0_wayX, .ref h0_wayY, .ref h0_normal, .ref h0_low, .ref h0_high, .ref h0_clear, .ref h0_ways, .ref h0_canBe, .ref h0_lain, .int h0_canTool, .ref h0_fewestBy, .ref h0_sortOf, .int h0_rows, .ref h0_seenFlange, .ref h0_seenLength])), (h0_wayX, .inl (g.2.1.1, 10, .inl f74)), (h0_wayY, .inl (g.2.1.1, 10, .inl f_h0_wayY)), (h0_told, .inl (g.2.1.1, 103, .inl f_h0_told)), (h0_corner, .inl (g.2.1.1, 30, .inl f60))] → va_S A s.heap H locs → lv_has ls 6 [(0, .ref h0), (1, .int x1), (2, .int x2), (3, .int z4), (4, .int v32), (5, .int v54)] → W p l e rm_kX9_standsUp s m args below meth c H locs 0 0 Q (F0 m 162 ls [.int v87, .int x1, .ref h0_wayY]) := by
          intro v87 H locs ls i89 v90 hP hD hS hl
          refine va_iast hx hb hX.1 hP hD hS 4 0 rfl rfl (zin (rfl : x1.toInt = _) (om_508 hy0)) dX9_standsUp_162 (fun H locs hP hD hS => ?_)
          obtain ⟨f91, e92⟩ : ∃ z9 : Nat → Int32, z9 = upd f_h0_wayY x1.toNatClampNeg v87 := ⟨_, rfl⟩
          rw [← e92] at hP hD
          have hf93 : aI (-3) 3 f91 := hy15.up e92 (rfl : v87.toInt = _) (om_509 i89)
          have hc94 : pNz x1 f_h0_wayX f91 f_h0_normal := pNz.uy hy26 e92 (rfl : x1.toInt = _) (rfl : x1.toInt = _) (om_510 hy0)
          have hc95 : pNz x1 f74 f91 f_h0_normal := pNz.uy hc77 e92 (rfl : x1.toInt = _) (rfl : x1.toInt = _) (om_510 hy0)
          have hP : va_P g.1 vwCl [(h0_normal, .inl (g.2.1.1, 10, .inl f_h0_normal)), (h0_now, .inl (g.2.1.1, 21, .inl f_h0_now)), (h0, .inr (9, [.ref h0_told, .ref h0_read, .ref h0_now, .ref h0_readNow, .ref h0_kept, .int h0_undone, .int h0_seed, .int h0_hasPart, .ref h0_tape, .int h0_taped, .ref h0_refused, .int h0_faultKind, .int h0_faultPlace, .int h0_size, .int h0_at, .int h0_from, .int h0_wrong, .int h0_wrongAt, .ref h0_ownLetters, .ref h0_flats, .int h0_isLaid, .ref h0_corner, .ref h0_wayX, .ref h0_wayY, .ref h0_normal, .ref h0_low, .ref h0_high, .ref h0_clear, .ref h0_ways, .ref h0_canBe, .ref h0_lain, .int h0_canTool, .ref h0_fewestBy, .ref h0_sortOf, .int h0_rows, .ref h0_seenFlange, .ref h0_seenLength])), (h0_wayX, .inl (g.2.1.1, 10, .inl f74)), (h0_wayY, .inl (g.2.1.1, 10, .inl f91)), (h0_told, .inl (g.2.1.1, 103, .inl f_h0_told)), (h0_corner, .inl (g.2.1.1, 30, .inl f60))] H := hP
          have hD : va_D A [(h0_normal, .inl (g.2.1.1, 10, .inl f_h0_normal)), (h0_now, .inl (g.2.1.1, 21, .inl f_h0_now)), (h0, .inr (9, [.ref h0_told, .ref h0_read, .ref h0_now, .ref h0_readNow, .ref h0_kept, .int h0_undone, .int h0_seed, .int h0_hasPart, .ref h0_tape, .int h0_taped, .ref h0_refused, .int h0_faultKind, .int h0_faultPlace, .int h0_size, .int h0_at, .int h0_from, .int h0_wrong, .int h0_wrongAt, .ref h0_ownLetters, .ref h0_flats, .int h0_isLaid, .ref h0_corner, .ref h0_wayX, .ref h0_wayY, .ref h0_normal, .ref h0_low, .ref h0_high, .ref h0_clear, .ref h0_ways, .ref h0_canBe, .ref h0_lain, .int h0_canTool, .ref h0_fewestBy, .ref h0_sortOf, .int h0_rows, .ref h0_seenFlange, .ref h0_seenLength])), (h0_wayX, .inl (g.2.1.1, 10, .inl f74)), (h0_wayY, .inl (g.2.1.1, 10, .inl f91)), (h0_told, .inl (g.2.1.1, 103, .inl f_h0_told)), (h0_corner, .inl (g.2.1.1, 30, .inl f60))] := hD
          refine lv_aload_n hx hb dX9_standsUp_163 rfl (lv_at hl 0 rfl) ?_
          refine va_get (D := g.1) (ci := 9) (v := .ref h0_normal) (C := RX9) (T := TX9) (N := 37) hx hb hG iX9 hown hX.1 hP 2 rfl rfl 24 (by decide) (hG _ wf_X9_84) (fun _ h9 => h9) rfl dX9_standsUp_164 ?_
          refine lv_iload_n hx hb dX9_standsUp_167 rfl (lv_at hl 1 rfl) ?_
          refine lv_aload_n hx hb dX9_standsUp_168 rfl (lv_at hl 0 rfl) ?_
          refine va_get (D := g.1) (ci := 9) (v := .ref h0_now) (C := RX9) (T := TX9) (N := 37) hx hb hG iX9 hown hX.1 hP 2 rfl rfl 2 (by decide) (hG _ wf_X9_16) (fun _ h9 => h9) rfl dX9_standsUp_169 ?_
          refine lv_iconst (v := 2) hx hb dX9_standsUp_172 (by decide) ?_
          refine lv_iload_n hx hb dX9_standsUp_173 rfl (lv_at hl 1 rfl) ?_
          refine lv_iadd hx hb dX9_standsUp_174 ?_
          refine lv_topi (fun z96 e97 => ?_)
          have f98 : z96.toInt = (2 : Int) + x1.toInt := za e97 (show (2 : Int32).toInt = (2 : Int) from by decide) (rfl : x1.toInt = _) (om_522 hy0)
          refine va_iald hx hb hX.1 hP 1 0 rfl rfl (zin (rfl : z96.toInt = _) (om_523 f98 hy0)) dX9_standsUp_175 ?_
          refine lv_topi (fun z99 e100 => ?_)
          have f101 : 0 ≤ z99.toInt ∧ z99.toInt ≤ 1 := ((hy22.at e100 (rfl : z96.toInt = _) (om_524 f98 hy0)).2).resolve_left (fun q9 => q9 (om_525 f98 hy0))
          refine lv_iconst (v := 1) hx hb dX9_standsUp_176 (by decide) ?_
          have J107 : ∀  (v106 : Int32) (H : Heap) (locs : List Loc) (ls : Array Slot), (-3) ≤ v106.toInt ∧ v106.toInt ≤ 3 → ¬ v106.toInt = 0 → va_P g.1 vwCl [(h0_normal, .inl (g.2.1.1, 10, .inl f_h0_normal)), (h0_now, .inl (g.2.1.1, 21, .inl f_h0_now)), (h0, .inr (9, [.ref h0_told, .ref h0_read, .ref h0_now, .ref h0_readNow, .ref h0_kept, .int h0_undone, .int h0_seed, .int h0_hasPart, .ref h0_tape, .int h0_taped, .ref h0_refused, .int h0_faultKind, .int h0_faultPlace, .int h0_size, .int h0_at, .int h0_from, .int h0_wrong, .int h0_wrongAt, .ref h0_ownLetters, .ref h0_flats, .int h0_isLaid, .ref h0_corner, .ref h0_wayX, .ref h0_wayY, .ref h0_normal, .ref h0_low, .ref h0_high, .ref h0_clear, .ref h0_ways, .ref h0_canBe, .ref h0_lain, .int h0_canTool, .ref h0_fewestBy, .ref h0_sortOf, .int h0_rows, .ref h0_seenFlange, .ref h0_seenLength])), (h0_wayX, .inl (g.2.1.1, 10, .inl f74)), (h0_wayY, .inl (g.2.1.1, 10, .inl f91)), (h0_told, .inl (g.2.1.1, 103, .inl f_h0_told)), (h0_corner, .inl (g.2.1.1, 30, .inl f60))] H → va_D A [(h0_normal, .inl (g.2.1.1, 10, .inl f_h0_normal)), (h0_now, .inl (g.2.1.1, 21, .inl f_h0_now)), (h0, .inr (9, [.ref h0_told, .ref h0_read, .ref h0_now, .ref h0_readNow, .ref h0_kept, .int h0_undone, .int h0_seed, .int h0_hasPart, .ref h0_tape, .int h0_taped, .ref h0_refused, .int h0_faultKind, .int h0_faultPlace, .int h0_size, .int h0_at, .int h0_from, .int h0_wrong, .int h0_wrongAt, .ref h0_ownLetters, .ref h0_flats, .int h0_isLaid, .ref h0_corner, .ref h0_wayX, .ref h0_wayY, .ref h0_normal, .ref h0_low, .ref h0_high, .ref h0_clear, .ref h0_ways, .ref h0_canBe, .ref h0_lain, .int h0_canTool, .ref h0_fewestBy, .ref h0_sortOf, .int h0_rows, .ref h0_seenFlange, .ref h0_seenLength])), (h0_wayX, .inl (g.2.1.1, 10, .inl f74)), (h0_wayY, .inl (g.2.1.1, 10, .inl f91)), (h0_told, .inl (g.2.1.1, 103, .inl f_h0_told)), (h0_corner, .inl (g.2.1.1, 30, .inl f60))] → va_S A s.heap H locs → lv_has ls 6 [(0, .ref h0), (1, .int x1), (2, .int x2), (3, .int z4), (4, .int v32), (5, .int v54)] → W p l e rm_kX9_standsUp s m args below meth c H locs 0 0 Q (F0 m 188 ls [.int v106, .int x1, .ref h0_normal]) := by
            intro v106 H locs ls i108 v109 hP hD hS hl
            refine va_iast hx hb hX.1 hP hD hS 0 0 rfl rfl (zin (rfl : x1.toInt = _) (om_508 hy0)) dX9_standsUp_188 (fun H locs hP hD hS => ?_)
            obtain ⟨f110, e111⟩ : ∃ z9 : Nat → Int32, z9 = upd f_h0_normal x1.toNatClampNeg v106 := ⟨_, rfl⟩
            rw [← e111] at hP hD
            have hf112 : aI (-3) 3 f110 := hy16.up e111 (rfl : v106.toInt = _) (om_509 i108)
            have hc113 : pNz x1 f_h0_wayX f_h0_wayY f110 := pNz.un hy26 e111 (rfl : x1.toInt = _) (rfl : x1.toInt = _) (om_510 hy0)
            have hc114 : pNz x1 f74 f_h0_wayY f110 := pNz.un hc77 e111 (rfl : x1.toInt = _) (rfl : x1.toInt = _) (om_510 hy0)
            have hc115 : pNz x1 f_h0_wayX f91 f110 := pNz.un hc94 e111 (rfl : x1.toInt = _) (rfl : x1.toInt = _) (om_510 hy0)
            have hc116 : pNz x1 f74 f91 f110 := pNz.un hc95 e111 (rfl : x1.toInt = _) (rfl : x1.toInt = _) (om_510 hy0)
            have hP : va_P g.1 vwCl [(h0_normal, .inl (g.2.1.1, 10, .inl f110)), (h0_now, .inl (g.2.1.1, 21, .inl f_h0_now)), (h0, .inr (9, [.ref h0_told, .ref h0_read, .ref h0_now, .ref h0_readNow, .ref h0_kept, .int h0_undone, .int h0_seed, .int h0_hasPart, .ref h0_tape, .int h0_taped, .ref h0_refused, .int h0_faultKind, .int h0_faultPlace, .int h0_size, .int h0_at, .int h0_from, .int h0_wrong, .int h0_wrongAt, .ref h0_ownLetters, .ref h0_flats, .int h0_isLaid, .ref h0_corner, .ref h0_wayX, .ref h0_wayY, .ref h0_normal, .ref h0_low, .ref h0_high, .ref h0_clear, .ref h0_ways, .ref h0_canBe, .ref h0_lain, .int h0_canTool, .ref h0_fewestBy, .ref h0_sortOf, .int h0_rows, .ref h0_seenFlange, .ref h0_seenLength])), (h0_wayX, .inl (g.2.1.1, 10, .inl f74)), (h0_wayY, .inl (g.2.1.1, 10, .inl f91)), (h0_told, .inl (g.2.1.1, 103, .inl f_h0_told)), (h0_corner, .inl (g.2.1.1, 30, .inl f60))] H := hP
            have hD : va_D A [(h0_normal, .inl (g.2.1.1, 10, .inl f110)), (h0_now, .inl (g.2.1.1, 21, .inl f_h0_now)), (h0, .inr (9, [.ref h0_told, .ref h0_read, .ref h0_now, .ref h0_readNow, .ref h0_kept, .int h0_undone, .int h0_seed, .int h0_hasPart, .ref h0_tape, .int h0_taped, .ref h0_refused, .int h0_faultKind, .int h0_faultPlace, .int h0_size, .int h0_at, .int h0_from, .int h0_wrong, .int h0_wrongAt, .ref h0_ownLetters, .ref h0_flats, .int h0_isLaid, .ref h0_corner, .ref h0_wayX, .ref h0_wayY, .ref h0_normal, .ref h0_low, .ref h0_high, .ref h0_clear, .ref h0_ways, .ref h0_canBe, .ref h0_lain, .int h0_canTool, .ref h0_fewestBy, .ref h0_sortOf, .int h0_rows, .ref h0_seenFlange, .ref h0_seenLength])), (h0_wayX, .inl (g.2.1.1, 10, .inl f74)), (h0_wayY, .inl (g.2.1.1, 10, .inl f91)), (h0_told, .inl (g.2.1.1, 103, .inl f_h0_told)), (h0_corner, .inl (g.2.1.1, 30, .inl f60))] := hD
            refine lv_iload_n hx hb dX9_standsUp_189 rfl (lv_at hl 3 rfl) ?_
            refine lv_iconst (v := 1) hx hb dX9_standsUp_190 (by decide) ?_
            refine lv_icmp_le (tgt := 210) hx hb dX9_standsUp_191 (by decide) (fun c117 => ?_) (fun c117 => ?_)
            · skip
              have c117i : z4.toInt ≤ (1 : Int) := (zc_le (rfl : z4.toInt = _) (show (1 : Int32).toInt = (1 : Int) from by decide)).mp c117
              exact hret (f74, f91, f110, f60) (Nat.le_of_ble_eq_true rfl) (Nat.le_of_ble_eq_true rfl) ⟨hf76, hf93, hf112, (pNs.of hc116 e75 e92 e111 (rfl : x1.toInt = _) (rfl : v70.toInt = _) (rfl : v87.toInt = _) (rfl : v106.toInt = _) (om_527 hy0 v109 v73 v90))⟩ (hP.sub [2, 3, 4, 0, 5, 1, 6] rfl) (hD.sub [2, 3, 4, 0, 5, 1, 6] (by decide) rfl) hS dX9_standsUp_210
            · skip
              have c117i : ¬ (z4.toInt ≤ (1 : Int)) := fun q => c117 ((zc_le (rfl : z4.toInt = _) (show (1 : Int32).toInt = (1 : Int) from by decide)).mpr q)
              refine lv_aload_n hx hb dX9_standsUp_194 rfl (lv_at hl 0 rfl) ?_
              refine lv_iload_n hx hb dX9_standsUp_195 rfl (lv_at hl 1 rfl) ?_
              refine lv_iload hx hb dX9_standsUp_196 (lv_at hl 5 rfl) ?_
              refine lv_aload_n hx hb dX9_standsUp_198 rfl (lv_at hl 0 rfl) ?_
              refine va_get (D := g.1) (ci := 9) (v := .ref h0_told) (C := RX9) (T := TX9) (N := 37) hx hb hG iX9 hown hX.1 hP 2 rfl rfl 0 (by decide) (hG _ wf_X9_7) (fun _ h9 => h9) rfl dX9_standsUp_199 ?_
              refine lv_bipush (v := 49) hx hb dX9_standsUp_202 (by decide) ?_
              refine lv_iload_n hx hb dX9_standsUp_204 rfl (lv_at hl 1 rfl) ?_
              refine lv_iadd hx hb dX9_standsUp_205 ?_
              refine lv_topi (fun z118 e119 => ?_)
              have f120 : z118.toInt = (49 : Int) + x1.toInt := za e119 (show (49 : Int32).toInt = (49 : Int) from by decide) (rfl : x1.toInt = _) (om_528 hy0)
              refine va_iald hx hb hX.1 hP 5 0 rfl rfl (zin (rfl : z118.toInt = _) (om_529 f120 hy0)) dX9_standsUp_206 ?_
              refine lv_topi (fun z121 e122 => ?_)
              refine zfv (wr := [(h0_normal, .inl (g.2.1.1, 10, .inl f110)), (h0_now, .inl (g.2.1.1, 21, .inl f_h0_now)), (h0_wayX, .inl (g.2.1.1, 10, .inl f74)), (h0_wayY, .inl (g.2.1.1, 10, .inl f91)), (h0_told, .inl (g.2.1.1, 103, .inl f_h0_told))]) (va_runV (As := [.int x1, .int v54, .int z121]) (rest := []) ⟨hx, hb, hml, hown, hG⟩ (kX9_moves l g h0 x1 v54 z121 h0_told h0_read h0_now h0_readNow h0_kept h0_undone h0_seed h0_hasPart h0_tape h0_taped h0_refused h0_faultKind h0_faultPlace h0_size h0_at h0_from h0_wrong h0_wrongAt h0_ownLetters h0_flats h0_isLaid h0_corner h0_wayX h0_wayY h0_normal h0_low h0_high h0_clear h0_ways h0_canBe h0_lain h0_canTool h0_fewestBy h0_sortOf h0_rows h0_seenFlange h0_seenLength f60 (om_504 hy0) (om_509 i56) (om_27 hy2) (om_28 hy3) (om_29 hy4) (om_32 hy5) (om_31 hy6) (om_32 hy7) (om_32 hy8) (om_32 hy9) (om_31 hy10) (om_29 hy11) (om_13 hy12) (om_33 hy13) (om_515 v57) _) ⟨callB_of 3 hG (zGood wc_X9_moves) rfl rfl rfl (hG _ wini_X9) (hG _ wm_X9_264) hX9_moves ⟨Nat.le_of_ble_eq_true rfl, Nat.le_of_ble_eq_true rfl⟩, hG _ wi_X9_moves, hG _ wse_X9_X9_moves⟩ (zpreV (va_recv hX.1 hP (ci := 9) (q0 := 2) rfl rfl) hX hP hD hS hA [2, 6] rfl (by decide)) rfl rfl hl.1 rfl (lv_room (Nat.le_of_ble_eq_true rfl)) dX9_standsUp_207 ⟨Nat.le_of_ble_eq_true rfl, Nat.le_of_ble_eq_true rfl⟩) hP hD hS hA [2, 6] [0, 1, 3, 4, 5] rfl rfl (by decide) (by decide) (fun u124 H locs hp hP hD hS => ?_)
              refine W.cs (cells' := 0) (slots' := 0) rfl rfl ?_
              obtain ⟨f125, rfl⟩ : ∃ z9, z9 = u124 := ⟨_, rfl⟩
              have hP : va_P g.1 vwCl [(h0_normal, .inl (g.2.1.1, 10, .inl f110)), (h0_now, .inl (g.2.1.1, 21, .inl f_h0_now)), (h0_wayX, .inl (g.2.1.1, 10, .inl f74)), (h0_wayY, .inl (g.2.1.1, 10, .inl f91)), (h0_told, .inl (g.2.1.1, 103, .inl f_h0_told)), (h0, .inr (9, [.ref h0_told, .ref h0_read, .ref h0_now, .ref h0_readNow, .ref h0_kept, .int h0_undone, .int h0_seed, .int h0_hasPart, .ref h0_tape, .int h0_taped, .ref h0_refused, .int h0_faultKind, .int h0_faultPlace, .int h0_size, .int h0_at, .int h0_from, .int h0_wrong, .int h0_wrongAt, .ref h0_ownLetters, .ref h0_flats, .int h0_isLaid, .ref h0_corner, .ref h0_wayX, .ref h0_wayY, .ref h0_normal, .ref h0_low, .ref h0_high, .ref h0_clear, .ref h0_ways, .ref h0_canBe, .ref h0_lain, .int h0_canTool, .ref h0_fewestBy, .ref h0_sortOf, .int h0_rows, .ref h0_seenFlange, .ref h0_seenLength])), (h0_corner, .inl (g.2.1.1, 30, .inl f125))] H := hP
              have hD : va_D A [(h0_normal, .inl (g.2.1.1, 10, .inl f110)), (h0_now, .inl (g.2.1.1, 21, .inl f_h0_now)), (h0_wayX, .inl (g.2.1.1, 10, .inl f74)), (h0_wayY, .inl (g.2.1.1, 10, .inl f91)), (h0_told, .inl (g.2.1.1, 103, .inl f_h0_told)), (h0, .inr (9, [.ref h0_told, .ref h0_read, .ref h0_now, .ref h0_readNow, .ref h0_kept, .int h0_undone, .int h0_seed, .int h0_hasPart, .ref h0_tape, .int h0_taped, .ref h0_refused, .int h0_faultKind, .int h0_faultPlace, .int h0_size, .int h0_at, .int h0_from, .int h0_wrong, .int h0_wrongAt, .ref h0_ownLetters, .ref h0_flats, .int h0_isLaid, .ref h0_corner, .ref h0_wayX, .ref h0_wayY, .ref h0_normal, .ref h0_low, .ref h0_high, .ref h0_clear, .ref h0_ways, .ref h0_canBe, .ref h0_lain, .int h0_canTool, .ref h0_fewestBy, .ref h0_sortOf, .int h0_rows, .ref h0_seenFlange, .ref h0_seenLength])), (h0_corner, .inl (g.2.1.1, 30, .inl f125))] := hD
              exact hret (f74, f91, f110, f125) (Nat.le_of_ble_eq_true rfl) (Nat.le_of_ble_eq_true rfl) ⟨hf76, hf93, hf112, (pNs.of hc116 e75 e92 e111 (rfl : x1.toInt = _) (rfl : v70.toInt = _) (rfl : v87.toInt = _) (rfl : v106.toInt = _) (om_527 hy0 v109 v73 v90))⟩ (hP.sub [5, 2, 3, 0, 4, 1, 6] rfl) (hD.sub [5, 2, 3, 0, 4, 1, 6] (by decide) rfl) hS dX9_standsUp_210
          refine lv_icmp_ne (tgt := 186) hx hb dX9_standsUp_177 (by decide) (fun c126 => ?_) (fun c126 => ?_)
          · skip
            have c126i : ¬ (z99.toInt = (1 : Int)) := fun q => c126 ((zc_eq (rfl : z99.toInt = _) (show (1 : Int32).toInt = (1 : Int) from by decide)).mpr q)
            refine lv_iload hx hb dX9_standsUp_186 (lv_at hl 4 rfl) ?_
            exact J107 v32 H locs ls (om_509 i34) (om_515 v35) hP hD hS (lv_sub hl [0, 1, 2, 3, 4, 5] rfl)
          · skip
            have c126i : z99.toInt = (1 : Int) := (zc_eq (rfl : z99.toInt = _) (show (1 : Int32).toInt = (1 : Int) from by decide)).mp c126
            refine lv_iload hx hb dX9_standsUp_180 (lv_at hl 4 rfl) ?_
            refine lv_ineg hx hb dX9_standsUp_182 ?_
            refine lv_topi (fun z127 e128 => ?_)
            have f129 : z127.toInt = -v32.toInt := zng e128 (rfl : v32.toInt = _) (om_531 i34)
            refine lv_goto (tgt := 188) hx hb dX9_standsUp_183 (by decide) ?_
            exact J107 z127 H locs ls (om_532 f129 i34) (om_533 f129 v35) hP hD hS (lv_sub hl [0, 1, 2, 3, 4, 5] rfl)
        refine lv_if_ne (tgt := 145) hx hb dX9_standsUp_137 (by decide) (fun c130 => ?_) (fun c130 => ?_)
        · skip
          have c130i : ¬ (z4.toInt = (0 : Int)) := fun q => c130 ((zc_eq (rfl : z4.toInt = _) (show (0 : Int32).toInt = (0 : Int) from by decide)).mpr q)
          refine lv_iload_n hx hb dX9_standsUp_145 rfl (lv_at hl 3 rfl) ?_
          refine lv_iconst (v := 2) hx hb dX9_standsUp_146 (by decide) ?_
          refine lv_icmp_ne (tgt := 156) hx hb dX9_standsUp_147 (by decide) (fun c131 => ?_) (fun c131 => ?_)
          · skip
            have c131i : ¬ (z4.toInt = (2 : Int)) := fun q => c131 ((zc_eq (rfl : z4.toInt = _) (show (2 : Int32).toInt = (2 : Int) from by decide)).mpr q)
            refine lv_aload_n hx hb dX9_standsUp_156 rfl (lv_at hl 0 rfl) ?_
            refine va_get (D := g.1) (ci := 9) (v := .ref h0_wayY) (C := RX9) (T := TX9) (N := 37) hx hb hG iX9 hown hX.1 hP 2 rfl rfl 23 (by decide) (hG _ wf_X9_81) (fun _ h9 => h9) rfl dX9_standsUp_157 ?_
            refine lv_iload_n hx hb dX9_standsUp_160 rfl (lv_at hl 2 rfl) ?_
            refine va_iald hx hb hX.1 hP 4 0 rfl rfl (zin (rfl : x2.toInt = _) (om_506 hy0 hy1 hy25)) dX9_standsUp_161 ?_
            refine lv_topi (fun z132 e133 => ?_)
            have i134 : (-3) ≤ z132.toInt ∧ z132.toInt ≤ 3 := hy15.at e133
            have f135 : ¬ z132.toInt = 0 := by rw [e133]; exact (hy26.at (rfl : x2.toInt = _) (rfl : x1.toInt = _) (om_507 hy1 hy25)).2.1
            exact J88 z132 H locs ls (om_509 i134) (om_515 f135) hP hD hS (lv_sub hl [0, 1, 2, 3, 4, 5] rfl)
          · skip
            have c131i : z4.toInt = (2 : Int) := (zc_eq (rfl : z4.toInt = _) (show (2 : Int32).toInt = (2 : Int) from by decide)).mp c131
            refine lv_iload hx hb dX9_standsUp_150 (lv_at hl 5 rfl) ?_
            refine lv_ineg hx hb dX9_standsUp_152 ?_
            refine lv_topi (fun z136 e137 => ?_)
            have f138 : z136.toInt = -v54.toInt := zng e137 (rfl : v54.toInt = _) (om_531 i56)
            refine lv_goto (tgt := 162) hx hb dX9_standsUp_153 (by decide) ?_
            exact J88 z136 H locs ls (om_532 f138 i56) (om_533 f138 v57) hP hD hS (lv_sub hl [0, 1, 2, 3, 4, 5] rfl)
        · skip
          have c130i : z4.toInt = (0 : Int) := (zc_eq (rfl : z4.toInt = _) (show (0 : Int32).toInt = (0 : Int) from by decide)).mp c130
          refine lv_iload hx hb dX9_standsUp_140 (lv_at hl 5 rfl) ?_
          refine lv_goto (tgt := 162) hx hb dX9_standsUp_142 (by decide) ?_
          exact J88 v54 H locs ls (om_509 i56) (om_515 v57) hP hD hS (lv_sub hl [0, 1, 2, 3, 4, 5] rfl)
      refine lv_icmp_ne (tgt := 113) hx hb dX9_standsUp_105 (by decide) (fun c139 => ?_) (fun c139 => ?_)
      · skip
        have c139i : ¬ (z4.toInt = (1 : Int)) := fun q => c139 ((zc_eq (rfl : z4.toInt = _) (show (1 : Int32).toInt = (1 : Int) from by decide)).mpr q)
        refine lv_iload_n hx hb dX9_standsUp_113 rfl (lv_at hl 4 rfl) ?_
        refine lv_iconst (v := 3) hx hb dX9_standsUp_114 (by decide) ?_
        refine lv_icmp_ne (tgt := 124) hx hb dX9_standsUp_115 (by decide) (fun c140 => ?_) (fun c140 => ?_)
        · skip
          have c140i : ¬ (z4.toInt = (3 : Int)) := fun q => c140 ((zc_eq (rfl : z4.toInt = _) (show (3 : Int32).toInt = (3 : Int) from by decide)).mpr q)
          refine lv_aload_n hx hb dX9_standsUp_124 rfl (lv_at hl 1 rfl) ?_
          refine va_get (D := g.1) (ci := 9) (v := .ref h0_wayX) (C := RX9) (T := TX9) (N := 37) hx hb hG iX9 hown hX.1 hP 2 rfl rfl 22 (by decide) (hG _ wf_X9_78) (fun _ h9 => h9) rfl dX9_standsUp_125 ?_
          refine lv_iload_n hx hb dX9_standsUp_128 rfl (lv_at hl 3 rfl) ?_
          refine va_iald hx hb hX.1 hP 3 0 rfl rfl (zin (rfl : x2.toInt = _) (om_506 hy0 hy1 hy25)) dX9_standsUp_129 ?_
          refine lv_topi (fun z141 e142 => ?_)
          have i143 : (-3) ≤ z141.toInt ∧ z141.toInt ≤ 3 := hy14.at e142
          have f144 : ¬ z141.toInt = 0 := by rw [e142]; exact (hy26.at (rfl : x2.toInt = _) (rfl : x1.toInt = _) (om_507 hy1 hy25)).1
          exact J71 z141 H locs ls (om_509 i143) (om_515 f144) hP hD hS (lv_sub hl [1, 2, 3, 4, 5, 0] rfl)
        · skip
          have c140i : z4.toInt = (3 : Int) := (zc_eq (rfl : z4.toInt = _) (show (3 : Int32).toInt = (3 : Int) from by decide)).mp c140
          refine lv_iload hx hb dX9_standsUp_118 (lv_at hl 0 rfl) ?_
          refine lv_ineg hx hb dX9_standsUp_120 ?_
          refine lv_topi (fun z145 e146 => ?_)
          have f147 : z145.toInt = -v54.toInt := zng e146 (rfl : v54.toInt = _) (om_531 i56)
          refine lv_goto (tgt := 130) hx hb dX9_standsUp_121 (by decide) ?_
          exact J71 z145 H locs ls (om_532 f147 i56) (om_533 f147 v57) hP hD hS (lv_sub hl [1, 2, 3, 4, 5, 0] rfl)
      · skip
        have c139i : z4.toInt = (1 : Int) := (zc_eq (rfl : z4.toInt = _) (show (1 : Int32).toInt = (1 : Int) from by decide)).mp c139
        refine lv_iload hx hb dX9_standsUp_108 (lv_at hl 0 rfl) ?_
        refine lv_goto (tgt := 130) hx hb dX9_standsUp_110 (by decide) ?_
        exact J71 v54 H locs ls (om_509 i56) (om_515 v57) hP hD hS (lv_sub hl [1, 2, 3, 4, 5, 0] rfl)
    refine lv_icmp_ne (tgt := 82) hx hb dX9_standsUp_70 (by decide) (fun c148 => ?_) (fun c148 => ?_)
    · skip
      have c148i : ¬ (z39.toInt = (1 : Int)) := fun q => c148 ((zc_eq (rfl : z39.toInt = _) (show (1 : Int32).toInt = (1 : Int) from by decide)).mpr q)
      refine lv_aload_n hx hb dX9_standsUp_82 rfl (lv_at hl 1 rfl) ?_
      refine va_get (D := g.1) (ci := 9) (v := .ref h0_normal) (C := RX9) (T := TX9) (N := 37) hx hb hG iX9 hown hX.1 hP 0 rfl rfl 24 (by decide) (hG _ wf_X9_84) (fun _ h9 => h9) rfl dX9_standsUp_83 ?_
      refine lv_iload_n hx hb dX9_standsUp_86 rfl (lv_at hl 3 rfl) ?_
      refine va_iald hx hb hX.1 hP 3 0 rfl rfl (zin (rfl : x2.toInt = _) (om_506 hy0 hy1 hy25)) dX9_standsUp_87 ?_
      refine lv_topi (fun z149 e150 => ?_)
      have i151 : (-3) ≤ z149.toInt ∧ z149.toInt ≤ 3 := hy16.at e150
      have f152 : ¬ z149.toInt = 0 := by rw [e150]; exact (hy26.at (rfl : x2.toInt = _) (rfl : x1.toInt = _) (om_507 hy1 hy25)).2.2
      refine lv_ineg hx hb dX9_standsUp_88 ?_
      refine lv_topi (fun z153 e154 => ?_)
      have f155 : z153.toInt = -z149.toInt := zng e154 (rfl : z149.toInt = _) (om_531 i151)
      exact J55 z153 H locs ls (om_532 f155 i151) (om_534 f152 f155) hP hD hS (lv_sub hl [1, 2, 3, 4, 0] rfl)
    · skip
      have c148i : z39.toInt = (1 : Int) := (zc_eq (rfl : z39.toInt = _) (show (1 : Int32).toInt = (1 : Int) from by decide)).mp c148
      refine lv_aload_n hx hb dX9_standsUp_73 rfl (lv_at hl 1 rfl) ?_
      refine va_get (D := g.1) (ci := 9) (v := .ref h0_normal) (C := RX9) (T := TX9) (N := 37) hx hb hG iX9 hown hX.1 hP 0 rfl rfl 24 (by decide) (hG _ wf_X9_84) (fun _ h9 => h9) rfl dX9_standsUp_74 ?_
      refine lv_iload_n hx hb dX9_standsUp_77 rfl (lv_at hl 3 rfl) ?_
      refine va_iald hx hb hX.1 hP 3 0 rfl rfl (zin (rfl : x2.toInt = _) (om_506 hy0 hy1 hy25)) dX9_standsUp_78 ?_
      refine lv_topi (fun z156 e157 => ?_)
      have i158 : (-3) ≤ z156.toInt ∧ z156.toInt ≤ 3 := hy16.at e157
      have f159 : ¬ z156.toInt = 0 := by rw [e157]; exact (hy26.at (rfl : x2.toInt = _) (rfl : x1.toInt = _) (om_507 hy1 hy25)).2.2
      refine lv_goto (tgt := 89) hx hb dX9_standsUp_79 (by decide) ?_
      exact J55 z156 H locs ls (om_509 i158) (om_515 f159) hP hD hS (lv_sub hl [1, 2, 3, 4, 0] rfl)
  refine lv_if_ne (tgt := 23) hx hb dX9_standsUp_11 (by decide) (fun c160 => ?_) (fun c160 => ?_)
  · skip
    have c160i : ¬ (z4.toInt = (0 : Int)) := fun q => c160 ((zc_eq (rfl : z4.toInt = _) (show (0 : Int32).toInt = (0 : Int) from by decide)).mpr q)
    refine lv_iload_n hx hb dX9_standsUp_23 rfl (lv_at hl 0 rfl) ?_
    refine lv_iconst (v := 1) hx hb dX9_standsUp_24 (by decide) ?_
    refine lv_icmp_ne (tgt := 37) hx hb dX9_standsUp_25 (by decide) (fun c161 => ?_) (fun c161 => ?_)
    · skip
      have c161i : ¬ (z4.toInt = (1 : Int)) := fun q => c161 ((zc_eq (rfl : z4.toInt = _) (show (1 : Int32).toInt = (1 : Int) from by decide)).mpr q)
      refine lv_iload_n hx hb dX9_standsUp_37 rfl (lv_at hl 0 rfl) ?_
      refine lv_iconst (v := 2) hx hb dX9_standsUp_38 (by decide) ?_
      refine lv_icmp_ne (tgt := 52) hx hb dX9_standsUp_39 (by decide) (fun c162 => ?_) (fun c162 => ?_)
      · skip
        have c162i : ¬ (z4.toInt = (2 : Int)) := fun q => c162 ((zc_eq (rfl : z4.toInt = _) (show (2 : Int32).toInt = (2 : Int) from by decide)).mpr q)
        refine lv_aload_n hx hb dX9_standsUp_52 rfl (lv_at hl 1 rfl) ?_
        refine va_get (D := g.1) (ci := 9) (v := .ref h0_wayX) (C := RX9) (T := TX9) (N := 37) hx hb hG iX9 hown hX.1 hP 0 rfl rfl 22 (by decide) (hG _ wf_X9_78) (fun _ h9 => h9) rfl dX9_standsUp_53 ?_
        refine lv_iload_n hx hb dX9_standsUp_56 rfl (lv_at hl 3 rfl) ?_
        refine va_iald hx hb hX.1 hP 1 0 rfl rfl (zin (rfl : x2.toInt = _) (om_506 hy0 hy1 hy25)) dX9_standsUp_57 ?_
        refine lv_topi (fun z163 e164 => ?_)
        have i165 : (-3) ≤ z163.toInt ∧ z163.toInt ≤ 3 := hy14.at e164
        have f166 : ¬ z163.toInt = 0 := by rw [e164]; exact (hy26.at (rfl : x2.toInt = _) (rfl : x1.toInt = _) (om_507 hy1 hy25)).1
        refine lv_ineg hx hb dX9_standsUp_58 ?_
        refine lv_topi (fun z167 e168 => ?_)
        have f169 : z167.toInt = -z163.toInt := zng e168 (rfl : z163.toInt = _) (om_531 i165)
        exact J33 z167 _ _ ls (om_532 f169 i165) (om_534 f166 f169) hP hD hS (lv_sub hl [1, 2, 3, 0] rfl)
      · skip
        have c162i : z4.toInt = (2 : Int) := (zc_eq (rfl : z4.toInt = _) (show (2 : Int32).toInt = (2 : Int) from by decide)).mp c162
        refine lv_aload_n hx hb dX9_standsUp_42 rfl (lv_at hl 1 rfl) ?_
        refine va_get (D := g.1) (ci := 9) (v := .ref h0_wayY) (C := RX9) (T := TX9) (N := 37) hx hb hG iX9 hown hX.1 hP 0 rfl rfl 23 (by decide) (hG _ wf_X9_81) (fun _ h9 => h9) rfl dX9_standsUp_43 ?_
        refine lv_iload_n hx hb dX9_standsUp_46 rfl (lv_at hl 3 rfl) ?_
        refine va_iald hx hb hX.1 hP 2 0 rfl rfl (zin (rfl : x2.toInt = _) (om_506 hy0 hy1 hy25)) dX9_standsUp_47 ?_
        refine lv_topi (fun z170 e171 => ?_)
        have i172 : (-3) ≤ z170.toInt ∧ z170.toInt ≤ 3 := hy15.at e171
        have f173 : ¬ z170.toInt = 0 := by rw [e171]; exact (hy26.at (rfl : x2.toInt = _) (rfl : x1.toInt = _) (om_507 hy1 hy25)).2.1
        refine lv_ineg hx hb dX9_standsUp_48 ?_
        refine lv_topi (fun z174 e175 => ?_)
        have f176 : z174.toInt = -z170.toInt := zng e175 (rfl : z170.toInt = _) (om_531 i172)
        refine lv_goto (tgt := 59) hx hb dX9_standsUp_49 (by decide) ?_
        exact J33 z174 _ _ ls (om_532 f176 i172) (om_534 f173 f176) hP hD hS (lv_sub hl [1, 2, 3, 0] rfl)
    · skip
      have c161i : z4.toInt = (1 : Int) := (zc_eq (rfl : z4.toInt = _) (show (1 : Int32).toInt = (1 : Int) from by decide)).mp c161
      refine lv_aload_n hx hb dX9_standsUp_28 rfl (lv_at hl 1 rfl) ?_
      refine va_get (D := g.1) (ci := 9) (v := .ref h0_wayX) (C := RX9) (T := TX9) (N := 37) hx hb hG iX9 hown hX.1 hP 0 rfl rfl 22 (by decide) (hG _ wf_X9_78) (fun _ h9 => h9) rfl dX9_standsUp_29 ?_
      refine lv_iload_n hx hb dX9_standsUp_32 rfl (lv_at hl 3 rfl) ?_
      refine va_iald hx hb hX.1 hP 1 0 rfl rfl (zin (rfl : x2.toInt = _) (om_506 hy0 hy1 hy25)) dX9_standsUp_33 ?_
      refine lv_topi (fun z177 e178 => ?_)
      have i179 : (-3) ≤ z177.toInt ∧ z177.toInt ≤ 3 := hy14.at e178
      have f180 : ¬ z177.toInt = 0 := by rw [e178]; exact (hy26.at (rfl : x2.toInt = _) (rfl : x1.toInt = _) (om_507 hy1 hy25)).1
      refine lv_goto (tgt := 59) hx hb dX9_standsUp_34 (by decide) ?_
      exact J33 z177 _ _ ls (om_509 i179) (om_515 f180) hP hD hS (lv_sub hl [1, 2, 3, 0] rfl)
  · skip
    have c160i : z4.toInt = (0 : Int) := (zc_eq (rfl : z4.toInt = _) (show (0 : Int32).toInt = (0 : Int) from by decide)).mp c160
    refine lv_aload_n hx hb dX9_standsUp_14 rfl (lv_at hl 1 rfl) ?_
    refine va_get (D := g.1) (ci := 9) (v := .ref h0_wayY) (C := RX9) (T := TX9) (N := 37) hx hb hG iX9 hown hX.1 hP 0 rfl rfl 23 (by decide) (hG _ wf_X9_81) (fun _ h9 => h9) rfl dX9_standsUp_15 ?_
    refine lv_iload_n hx hb dX9_standsUp_18 rfl (lv_at hl 3 rfl) ?_
    refine va_iald hx hb hX.1 hP 2 0 rfl rfl (zin (rfl : x2.toInt = _) (om_506 hy0 hy1 hy25)) dX9_standsUp_19 ?_
    refine lv_topi (fun z181 e182 => ?_)
    have i183 : (-3) ≤ z181.toInt ∧ z181.toInt ≤ 3 := hy15.at e182
    have f184 : ¬ z181.toInt = 0 := by rw [e182]; exact (hy26.at (rfl : x2.toInt = _) (rfl : x1.toInt = _) (om_507 hy1 hy25)).2.1
    refine lv_goto (tgt := 59) hx hb dX9_standsUp_20 (by decide) ?_
    exact J33 z181 _ _ ls (om_509 i183) (om_515 f184) hP hD hS (lv_sub hl [1, 2, 3, 0] rfl)
theorem dX9_laysSpace_0 : decode cX9_laysSpace 0 = .ok (.aload_n 0, 1) := by decide +kernel
theorem dX9_laysSpace_1 : decode cX9_laysSpace 1 = .ok (.invokevirtual 255, 3) := by decide +kernel
theorem dX9_laysSpace_4 : decode cX9_laysSpace 4 = .ok (.iconst 0, 1) := by decide +kernel
theorem dX9_laysSpace_5 : decode cX9_laysSpace 5 = .ok (.istore_n 2, 1) := by decide +kernel
theorem dX9_laysSpace_6 : decode cX9_laysSpace 6 = .ok (.iload_n 2, 1) := by decide +kernel
theorem dX9_laysSpace_7 : decode cX9_laysSpace 7 = .ok (.iconst 3, 1) := by decide +kernel
theorem dX9_laysSpace_8 : decode cX9_laysSpace 8 = .ok (.if_icmp .ge 16, 3) := by decide +kernel
theorem dX9_laysSpace_24 : decode cX9_laysSpace 24 = .ok (.aload_n 0, 1) := by decide +kernel
theorem dX9_laysSpace_25 : decode cX9_laysSpace 25 = .ok (.getfield 78, 3) := by decide +kernel
theorem dX9_laysSpace_28 : decode cX9_laysSpace 28 = .ok (.iconst 0, 1) := by decide +kernel
theorem dX9_laysSpace_29 : decode cX9_laysSpace 29 = .ok (.iconst 1, 1) := by decide +kernel
theorem dX9_laysSpace_30 : decode cX9_laysSpace 30 = .ok (.iastore, 1) := by decide +kernel
theorem dX9_laysSpace_31 : decode cX9_laysSpace 31 = .ok (.aload_n 0, 1) := by decide +kernel
theorem dX9_laysSpace_32 : decode cX9_laysSpace 32 = .ok (.getfield 81, 3) := by decide +kernel
theorem dX9_laysSpace_35 : decode cX9_laysSpace 35 = .ok (.iconst 0, 1) := by decide +kernel
theorem dX9_laysSpace_36 : decode cX9_laysSpace 36 = .ok (.iconst 2, 1) := by decide +kernel
theorem dX9_laysSpace_37 : decode cX9_laysSpace 37 = .ok (.iastore, 1) := by decide +kernel
theorem dX9_laysSpace_38 : decode cX9_laysSpace 38 = .ok (.aload_n 0, 1) := by decide +kernel
theorem dX9_laysSpace_39 : decode cX9_laysSpace 39 = .ok (.getfield 84, 3) := by decide +kernel
theorem dX9_laysSpace_42 : decode cX9_laysSpace 42 = .ok (.iconst 0, 1) := by decide +kernel
theorem dX9_laysSpace_43 : decode cX9_laysSpace 43 = .ok (.iconst 3, 1) := by decide +kernel
theorem dX9_laysSpace_44 : decode cX9_laysSpace 44 = .ok (.iastore, 1) := by decide +kernel
theorem dX9_laysSpace_45 : decode cX9_laysSpace 45 = .ok (.aload_n 0, 1) := by decide +kernel
theorem dX9_laysSpace_46 : decode cX9_laysSpace 46 = .ok (.iconst 0, 1) := by decide +kernel
theorem dX9_laysSpace_47 : decode cX9_laysSpace 47 = .ok (.aload_n 0, 1) := by decide +kernel
theorem dX9_laysSpace_48 : decode cX9_laysSpace 48 = .ok (.getfield 7, 3) := by decide +kernel
theorem dX9_laysSpace_51 : decode cX9_laysSpace 51 = .ok (.iconst 1, 1) := by decide +kernel
theorem dX9_laysSpace_52 : decode cX9_laysSpace 52 = .ok (.iaload, 1) := by decide +kernel
theorem dX9_laysSpace_53 : decode cX9_laysSpace 53 = .ok (.aload_n 0, 1) := by decide +kernel
theorem dX9_laysSpace_54 : decode cX9_laysSpace 54 = .ok (.getfield 7, 3) := by decide +kernel
theorem dX9_laysSpace_57 : decode cX9_laysSpace 57 = .ok (.iconst 2, 1) := by decide +kernel
theorem dX9_laysSpace_58 : decode cX9_laysSpace 58 = .ok (.iaload, 1) := by decide +kernel
theorem dX9_laysSpace_59 : decode cX9_laysSpace 59 = .ok (.invokevirtual 276, 3) := by decide +kernel
theorem dX9_laysSpace_62 : decode cX9_laysSpace 62 = .ok (.iconst 1, 1) := by decide +kernel
theorem dX9_laysSpace_63 : decode cX9_laysSpace 63 = .ok (.istore_n 2, 1) := by decide +kernel
theorem dX9_laysSpace_64 : decode cX9_laysSpace 64 = .ok (.iload_n 2, 1) := by decide +kernel
theorem dX9_laysSpace_65 : decode cX9_laysSpace 65 = .ok (.aload_n 0, 1) := by decide +kernel
theorem dX9_laysSpace_66 : decode cX9_laysSpace 66 = .ok (.getfield 7, 3) := by decide +kernel
theorem dX9_laysSpace_69 : decode cX9_laysSpace 69 = .ok (.iconst 3, 1) := by decide +kernel
theorem dX9_laysSpace_70 : decode cX9_laysSpace 70 = .ok (.iaload, 1) := by decide +kernel
theorem dX9_laysSpace_71 : decode cX9_laysSpace 71 = .ok (.if_icmp .ge 65, 3) := by decide +kernel
theorem dX9_laysSpace_136 : decode cX9_laysSpace 136 = .ok (.return_, 1) := by decide +kernel
theorem dX9_laysSpace_74 : decode cX9_laysSpace 74 = .ok (.iload_n 1, 1) := by decide +kernel
theorem dX9_laysSpace_75 : decode cX9_laysSpace 75 = .ok (.iload_n 2, 1) := by decide +kernel
theorem dX9_laysSpace_76 : decode cX9_laysSpace 76 = .ok (.iconst 1, 1) := by decide +kernel
theorem dX9_laysSpace_77 : decode cX9_laysSpace 77 = .ok (.isub, 1) := by decide +kernel
theorem dX9_laysSpace_78 : decode cX9_laysSpace 78 = .ok (.invokestatic 225, 3) := by decide +kernel
theorem dX9_laysSpace_115 : decode cX9_laysSpace 115 = .ok (.aload_n 0, 1) := by decide +kernel
theorem dX9_laysSpace_116 : decode cX9_laysSpace 116 = .ok (.iload_n 2, 1) := by decide +kernel
theorem dX9_laysSpace_117 : decode cX9_laysSpace 117 = .ok (.aload_n 0, 1) := by decide +kernel
theorem dX9_laysSpace_118 : decode cX9_laysSpace 118 = .ok (.iload_n 2, 1) := by decide +kernel
theorem dX9_laysSpace_119 : decode cX9_laysSpace 119 = .ok (.invokevirtual 270, 3) := by decide +kernel
theorem dX9_laysSpace_122 : decode cX9_laysSpace 122 = .ok (.aload_n 0, 1) := by decide +kernel
theorem dX9_laysSpace_123 : decode cX9_laysSpace 123 = .ok (.iload_n 2, 1) := by decide +kernel
theorem dX9_laysSpace_124 : decode cX9_laysSpace 124 = .ok (.invokevirtual 267, 3) := by decide +kernel
theorem dX9_laysSpace_127 : decode cX9_laysSpace 127 = .ok (.invokevirtual 276, 3) := by decide +kernel
theorem dX9_laysSpace_130 : decode cX9_laysSpace 130 = .ok (.iinc 2 1, 3) := by decide +kernel
theorem dX9_laysSpace_133 : decode cX9_laysSpace 133 = .ok (.goto (-69), 3) := by decide +kernel
theorem dX9_laysSpace_81 : decode cX9_laysSpace 81 = .ok (.ifCond .eq 20, 3) := by decide +kernel
theorem dX9_laysSpace_101 : decode cX9_laysSpace 101 = .ok (.aload_n 0, 1) := by decide +kernel
theorem dX9_laysSpace_102 : decode cX9_laysSpace 102 = .ok (.iload_n 2, 1) := by decide +kernel
theorem dX9_laysSpace_103 : decode cX9_laysSpace 103 = .ok (.aload_n 0, 1) := by decide +kernel
theorem dX9_laysSpace_104 : decode cX9_laysSpace 104 = .ok (.getfield 7, 3) := by decide +kernel
theorem dX9_laysSpace_107 : decode cX9_laysSpace 107 = .ok (.bipush 13, 2) := by decide +kernel
theorem dX9_laysSpace_109 : decode cX9_laysSpace 109 = .ok (.iload_n 2, 1) := by decide +kernel
theorem dX9_laysSpace_110 : decode cX9_laysSpace 110 = .ok (.iadd, 1) := by decide +kernel
theorem dX9_laysSpace_111 : decode cX9_laysSpace 111 = .ok (.iaload, 1) := by decide +kernel
theorem dX9_laysSpace_112 : decode cX9_laysSpace 112 = .ok (.invokevirtual 282, 3) := by decide +kernel
theorem dX9_laysSpace_84 : decode cX9_laysSpace 84 = .ok (.aload_n 0, 1) := by decide +kernel
theorem dX9_laysSpace_85 : decode cX9_laysSpace 85 = .ok (.iload_n 2, 1) := by decide +kernel
theorem dX9_laysSpace_86 : decode cX9_laysSpace 86 = .ok (.aload_n 0, 1) := by decide +kernel
theorem dX9_laysSpace_87 : decode cX9_laysSpace 87 = .ok (.getfield 7, 3) := by decide +kernel
theorem dX9_laysSpace_90 : decode cX9_laysSpace 90 = .ok (.bipush 13, 2) := by decide +kernel
theorem dX9_laysSpace_92 : decode cX9_laysSpace 92 = .ok (.iload_n 2, 1) := by decide +kernel
theorem dX9_laysSpace_93 : decode cX9_laysSpace 93 = .ok (.iadd, 1) := by decide +kernel
theorem dX9_laysSpace_94 : decode cX9_laysSpace 94 = .ok (.iaload, 1) := by decide +kernel
theorem dX9_laysSpace_95 : decode cX9_laysSpace 95 = .ok (.invokevirtual 279, 3) := by decide +kernel
theorem dX9_laysSpace_98 : decode cX9_laysSpace 98 = .ok (.goto 17, 3) := by decide +kernel
theorem dX9_laysSpace_11 : decode cX9_laysSpace 11 = .ok (.aload_n 0, 1) := by decide +kernel
theorem dX9_laysSpace_12 : decode cX9_laysSpace 12 = .ok (.getfield 75, 3) := by decide +kernel
theorem dX9_laysSpace_15 : decode cX9_laysSpace 15 = .ok (.iload_n 2, 1) := by decide +kernel
theorem dX9_laysSpace_16 : decode cX9_laysSpace 16 = .ok (.iconst 0, 1) := by decide +kernel
theorem dX9_laysSpace_17 : decode cX9_laysSpace 17 = .ok (.iastore, 1) := by decide +kernel
theorem dX9_laysSpace_18 : decode cX9_laysSpace 18 = .ok (.iinc 2 1, 3) := by decide +kernel
theorem dX9_laysSpace_21 : decode cX9_laysSpace 21 = .ok (.goto (-15), 3) := by decide +kernel
abbrev rm_kX9_laysSpace : Room := { frames := 4, cells := 0, slots := 0, locals := 93 }
set_option maxHeartbeats 4000000 in
set_option maxRecDepth 100000 in
theorem kX9_laysSpace (l : Launch) (g : zL) (h0 : Nat) (x1 : Int32) (h0_told : Nat) (h0_read : Nat) (h0_now : Nat) (h0_readNow : Nat) (h0_kept : Nat) (h0_undone : Int32) (h0_seed : Int32) (h0_hasPart : Int32) (h0_tape : Nat) (h0_taped : Int32) (h0_refused : Nat) (h0_faultKind : Int32) (h0_faultPlace : Int32) (h0_size : Int32) (h0_at : Int32) (h0_from : Int32) (h0_wrong : Int32) (h0_wrongAt : Int32) (h0_ownLetters : Nat) (h0_flats : Nat) (h0_isLaid : Int32) (h0_corner : Nat) (h0_wayX : Nat) (h0_wayY : Nat) (h0_normal : Nat) (h0_low : Nat) (h0_high : Nat) (h0_clear : Nat) (h0_ways : Nat) (h0_canBe : Nat) (h0_lain : Nat) (h0_canTool : Int32) (h0_fewestBy : Nat) (h0_sortOf : Nat) (h0_rows : Int32) (h0_seenFlange : Nat) (h0_seenLength : Nat) (f_h0_flats : Nat → Int32) (f_h0_told : Nat → Int32) (h0_told_3 : Int32) (h0_told_4 : Int32) (f_h0_now : Nat → Int32) (h0_now_0 : Int32) (f_h0_corner : Nat → Int32) (f_h0_wayX : Nat → Int32) (f_h0_wayY : Nat → Int32) (f_h0_normal : Nat → Int32) (f_h0_low : Nat → Int32) (f_h0_high : Nat → Int32) (hy0 : 0 ≤ h0_undone.toInt ∧ h0_undone.toInt ≤ 20) (hy1 : 0 ≤ h0_seed.toInt ∧ h0_seed.toInt ≤ 2147483647) (hy2 : 0 ≤ h0_hasPart.toInt ∧ h0_hasPart.toInt ≤ 1) (hy3 : 0 ≤ h0_taped.toInt ∧ h0_taped.toInt ≤ 1200) (hy4 : 0 ≤ h0_faultKind.toInt ∧ h0_faultKind.toInt ≤ 5) (hy5 : 0 ≤ h0_size.toInt ∧ h0_size.toInt ≤ 1200) (hy6 : 0 ≤ h0_at.toInt ∧ h0_at.toInt ≤ 1200) (hy7 : 0 ≤ h0_from.toInt ∧ h0_from.toInt ≤ 1200) (hy8 : 0 ≤ h0_wrong.toInt ∧ h0_wrong.toInt ≤ 5) (hy9 : 0 ≤ h0_isLaid.toInt ∧ h0_isLaid.toInt ≤ 1) (hy10 : 0 ≤ h0_canTool.toInt ∧ h0_canTool.toInt ≤ 255) (hy11 : 0 ≤ h0_rows.toInt ∧ h0_rows.toInt ≤ 8) (hy12 : pW mB f_h0_told) (hy13 : 1 ≤ h0_told_3.toInt ∧ h0_told_3.toInt ≤ 9) (hy14 : cEq f_h0_told 3 h0_told_3) (hy15 : 0 ≤ h0_told_4.toInt ∧ h0_told_4.toInt ≤ 8) (hy16 : cEq f_h0_told 4 h0_told_4) (hy17 : pW nB f_h0_now) (hy18 : 0 ≤ h0_now_0.toInt ∧ h0_now_0.toInt ≤ 255) (hy19 : cEq f_h0_now 0 h0_now_0) (hy20 : aI (-3) 3 f_h0_wayX) (hy21 : aI (-3) 3 f_h0_wayY) (hy22 : aI (-3) 3 f_h0_normal) (hy23 : ((h0_hasPart.toInt = 0 ∧ h0_told_3.toInt = 0) ∨ (h0_hasPart.toInt = 1 ∧ 1 ≤ h0_told_3.toInt))) : zCv l g yX9_laysSpace cX9_laysSpace 3 none rm_kX9_laysSpace [.ref h0, .int x1] [(h0, .inr (9, [.ref h0_told, .ref h0_read, .ref h0_now, .ref h0_readNow, .ref h0_kept, .int h0_undone, .int h0_seed, .int h0_hasPart, .ref h0_tape, .int h0_taped, .ref h0_refused, .int h0_faultKind, .int h0_faultPlace, .int h0_size, .int h0_at, .int h0_from, .int h0_wrong, .int h0_wrongAt, .ref h0_ownLetters, .ref h0_flats, .int h0_isLaid, .ref h0_corner, .ref h0_wayX, .ref h0_wayY, .ref h0_normal, .ref h0_low, .ref h0_high, .ref h0_clear, .ref h0_ways, .ref h0_canBe, .ref h0_lain, .int h0_canTool, .ref h0_fewestBy, .ref h0_sortOf, .int h0_rows, .ref h0_seenFlange, .ref h0_seenLength])), (h0_flats, .inl (g.2.1.1, 72, .inl f_h0_flats)), (h0_told, .inl (g.2.1.1, 103, .inl f_h0_told)), (h0_now, .inl (g.2.1.1, 21, .inl f_h0_now)), (h0_corner, .inl (g.2.1.1, 30, .inl f_h0_corner)), (h0_wayX, .inl (g.2.1.1, 10, .inl f_h0_wayX)), (h0_wayY, .inl (g.2.1.1, 10, .inl f_h0_wayY)), (h0_normal, .inl (g.2.1.1, 10, .inl f_h0_normal)), (h0_low, .inl (g.2.1.1, 30, .inl f_h0_low)), (h0_high, .inl (g.2.1.1, 30, .inl f_h0_high))] (fun (u : Int32 × (Nat → Int32) × (Nat → Int32) × (Nat → Int32) × (Nat → Int32) × (Nat → Int32) × (Nat → Int32) × (Nat → Int32)) => (1 ≤ u.1.toInt ∧ u.1.toInt ≤ 1) ∧ (aI (-3) 3 u.2.2.2.1) ∧ (aI (-3) 3 u.2.2.2.2.1) ∧ (aI (-3) 3 u.2.2.2.2.2.1) ∧ (pNz h0_told_3 u.2.2.2.1 u.2.2.2.2.1 u.2.2.2.2.2.1)) (fun (u : Int32 × (Nat → Int32) × (Nat → Int32) × (Nat → Int32) × (Nat → Int32) × (Nat → Int32) × (Nat → Int32) × (Nat → Int32)) => [(h0, .inr (9, [.ref h0_told, .ref h0_read, .ref h0_now, .ref h0_readNow, .ref h0_kept, .int h0_undone, .int h0_seed, .int h0_hasPart, .ref h0_tape, .int h0_taped, .ref h0_refused, .int h0_faultKind, .int h0_faultPlace, .int h0_size, .int h0_at, .int h0_from, .int h0_wrong, .int h0_wrongAt, .ref h0_ownLetters, .ref h0_flats, .int u.1, .ref h0_corner, .ref h0_wayX, .ref h0_wayY, .ref h0_normal, .ref h0_low, .ref h0_high, .ref h0_clear, .ref h0_ways, .ref h0_canBe, .ref h0_lain, .int h0_canTool, .ref h0_fewestBy, .ref h0_sortOf, .int h0_rows, .ref h0_seenFlange, .ref h0_seenLength])), (h0_flats, .inl (g.2.1.1, 72, .inl u.2.1)), (h0_told, .inl (g.2.1.1, 103, .inl f_h0_told)), (h0_now, .inl (g.2.1.1, 21, .inl f_h0_now)), (h0_corner, .inl (g.2.1.1, 30, .inl u.2.2.1)), (h0_wayX, .inl (g.2.1.1, 10, .inl u.2.2.2.1)), (h0_wayY, .inl (g.2.1.1, 10, .inl u.2.2.2.2.1)), (h0_normal, .inl (g.2.1.1, 10, .inl u.2.2.2.2.2.1)), (h0_low, .inl (g.2.1.1, 30, .inl u.2.2.2.2.2.2.1)), (h0_high, .inl (g.2.1.1, 30, .inl u.2.2.2.2.2.2.2))]) := by
  refine zCv.mk2 (by decide) (Nat.le_of_ble_eq_true rfl) ?_
  intro p e s m below meth c A args Q hE hret hP hD hS ls hl
  obtain ⟨hx, hb, hr, hml, hown, hG, hlocks, hnm, hX, hA⟩ := hE
  have hown : s.vm.findClass RX9 = some m.cls := hown
  have hl : lv_has ls 3 [(0, .ref h0), (1, .int x1)] := hl
  refine lv_aload_n hx hb dX9_laysSpace_0 rfl (lv_at hl 0 rfl) ?_
  refine zfv (wr := [(h0_corner, .inl (g.2.1.1, 30, .inl f_h0_corner)), (h0_wayX, .inl (g.2.1.1, 10, .inl f_h0_wayX)), (h0_wayY, .inl (g.2.1.1, 10, .inl f_h0_wayY)), (h0_normal, .inl (g.2.1.1, 10, .inl f_h0_normal)), (h0_low, .inl (g.2.1.1, 30, .inl f_h0_low)), (h0_high, .inl (g.2.1.1, 30, .inl f_h0_high))]) (va_runV (As := []) (rest := []) ⟨hx, hb, hml, hown, hG⟩ (kX9_laysFlat l g h0 h0_told h0_read h0_now h0_readNow h0_kept h0_undone h0_seed h0_hasPart h0_tape h0_taped h0_refused h0_faultKind h0_faultPlace h0_size h0_at h0_from h0_wrong h0_wrongAt h0_ownLetters h0_flats h0_isLaid h0_corner h0_wayX h0_wayY h0_normal h0_low h0_high h0_clear h0_ways h0_canBe h0_lain h0_canTool h0_fewestBy h0_sortOf h0_rows h0_seenFlange h0_seenLength f_h0_flats f_h0_told h0_told_3 h0_told_4 f_h0_now h0_now_0 (om_27 hy0) (om_28 hy1) (om_29 hy2) (om_32 hy3) (om_31 hy4) (om_32 hy5) (om_32 hy6) (om_32 hy7) (om_31 hy8) (om_29 hy9) (om_13 hy10) (om_33 hy11) hy12 (om_195 hy13) hy14 (om_33 hy15) hy16 hy17 (om_13 hy18) hy19 (om_535 hy13 hy2 hy23) _) ⟨callB_of 0 hG (zGood wc_X9_laysFlat) rfl rfl rfl (hG _ wini_X9) (hG _ wm_X9_255) hX9_laysFlat ⟨Nat.le_of_ble_eq_true rfl, Nat.le_of_ble_eq_true rfl⟩, hG _ wi_X9_laysFlat, hG _ wse_X9_X9_laysFlat⟩ (zpreV (va_recv hX.1 hP (ci := 9) (q0 := 0) rfl rfl) hX hP hD hS hA [0, 1, 2, 3] rfl (by decide)) rfl rfl hl.1 rfl (lv_room (Nat.le_of_ble_eq_true rfl)) dX9_laysSpace_1 ⟨Nat.le_of_ble_eq_true rfl, Nat.le_of_ble_eq_true rfl⟩) hP hD hS hA [0, 1, 2, 3] [4, 5, 6, 7, 8, 9] rfl rfl (by decide) (by decide) (fun u2 H locs hp hP hD hS => ?_)
  refine W.cs (cells' := 0) (slots' := 0) rfl rfl ?_
  obtain ⟨v3, f4⟩ := u2
  have hq5 : 1 ≤ v3.toInt ∧ v3.toInt ≤ 1 := hp
  have hP : va_P g.1 vwCl [(h0_corner, .inl (g.2.1.1, 30, .inl f_h0_corner)), (h0_wayX, .inl (g.2.1.1, 10, .inl f_h0_wayX)), (h0_wayY, .inl (g.2.1.1, 10, .inl f_h0_wayY)), (h0_normal, .inl (g.2.1.1, 10, .inl f_h0_normal)), (h0_low, .inl (g.2.1.1, 30, .inl f_h0_low)), (h0_high, .inl (g.2.1.1, 30, .inl f_h0_high)), (h0, .inr (9, [.ref h0_told, .ref h0_read, .ref h0_now, .ref h0_readNow, .ref h0_kept, .int h0_undone, .int h0_seed, .int h0_hasPart, .ref h0_tape, .int h0_taped, .ref h0_refused, .int h0_faultKind, .int h0_faultPlace, .int h0_size, .int h0_at, .int h0_from, .int h0_wrong, .int h0_wrongAt, .ref h0_ownLetters, .ref h0_flats, .int v3, .ref h0_corner, .ref h0_wayX, .ref h0_wayY, .ref h0_normal, .ref h0_low, .ref h0_high, .ref h0_clear, .ref h0_ways, .ref h0_canBe, .ref h0_lain, .int h0_canTool, .ref h0_fewestBy, .ref h0_sortOf, .int h0_rows, .ref h0_seenFlange, .ref h0_seenLength])), (h0_flats, .inl (g.2.1.1, 72, .inl f4)), (h0_told, .inl (g.2.1.1, 103, .inl f_h0_told)), (h0_now, .inl (g.2.1.1, 21, .inl f_h0_now))] H := hP
  have hD : va_D A [(h0_corner, .inl (g.2.1.1, 30, .inl f_h0_corner)), (h0_wayX, .inl (g.2.1.1, 10, .inl f_h0_wayX)), (h0_wayY, .inl (g.2.1.1, 10, .inl f_h0_wayY)), (h0_normal, .inl (g.2.1.1, 10, .inl f_h0_normal)), (h0_low, .inl (g.2.1.1, 30, .inl f_h0_low)), (h0_high, .inl (g.2.1.1, 30, .inl f_h0_high)), (h0, .inr (9, [.ref h0_told, .ref h0_read, .ref h0_now, .ref h0_readNow, .ref h0_kept, .int h0_undone, .int h0_seed, .int h0_hasPart, .ref h0_tape, .int h0_taped, .ref h0_refused, .int h0_faultKind, .int h0_faultPlace, .int h0_size, .int h0_at, .int h0_from, .int h0_wrong, .int h0_wrongAt, .ref h0_ownLetters, .ref h0_flats, .int v3, .ref h0_corner, .ref h0_wayX, .ref h0_wayY, .ref h0_normal, .ref h0_low, .ref h0_high, .ref h0_clear, .ref h0_ways, .ref h0_canBe, .ref h0_lain, .int h0_canTool, .ref h0_fewestBy, .ref h0_sortOf, .int h0_rows, .ref h0_seenFlange, .ref h0_seenLength])), (h0_flats, .inl (g.2.1.1, 72, .inl f4)), (h0_told, .inl (g.2.1.1, 103, .inl f_h0_told)), (h0_now, .inl (g.2.1.1, 21, .inl f_h0_now))] := hD
  refine lv_iconst (v := 0) hx hb dX9_laysSpace_4 (by decide) ?_
  refine lv_istore_n (lv' := [(2, .int 0), (0, .ref h0), (1, .int x1)]) hx hb dX9_laysSpace_5 rfl hl (by decide) rfl (fun ls hl => ?_)
  have L1789 : ∀ (n : Nat) (v908 : Int32) (fn909 : Nat → Int32) (H : Heap) (locs : List Loc) (ls : Array Slot), 0 ≤ v908.toInt ∧ v908.toInt ≤ 3 → (4 - v908.toInt).toNat < n → va_P g.1 vwCl [(h0_corner, .inl (g.2.1.1, 30, .inl fn909)), (h0_wayX, .inl (g.2.1.1, 10, .inl f_h0_wayX)), (h0_wayY, .inl (g.2.1.1, 10, .inl f_h0_wayY)), (h0_normal, .inl (g.2.1.1, 10, .inl f_h0_normal)), (h0_low, .inl (g.2.1.1, 30, .inl f_h0_low)), (h0_high, .inl (g.2.1.1, 30, .inl f_h0_high)), (h0, .inr (9, [.ref h0_told, .ref h0_read, .ref h0_now, .ref h0_readNow, .ref h0_kept, .int h0_undone, .int h0_seed, .int h0_hasPart, .ref h0_tape, .int h0_taped, .ref h0_refused, .int h0_faultKind, .int h0_faultPlace, .int h0_size, .int h0_at, .int h0_from, .int h0_wrong, .int h0_wrongAt, .ref h0_ownLetters, .ref h0_flats, .int v3, .ref h0_corner, .ref h0_wayX, .ref h0_wayY, .ref h0_normal, .ref h0_low, .ref h0_high, .ref h0_clear, .ref h0_ways, .ref h0_canBe, .ref h0_lain, .int h0_canTool, .ref h0_fewestBy, .ref h0_sortOf, .int h0_rows, .ref h0_seenFlange, .ref h0_seenLength])), (h0_flats, .inl (g.2.1.1, 72, .inl f4)), (h0_told, .inl (g.2.1.1, 103, .inl f_h0_told)), (h0_now, .inl (g.2.1.1, 21, .inl f_h0_now))] H → va_D A [(h0_corner, .inl (g.2.1.1, 30, .inl fn909)), (h0_wayX, .inl (g.2.1.1, 10, .inl f_h0_wayX)), (h0_wayY, .inl (g.2.1.1, 10, .inl f_h0_wayY)), (h0_normal, .inl (g.2.1.1, 10, .inl f_h0_normal)), (h0_low, .inl (g.2.1.1, 30, .inl f_h0_low)), (h0_high, .inl (g.2.1.1, 30, .inl f_h0_high)), (h0, .inr (9, [.ref h0_told, .ref h0_read, .ref h0_now, .ref h0_readNow, .ref h0_kept, .int h0_undone, .int h0_seed, .int h0_hasPart, .ref h0_tape, .int h0_taped, .ref h0_refused, .int h0_faultKind, .int h0_faultPlace, .int h0_size, .int h0_at, .int h0_from, .int h0_wrong, .int h0_wrongAt, .ref h0_ownLetters, .ref h0_flats, .int v3, .ref h0_corner, .ref h0_wayX, .ref h0_wayY, .ref h0_normal, .ref h0_low, .ref h0_high, .ref h0_clear, .ref h0_ways, .ref h0_canBe, .ref h0_lain, .int h0_canTool, .ref h0_fewestBy, .ref h0_sortOf, .int h0_rows, .ref h0_seenFlange, .ref h0_seenLength])), (h0_flats, .inl (g.2.1.1, 72, .inl f4)), (h0_told, .inl (g.2.1.1, 103, .inl f_h0_told)), (h0_now, .inl (g.2.1.1, 21, .inl f_h0_now))] → va_S A s.heap H locs → lv_has ls 3 [(0, .ref h0), (1, .int x1), (2, .int v908)] → W p l e rm_kX9_laysSpace s m args below meth c H locs 0 0 Q (F0 m 6 ls []) := by
    intro n1790
    induction n1790 with
    | zero => intro v908 fn909 H locs ls i1792 hm1793; exact absurd hm1793 (Nat.not_lt_zero _)
    | succ n1790 ih1791 =>
      intro v908 fn909 H locs ls i1792 hm1793 hP hD hS hl
      refine lv_iload_n hx hb dX9_laysSpace_6 rfl (lv_at hl 2 rfl) ?_
      refine lv_iconst (v := 3) hx hb dX9_laysSpace_7 (by decide) ?_
      refine lv_icmp_ge (tgt := 24) hx hb dX9_laysSpace_8 (by decide) (fun c1794 => ?_) (fun c1794 => ?_)
      · skip
        have c1794i : (3 : Int) ≤ v908.toInt := (zc_le (show (3 : Int32).toInt = (3 : Int) from by decide) (rfl : v908.toInt = _)).mp c1794
        refine lv_aload_n hx hb dX9_laysSpace_24 rfl (lv_at hl 0 rfl) ?_
        refine va_get (D := g.1) (ci := 9) (v := .ref h0_wayX) (C := RX9) (T := TX9) (N := 37) hx hb hG iX9 hown hX.1 hP 6 rfl rfl 22 (by decide) (hG _ wf_X9_78) (fun _ h9 => h9) rfl dX9_laysSpace_25 ?_
        refine lv_iconst (v := 0) hx hb dX9_laysSpace_28 (by decide) ?_
        refine lv_iconst (v := 1) hx hb dX9_laysSpace_29 (by decide) ?_
        refine va_iast hx hb hX.1 hP hD hS 1 0 rfl rfl (zin (show (0 : Int32).toInt = (0 : Int) from by decide) ((show 0 ≤ (0 : Int) ∧ (0 : Int) < 10 from by decide))) dX9_laysSpace_30 (fun H locs hP hD hS => ?_)
        obtain ⟨f1795, e1796⟩ : ∃ z9 : Nat → Int32, z9 = upd f_h0_wayX (0 : Int32).toNatClampNeg (1 : Int32) := ⟨_, rfl⟩
        rw [← e1796] at hP hD
        have hf1797 : aI (-3) 3 f1795 := hy20.up e1796 (show (1 : Int32).toInt = (1 : Int) from by decide) ((show (-3) ≤ (1 : Int) ∧ (1 : Int) ≤ 3 from by decide))
        have hP : va_P g.1 vwCl [(h0_corner, .inl (g.2.1.1, 30, .inl fn909)), (h0_wayX, .inl (g.2.1.1, 10, .inl f1795)), (h0_wayY, .inl (g.2.1.1, 10, .inl f_h0_wayY)), (h0_normal, .inl (g.2.1.1, 10, .inl f_h0_normal)), (h0_low, .inl (g.2.1.1, 30, .inl f_h0_low)), (h0_high, .inl (g.2.1.1, 30, .inl f_h0_high)), (h0, .inr (9, [.ref h0_told, .ref h0_read, .ref h0_now, .ref h0_readNow, .ref h0_kept, .int h0_undone, .int h0_seed, .int h0_hasPart, .ref h0_tape, .int h0_taped, .ref h0_refused, .int h0_faultKind, .int h0_faultPlace, .int h0_size, .int h0_at, .int h0_from, .int h0_wrong, .int h0_wrongAt, .ref h0_ownLetters, .ref h0_flats, .int v3, .ref h0_corner, .ref h0_wayX, .ref h0_wayY, .ref h0_normal, .ref h0_low, .ref h0_high, .ref h0_clear, .ref h0_ways, .ref h0_canBe, .ref h0_lain, .int h0_canTool, .ref h0_fewestBy, .ref h0_sortOf, .int h0_rows, .ref h0_seenFlange, .ref h0_seenLength])), (h0_flats, .inl (g.2.1.1, 72, .inl f4)), (h0_told, .inl (g.2.1.1, 103, .inl f_h0_told)), (h0_now, .inl (g.2.1.1, 21, .inl f_h0_now))] H := hP
        have hD : va_D A [(h0_corner, .inl (g.2.1.1, 30, .inl fn909)), (h0_wayX, .inl (g.2.1.1, 10, .inl f1795)), (h0_wayY, .inl (g.2.1.1, 10, .inl f_h0_wayY)), (h0_normal, .inl (g.2.1.1, 10, .inl f_h0_normal)), (h0_low, .inl (g.2.1.1, 30, .inl f_h0_low)), (h0_high, .inl (g.2.1.1, 30, .inl f_h0_high)), (h0, .inr (9, [.ref h0_told, .ref h0_read, .ref h0_now, .ref h0_readNow, .ref h0_kept, .int h0_undone, .int h0_seed, .int h0_hasPart, .ref h0_tape, .int h0_taped, .ref h0_refused, .int h0_faultKind, .int h0_faultPlace, .int h0_size, .int h0_at, .int h0_from, .int h0_wrong, .int h0_wrongAt, .ref h0_ownLetters, .ref h0_flats, .int v3, .ref h0_corner, .ref h0_wayX, .ref h0_wayY, .ref h0_normal, .ref h0_low, .ref h0_high, .ref h0_clear, .ref h0_ways, .ref h0_canBe, .ref h0_lain, .int h0_canTool, .ref h0_fewestBy, .ref h0_sortOf, .int h0_rows, .ref h0_seenFlange, .ref h0_seenLength])), (h0_flats, .inl (g.2.1.1, 72, .inl f4)), (h0_told, .inl (g.2.1.1, 103, .inl f_h0_told)), (h0_now, .inl (g.2.1.1, 21, .inl f_h0_now))] := hD
        refine lv_aload_n hx hb dX9_laysSpace_31 rfl (lv_at hl 0 rfl) ?_
        refine va_get (D := g.1) (ci := 9) (v := .ref h0_wayY) (C := RX9) (T := TX9) (N := 37) hx hb hG iX9 hown hX.1 hP 6 rfl rfl 23 (by decide) (hG _ wf_X9_81) (fun _ h9 => h9) rfl dX9_laysSpace_32 ?_
        refine lv_iconst (v := 0) hx hb dX9_laysSpace_35 (by decide) ?_
        refine lv_iconst (v := 2) hx hb dX9_laysSpace_36 (by decide) ?_
        refine va_iast hx hb hX.1 hP hD hS 2 0 rfl rfl (zin (show (0 : Int32).toInt = (0 : Int) from by decide) ((show 0 ≤ (0 : Int) ∧ (0 : Int) < 10 from by decide))) dX9_laysSpace_37 (fun H locs hP hD hS => ?_)
        obtain ⟨f1798, e1799⟩ : ∃ z9 : Nat → Int32, z9 = upd f_h0_wayY (0 : Int32).toNatClampNeg (2 : Int32) := ⟨_, rfl⟩
        rw [← e1799] at hP hD
        have hf1800 : aI (-3) 3 f1798 := hy21.up e1799 (show (2 : Int32).toInt = (2 : Int) from by decide) ((show (-3) ≤ (2 : Int) ∧ (2 : Int) ≤ 3 from by decide))
        have hP : va_P g.1 vwCl [(h0_corner, .inl (g.2.1.1, 30, .inl fn909)), (h0_wayX, .inl (g.2.1.1, 10, .inl f1795)), (h0_wayY, .inl (g.2.1.1, 10, .inl f1798)), (h0_normal, .inl (g.2.1.1, 10, .inl f_h0_normal)), (h0_low, .inl (g.2.1.1, 30, .inl f_h0_low)), (h0_high, .inl (g.2.1.1, 30, .inl f_h0_high)), (h0, .inr (9, [.ref h0_told, .ref h0_read, .ref h0_now, .ref h0_readNow, .ref h0_kept, .int h0_undone, .int h0_seed, .int h0_hasPart, .ref h0_tape, .int h0_taped, .ref h0_refused, .int h0_faultKind, .int h0_faultPlace, .int h0_size, .int h0_at, .int h0_from, .int h0_wrong, .int h0_wrongAt, .ref h0_ownLetters, .ref h0_flats, .int v3, .ref h0_corner, .ref h0_wayX, .ref h0_wayY, .ref h0_normal, .ref h0_low, .ref h0_high, .ref h0_clear, .ref h0_ways, .ref h0_canBe, .ref h0_lain, .int h0_canTool, .ref h0_fewestBy, .ref h0_sortOf, .int h0_rows, .ref h0_seenFlange, .ref h0_seenLength])), (h0_flats, .inl (g.2.1.1, 72, .inl f4)), (h0_told, .inl (g.2.1.1, 103, .inl f_h0_told)), (h0_now, .inl (g.2.1.1, 21, .inl f_h0_now))] H := hP
        have hD : va_D A [(h0_corner, .inl (g.2.1.1, 30, .inl fn909)), (h0_wayX, .inl (g.2.1.1, 10, .inl f1795)), (h0_wayY, .inl (g.2.1.1, 10, .inl f1798)), (h0_normal, .inl (g.2.1.1, 10, .inl f_h0_normal)), (h0_low, .inl (g.2.1.1, 30, .inl f_h0_low)), (h0_high, .inl (g.2.1.1, 30, .inl f_h0_high)), (h0, .inr (9, [.ref h0_told, .ref h0_read, .ref h0_now, .ref h0_readNow, .ref h0_kept, .int h0_undone, .int h0_seed, .int h0_hasPart, .ref h0_tape, .int h0_taped, .ref h0_refused, .int h0_faultKind, .int h0_faultPlace, .int h0_size, .int h0_at, .int h0_from, .int h0_wrong, .int h0_wrongAt, .ref h0_ownLetters, .ref h0_flats, .int v3, .ref h0_corner, .ref h0_wayX, .ref h0_wayY, .ref h0_normal, .ref h0_low, .ref h0_high, .ref h0_clear, .ref h0_ways, .ref h0_canBe, .ref h0_lain, .int h0_canTool, .ref h0_fewestBy, .ref h0_sortOf, .int h0_rows, .ref h0_seenFlange, .ref h0_seenLength])), (h0_flats, .inl (g.2.1.1, 72, .inl f4)), (h0_told, .inl (g.2.1.1, 103, .inl f_h0_told)), (h0_now, .inl (g.2.1.1, 21, .inl f_h0_now))] := hD
        refine lv_aload_n hx hb dX9_laysSpace_38 rfl (lv_at hl 0 rfl) ?_
        refine va_get (D := g.1) (ci := 9) (v := .ref h0_normal) (C := RX9) (T := TX9) (N := 37) hx hb hG iX9 hown hX.1 hP 6 rfl rfl 24 (by decide) (hG _ wf_X9_84) (fun _ h9 => h9) rfl dX9_laysSpace_39 ?_
        refine lv_iconst (v := 0) hx hb dX9_laysSpace_42 (by decide) ?_
        refine lv_iconst (v := 3) hx hb dX9_laysSpace_43 (by decide) ?_
        refine va_iast hx hb hX.1 hP hD hS 3 0 rfl rfl (zin (show (0 : Int32).toInt = (0 : Int) from by decide) ((show 0 ≤ (0 : Int) ∧ (0 : Int) < 10 from by decide))) dX9_laysSpace_44 (fun H locs hP hD hS => ?_)
        obtain ⟨f1801, e1802⟩ : ∃ z9 : Nat → Int32, z9 = upd f_h0_normal (0 : Int32).toNatClampNeg (3 : Int32) := ⟨_, rfl⟩
        rw [← e1802] at hP hD
        have hf1803 : aI (-3) 3 f1801 := hy22.up e1802 (show (3 : Int32).toInt = (3 : Int) from by decide) ((show (-3) ≤ (3 : Int) ∧ (3 : Int) ≤ 3 from by decide))
        have hP : va_P g.1 vwCl [(h0_corner, .inl (g.2.1.1, 30, .inl fn909)), (h0_wayX, .inl (g.2.1.1, 10, .inl f1795)), (h0_wayY, .inl (g.2.1.1, 10, .inl f1798)), (h0_normal, .inl (g.2.1.1, 10, .inl f1801)), (h0_low, .inl (g.2.1.1, 30, .inl f_h0_low)), (h0_high, .inl (g.2.1.1, 30, .inl f_h0_high)), (h0, .inr (9, [.ref h0_told, .ref h0_read, .ref h0_now, .ref h0_readNow, .ref h0_kept, .int h0_undone, .int h0_seed, .int h0_hasPart, .ref h0_tape, .int h0_taped, .ref h0_refused, .int h0_faultKind, .int h0_faultPlace, .int h0_size, .int h0_at, .int h0_from, .int h0_wrong, .int h0_wrongAt, .ref h0_ownLetters, .ref h0_flats, .int v3, .ref h0_corner, .ref h0_wayX, .ref h0_wayY, .ref h0_normal, .ref h0_low, .ref h0_high, .ref h0_clear, .ref h0_ways, .ref h0_canBe, .ref h0_lain, .int h0_canTool, .ref h0_fewestBy, .ref h0_sortOf, .int h0_rows, .ref h0_seenFlange, .ref h0_seenLength])), (h0_flats, .inl (g.2.1.1, 72, .inl f4)), (h0_told, .inl (g.2.1.1, 103, .inl f_h0_told)), (h0_now, .inl (g.2.1.1, 21, .inl f_h0_now))] H := hP
        have hD : va_D A [(h0_corner, .inl (g.2.1.1, 30, .inl fn909)), (h0_wayX, .inl (g.2.1.1, 10, .inl f1795)), (h0_wayY, .inl (g.2.1.1, 10, .inl f1798)), (h0_normal, .inl (g.2.1.1, 10, .inl f1801)), (h0_low, .inl (g.2.1.1, 30, .inl f_h0_low)), (h0_high, .inl (g.2.1.1, 30, .inl f_h0_high)), (h0, .inr (9, [.ref h0_told, .ref h0_read, .ref h0_now, .ref h0_readNow, .ref h0_kept, .int h0_undone, .int h0_seed, .int h0_hasPart, .ref h0_tape, .int h0_taped, .ref h0_refused, .int h0_faultKind, .int h0_faultPlace, .int h0_size, .int h0_at, .int h0_from, .int h0_wrong, .int h0_wrongAt, .ref h0_ownLetters, .ref h0_flats, .int v3, .ref h0_corner, .ref h0_wayX, .ref h0_wayY, .ref h0_normal, .ref h0_low, .ref h0_high, .ref h0_clear, .ref h0_ways, .ref h0_canBe, .ref h0_lain, .int h0_canTool, .ref h0_fewestBy, .ref h0_sortOf, .int h0_rows, .ref h0_seenFlange, .ref h0_seenLength])), (h0_flats, .inl (g.2.1.1, 72, .inl f4)), (h0_told, .inl (g.2.1.1, 103, .inl f_h0_told)), (h0_now, .inl (g.2.1.1, 21, .inl f_h0_now))] := hD
        refine lv_aload_n hx hb dX9_laysSpace_45 rfl (lv_at hl 0 rfl) ?_
        refine lv_iconst (v := 0) hx hb dX9_laysSpace_46 (by decide) ?_
        refine lv_aload_n hx hb dX9_laysSpace_47 rfl (lv_at hl 0 rfl) ?_
        refine va_get (D := g.1) (ci := 9) (v := .ref h0_told) (C := RX9) (T := TX9) (N := 37) hx hb hG iX9 hown hX.1 hP 6 rfl rfl 0 (by decide) (hG _ wf_X9_7) (fun _ h9 => h9) rfl dX9_laysSpace_48 ?_
        refine lv_iconst (v := 1) hx hb dX9_laysSpace_51 (by decide) ?_
        refine va_iald hx hb hX.1 hP 8 0 rfl rfl (zin (show (1 : Int32).toInt = (1 : Int) from by decide) ((show 0 ≤ (1 : Int) ∧ (1 : Int) < 103 from by decide))) dX9_laysSpace_52 ?_
        refine lv_topi (fun z1804 e1805 => ?_)
        refine lv_aload_n hx hb dX9_laysSpace_53 rfl (lv_at hl 0 rfl) ?_
        refine va_get (D := g.1) (ci := 9) (v := .ref h0_told) (C := RX9) (T := TX9) (N := 37) hx hb hG iX9 hown hX.1 hP 6 rfl rfl 0 (by decide) (hG _ wf_X9_7) (fun _ h9 => h9) rfl dX9_laysSpace_54 ?_
        refine lv_iconst (v := 2) hx hb dX9_laysSpace_57 (by decide) ?_
        refine va_iald hx hb hX.1 hP 8 0 rfl rfl (zin (show (2 : Int32).toInt = (2 : Int) from by decide) ((show 0 ≤ (2 : Int) ∧ (2 : Int) < 103 from by decide))) dX9_laysSpace_58 ?_
        refine lv_topi (fun z1806 e1807 => ?_)
        refine zfv (wr := [(h0_normal, .inl (g.2.1.1, 10, .inl f1801)), (h0_flats, .inl (g.2.1.1, 72, .inl f4)), (h0_told, .inl (g.2.1.1, 103, .inl f_h0_told)), (h0_now, .inl (g.2.1.1, 21, .inl f_h0_now))]) (va_runV (As := [.int 0, .int z1804, .int z1806]) (rest := []) ⟨hx, hb, hml, hown, hG⟩ (kX9_laysEnds l g h0 (0 : Int32) z1804 z1806 h0_told h0_read h0_now h0_readNow h0_kept h0_undone h0_seed h0_hasPart h0_tape h0_taped h0_refused h0_faultKind h0_faultPlace h0_size h0_at h0_from h0_wrong h0_wrongAt h0_ownLetters h0_flats v3 h0_corner h0_wayX h0_wayY h0_normal h0_low h0_high h0_clear h0_ways h0_canBe h0_lain h0_canTool h0_fewestBy h0_sortOf h0_rows h0_seenFlange h0_seenLength fn909 f1795 f1798 f_h0_low f_h0_high ((show 0 ≤ (0 : Int) ∧ (0 : Int) ≤ 9 from by decide)) (om_27 hy0) (om_28 hy1) (om_29 hy2) (om_32 hy3) (om_31 hy4) (om_32 hy5) (om_32 hy6) (om_32 hy7) (om_31 hy8) (om_450 hq5) (om_13 hy10) (om_33 hy11) hf1797 hf1800 _) ⟨callB_of 3 hG (zGood wc_X9_laysEnds) rfl rfl rfl (hG _ wini_X9) (hG _ wm_X9_276) hX9_laysEnds ⟨Nat.le_of_ble_eq_true rfl, Nat.le_of_ble_eq_true rfl⟩, hG _ wi_X9_laysEnds, hG _ wse_X9_X9_laysEnds⟩ (zpreV (va_recv hX.1 hP (ci := 9) (q0 := 6) rfl rfl) hX hP hD hS hA [6, 0, 1, 2, 4, 5] rfl (by decide)) rfl rfl hl.1 rfl (lv_room (Nat.le_of_ble_eq_true rfl)) dX9_laysSpace_59 ⟨Nat.le_of_ble_eq_true rfl, Nat.le_of_ble_eq_true rfl⟩) hP hD hS hA [6, 0, 1, 2, 4, 5] [3, 7, 8, 9] rfl rfl (by decide) (by decide) (fun u1809 H locs hp hP hD hS => ?_)
        refine W.cs (cells' := 0) (slots' := 0) rfl rfl ?_
        obtain ⟨f1810, f1811⟩ := u1809
        have hP : va_P g.1 vwCl [(h0_normal, .inl (g.2.1.1, 10, .inl f1801)), (h0_flats, .inl (g.2.1.1, 72, .inl f4)), (h0_told, .inl (g.2.1.1, 103, .inl f_h0_told)), (h0_now, .inl (g.2.1.1, 21, .inl f_h0_now)), (h0, .inr (9, [.ref h0_told, .ref h0_read, .ref h0_now, .ref h0_readNow, .ref h0_kept, .int h0_undone, .int h0_seed, .int h0_hasPart, .ref h0_tape, .int h0_taped, .ref h0_refused, .int h0_faultKind, .int h0_faultPlace, .int h0_size, .int h0_at, .int h0_from, .int h0_wrong, .int h0_wrongAt, .ref h0_ownLetters, .ref h0_flats, .int v3, .ref h0_corner, .ref h0_wayX, .ref h0_wayY, .ref h0_normal, .ref h0_low, .ref h0_high, .ref h0_clear, .ref h0_ways, .ref h0_canBe, .ref h0_lain, .int h0_canTool, .ref h0_fewestBy, .ref h0_sortOf, .int h0_rows, .ref h0_seenFlange, .ref h0_seenLength])), (h0_corner, .inl (g.2.1.1, 30, .inl fn909)), (h0_wayX, .inl (g.2.1.1, 10, .inl f1795)), (h0_wayY, .inl (g.2.1.1, 10, .inl f1798)), (h0_low, .inl (g.2.1.1, 30, .inl f1810)), (h0_high, .inl (g.2.1.1, 30, .inl f1811))] H := hP
        have hD : va_D A [(h0_normal, .inl (g.2.1.1, 10, .inl f1801)), (h0_flats, .inl (g.2.1.1, 72, .inl f4)), (h0_told, .inl (g.2.1.1, 103, .inl f_h0_told)), (h0_now, .inl (g.2.1.1, 21, .inl f_h0_now)), (h0, .inr (9, [.ref h0_told, .ref h0_read, .ref h0_now, .ref h0_readNow, .ref h0_kept, .int h0_undone, .int h0_seed, .int h0_hasPart, .ref h0_tape, .int h0_taped, .ref h0_refused, .int h0_faultKind, .int h0_faultPlace, .int h0_size, .int h0_at, .int h0_from, .int h0_wrong, .int h0_wrongAt, .ref h0_ownLetters, .ref h0_flats, .int v3, .ref h0_corner, .ref h0_wayX, .ref h0_wayY, .ref h0_normal, .ref h0_low, .ref h0_high, .ref h0_clear, .ref h0_ways, .ref h0_canBe, .ref h0_lain, .int h0_canTool, .ref h0_fewestBy, .ref h0_sortOf, .int h0_rows, .ref h0_seenFlange, .ref h0_seenLength])), (h0_corner, .inl (g.2.1.1, 30, .inl fn909)), (h0_wayX, .inl (g.2.1.1, 10, .inl f1795)), (h0_wayY, .inl (g.2.1.1, 10, .inl f1798)), (h0_low, .inl (g.2.1.1, 30, .inl f1810)), (h0_high, .inl (g.2.1.1, 30, .inl f1811))] := hD
        refine lv_iconst (v := 1) hx hb dX9_laysSpace_62 (by decide) ?_
        refine lv_istore_n (lv' := [(2, .int 1), (0, .ref h0), (1, .int x1)]) hx hb dX9_laysSpace_63 rfl hl (by decide) rfl (fun ls hl => ?_)
        have L2575 : ∀ (n : Nat) (v2476 : Int32) (fn2477 : Nat → Int32) (fn2478 : Nat → Int32) (fn2479 : Nat → Int32) (fn2480 : Nat → Int32) (fn2481 : Nat → Int32) (fn2482 : Nat → Int32) (H : Heap) (locs : List Loc) (ls : Array Slot), 1 ≤ v2476.toInt ∧ v2476.toInt ≤ 9 → aI (-3) 3 fn2477 → aI (-3) 3 fn2479 → aI (-3) 3 fn2480 → pNz v2476 fn2479 fn2480 fn2477 → v2476.toInt ≤ h0_told_3.toInt → (10 - v2476.toInt).toNat < n → va_P g.1 vwCl [(h0_normal, .inl (g.2.1.1, 10, .inl fn2477)), (h0_flats, .inl (g.2.1.1, 72, .inl f4)), (h0_told, .inl (g.2.1.1, 103, .inl f_h0_told)), (h0_now, .inl (g.2.1.1, 21, .inl f_h0_now)), (h0, .inr (9, [.ref h0_told, .ref h0_read, .ref h0_now, .ref h0_readNow, .ref h0_kept, .int h0_undone, .int h0_seed, .int h0_hasPart, .ref h0_tape, .int h0_taped, .ref h0_refused, .int h0_faultKind, .int h0_faultPlace, .int h0_size, .int h0_at, .int h0_from, .int h0_wrong, .int h0_wrongAt, .ref h0_ownLetters, .ref h0_flats, .int v3, .ref h0_corner, .ref h0_wayX, .ref h0_wayY, .ref h0_normal, .ref h0_low, .ref h0_high, .ref h0_clear, .ref h0_ways, .ref h0_canBe, .ref h0_lain, .int h0_canTool, .ref h0_fewestBy, .ref h0_sortOf, .int h0_rows, .ref h0_seenFlange, .ref h0_seenLength])), (h0_corner, .inl (g.2.1.1, 30, .inl fn2478)), (h0_wayX, .inl (g.2.1.1, 10, .inl fn2479)), (h0_wayY, .inl (g.2.1.1, 10, .inl fn2480)), (h0_low, .inl (g.2.1.1, 30, .inl fn2481)), (h0_high, .inl (g.2.1.1, 30, .inl fn2482))] H → va_D A [(h0_normal, .inl (g.2.1.1, 10, .inl fn2477)), (h0_flats, .inl (g.2.1.1, 72, .inl f4)), (h0_told, .inl (g.2.1.1, 103, .inl f_h0_told)), (h0_now, .inl (g.2.1.1, 21, .inl f_h0_now)), (h0, .inr (9, [.ref h0_told, .ref h0_read, .ref h0_now, .ref h0_readNow, .ref h0_kept, .int h0_undone, .int h0_seed, .int h0_hasPart, .ref h0_tape, .int h0_taped, .ref h0_refused, .int h0_faultKind, .int h0_faultPlace, .int h0_size, .int h0_at, .int h0_from, .int h0_wrong, .int h0_wrongAt, .ref h0_ownLetters, .ref h0_flats, .int v3, .ref h0_corner, .ref h0_wayX, .ref h0_wayY, .ref h0_normal, .ref h0_low, .ref h0_high, .ref h0_clear, .ref h0_ways, .ref h0_canBe, .ref h0_lain, .int h0_canTool, .ref h0_fewestBy, .ref h0_sortOf, .int h0_rows, .ref h0_seenFlange, .ref h0_seenLength])), (h0_corner, .inl (g.2.1.1, 30, .inl fn2478)), (h0_wayX, .inl (g.2.1.1, 10, .inl fn2479)), (h0_wayY, .inl (g.2.1.1, 10, .inl fn2480)), (h0_low, .inl (g.2.1.1, 30, .inl fn2481)), (h0_high, .inl (g.2.1.1, 30, .inl fn2482))] → va_S A s.heap H locs → lv_has ls 3 [(0, .ref h0), (1, .int x1), (2, .int v2476)] → W p l e rm_kX9_laysSpace s m args below meth c H locs 0 0 Q (F0 m 64 ls []) := by
          intro n2576
          induction n2576 with
          | zero => intro v2476 fn2477 fn2478 fn2479 fn2480 fn2481 fn2482 H locs ls i2578 hf2579 hf2580 hf2581 hc2582 v2583 hm2584; exact absurd hm2584 (Nat.not_lt_zero _)
          | succ n2576 ih2577 =>
            intro v2476 fn2477 fn2478 fn2479 fn2480 fn2481 fn2482 H locs ls i2578 hf2579 hf2580 hf2581 hc2582 v2583 hm2584 hP hD hS hl
            refine lv_iload_n hx hb dX9_laysSpace_64 rfl (lv_at hl 2 rfl) ?_
            refine lv_aload_n hx hb dX9_laysSpace_65 rfl (lv_at hl 0 rfl) ?_
            refine va_get (D := g.1) (ci := 9) (v := .ref h0_told) (C := RX9) (T := TX9) (N := 37) hx hb hG iX9 hown hX.1 hP 4 rfl rfl 0 (by decide) (hG _ wf_X9_7) (fun _ h9 => h9) rfl dX9_laysSpace_66 ?_
            refine lv_iconst (v := 3) hx hb dX9_laysSpace_69 (by decide) ?_
            refine va_iald hx hb hX.1 hP 2 0 rfl rfl (zin (show (3 : Int32).toInt = (3 : Int) from by decide) ((show 0 ≤ (3 : Int) ∧ (3 : Int) < 103 from by decide))) dX9_laysSpace_70 ?_
            refine zt (z := h0_told_3) (cEq.at hy14 (by decide)) ?_
            refine lv_icmp_ge (tgt := 136) hx hb dX9_laysSpace_71 (by decide) (fun c2585 => ?_) (fun c2585 => ?_)
            · skip
              have c2585i : h0_told_3.toInt ≤ v2476.toInt := (zc_le (rfl : h0_told_3.toInt = _) (rfl : v2476.toInt = _)).mp c2585
              exact hret (v3, f4, fn2478, fn2479, fn2480, fn2477, fn2481, fn2482) (Nat.le_of_ble_eq_true rfl) (Nat.le_of_ble_eq_true rfl) ⟨om_536 hq5, hf2580, hf2581, hf2579, (pNz.weak hc2582 (rfl : v2476.toInt = _) (rfl : h0_told_3.toInt = _) (om_70 c2585i))⟩ (hP.sub [4, 1, 2, 3, 5, 6, 7, 0, 8, 9] rfl) (hD.sub [4, 1, 2, 3, 5, 6, 7, 0, 8, 9] (by decide) rfl) hS dX9_laysSpace_136
            · skip
              have c2585i : ¬ (h0_told_3.toInt ≤ v2476.toInt) := fun q => c2585 ((zc_le (rfl : h0_told_3.toInt = _) (rfl : v2476.toInt = _)).mpr q)
              refine lv_iload_n hx hb dX9_laysSpace_74 rfl (lv_at hl 1 rfl) ?_
              refine lv_iload_n hx hb dX9_laysSpace_75 rfl (lv_at hl 2 rfl) ?_
              refine lv_iconst (v := 1) hx hb dX9_laysSpace_76 (by decide) ?_
              refine lv_isub hx hb dX9_laysSpace_77 ?_
              refine lv_topi (fun z2586 e2587 => ?_)
              have f2588 : z2586.toInt = v2476.toInt - (1 : Int) := zs e2587 (rfl : v2476.toInt = _) (show (1 : Int32).toInt = (1 : Int) from by decide) (om_537 c2585i hy13 i2578)
              refine zfi (wr := [(h0_normal, .inl (g.2.1.1, 10, .inl fn2477)), (h0_flats, .inl (g.2.1.1, 72, .inl f4)), (h0_told, .inl (g.2.1.1, 103, .inl f_h0_told)), (h0_now, .inl (g.2.1.1, 21, .inl f_h0_now)), (h0, .inr (9, [.ref h0_told, .ref h0_read, .ref h0_now, .ref h0_readNow, .ref h0_kept, .int h0_undone, .int h0_seed, .int h0_hasPart, .ref h0_tape, .int h0_taped, .ref h0_refused, .int h0_faultKind, .int h0_faultPlace, .int h0_size, .int h0_at, .int h0_from, .int h0_wrong, .int h0_wrongAt, .ref h0_ownLetters, .ref h0_flats, .int v3, .ref h0_corner, .ref h0_wayX, .ref h0_wayY, .ref h0_normal, .ref h0_low, .ref h0_high, .ref h0_clear, .ref h0_ways, .ref h0_canBe, .ref h0_lain, .int h0_canTool, .ref h0_fewestBy, .ref h0_sortOf, .int h0_rows, .ref h0_seenFlange, .ref h0_seenLength])), (h0_corner, .inl (g.2.1.1, 30, .inl fn2478)), (h0_wayX, .inl (g.2.1.1, 10, .inl fn2479)), (h0_wayY, .inl (g.2.1.1, 10, .inl fn2480)), (h0_low, .inl (g.2.1.1, 30, .inl fn2481)), (h0_high, .inl (g.2.1.1, 30, .inl fn2482))]) (va_runS (As := [.int x1, .int z2586]) (rest := []) ⟨hx, hb, hml, hown, hG⟩ (kX9_isOf l g x1 z2586 _) ⟨callB_of 2 hG (zGood wc_X9_isOf) rfl rfl rfl (hG _ wini_X9) (hG _ wm_X9_225) hX9_isOf ⟨Nat.le_of_ble_eq_true rfl, Nat.le_of_ble_eq_true rfl⟩, hG _ ws_X9_isOf⟩ (zpreS hX hP hD hS hA [] rfl (by decide)) rfl rfl hl.1 rfl (lv_room (Nat.le_of_ble_eq_true rfl)) dX9_laysSpace_78 ⟨Nat.le_of_ble_eq_true rfl, Nat.le_of_ble_eq_true rfl⟩) hP hD hS hA [] [0, 1, 2, 3, 4, 5, 6, 7, 8, 9] rfl rfl (by decide) (by decide) (fun r2589 _ H locs hp hP hD hS => ?_)
              refine W.cs (cells' := 0) (slots' := 0) rfl rfl ?_
              have hq2590 : 0 ≤ r2589.toInt ∧ r2589.toInt ≤ 1 := hp
              have hP : va_P g.1 vwCl [(h0_normal, .inl (g.2.1.1, 10, .inl fn2477)), (h0_flats, .inl (g.2.1.1, 72, .inl f4)), (h0_told, .inl (g.2.1.1, 103, .inl f_h0_told)), (h0_now, .inl (g.2.1.1, 21, .inl f_h0_now)), (h0, .inr (9, [.ref h0_told, .ref h0_read, .ref h0_now, .ref h0_readNow, .ref h0_kept, .int h0_undone, .int h0_seed, .int h0_hasPart, .ref h0_tape, .int h0_taped, .ref h0_refused, .int h0_faultKind, .int h0_faultPlace, .int h0_size, .int h0_at, .int h0_from, .int h0_wrong, .int h0_wrongAt, .ref h0_ownLetters, .ref h0_flats, .int v3, .ref h0_corner, .ref h0_wayX, .ref h0_wayY, .ref h0_normal, .ref h0_low, .ref h0_high, .ref h0_clear, .ref h0_ways, .ref h0_canBe, .ref h0_lain, .int h0_canTool, .ref h0_fewestBy, .ref h0_sortOf, .int h0_rows, .ref h0_seenFlange, .ref h0_seenLength])), (h0_corner, .inl (g.2.1.1, 30, .inl fn2478)), (h0_wayX, .inl (g.2.1.1, 10, .inl fn2479)), (h0_wayY, .inl (g.2.1.1, 10, .inl fn2480)), (h0_low, .inl (g.2.1.1, 30, .inl fn2481)), (h0_high, .inl (g.2.1.1, 30, .inl fn2482))] H := hP
              have hD : va_D A [(h0_normal, .inl (g.2.1.1, 10, .inl fn2477)), (h0_flats, .inl (g.2.1.1, 72, .inl f4)), (h0_told, .inl (g.2.1.1, 103, .inl f_h0_told)), (h0_now, .inl (g.2.1.1, 21, .inl f_h0_now)), (h0, .inr (9, [.ref h0_told, .ref h0_read, .ref h0_now, .ref h0_readNow, .ref h0_kept, .int h0_undone, .int h0_seed, .int h0_hasPart, .ref h0_tape, .int h0_taped, .ref h0_refused, .int h0_faultKind, .int h0_faultPlace, .int h0_size, .int h0_at, .int h0_from, .int h0_wrong, .int h0_wrongAt, .ref h0_ownLetters, .ref h0_flats, .int v3, .ref h0_corner, .ref h0_wayX, .ref h0_wayY, .ref h0_normal, .ref h0_low, .ref h0_high, .ref h0_clear, .ref h0_ways, .ref h0_canBe, .ref h0_lain, .int h0_canTool, .ref h0_fewestBy, .ref h0_sortOf, .int h0_rows, .ref h0_seenFlange, .ref h0_seenLength])), (h0_corner, .inl (g.2.1.1, 30, .inl fn2478)), (h0_wayX, .inl (g.2.1.1, 10, .inl fn2479)), (h0_wayY, .inl (g.2.1.1, 10, .inl fn2480)), (h0_low, .inl (g.2.1.1, 30, .inl fn2481)), (h0_high, .inl (g.2.1.1, 30, .inl fn2482))] := hD
              have J2628 : ∀  (fn2624 : Nat → Int32) (fn2625 : Nat → Int32) (fn2626 : Nat → Int32) (fn2627 : Nat → Int32) (H : Heap) (locs : List Loc) (ls : Array Slot), aI (-3) 3 fn2624 → aI (-3) 3 fn2625 → aI (-3) 3 fn2626 → pNs v2476 fn2624 fn2625 fn2626 → va_P g.1 vwCl [(h0_told, .inl (g.2.1.1, 103, .inl f_h0_told)), (h0_now, .inl (g.2.1.1, 21, .inl f_h0_now)), (h0_low, .inl (g.2.1.1, 30, .inl fn2481)), (h0_high, .inl (g.2.1.1, 30, .inl fn2482)), (h0, .inr (9, [.ref h0_told, .ref h0_read, .ref h0_now, .ref h0_readNow, .ref h0_kept, .int h0_undone, .int h0_seed, .int h0_hasPart, .ref h0_tape, .int h0_taped, .ref h0_refused, .int h0_faultKind, .int h0_faultPlace, .int h0_size, .int h0_at, .int h0_from, .int h0_wrong, .int h0_wrongAt, .ref h0_ownLetters, .ref h0_flats, .int v3, .ref h0_corner, .ref h0_wayX, .ref h0_wayY, .ref h0_normal, .ref h0_low, .ref h0_high, .ref h0_clear, .ref h0_ways, .ref h0_canBe, .ref h0_lain, .int h0_canTool, .ref h0_fewestBy, .ref h0_sortOf, .int h0_rows, .ref h0_seenFlange, .ref h0_seenLength])), (h0_wayX, .inl (g.2.1.1, 10, .inl fn2624)), (h0_wayY, .inl (g.2.1.1, 10, .inl fn2625)), (h0_normal, .inl (g.2.1.1, 10, .inl fn2626)), (h0_corner, .inl (g.2.1.1, 30, .inl fn2627)), (h0_flats, .inl (g.2.1.1, 72, .inl f4))] H → va_D A [(h0_told, .inl (g.2.1.1, 103, .inl f_h0_told)), (h0_now, .inl (g.2.1.1, 21, .inl f_h0_now)), (h0_low, .inl (g.2.1.1, 30, .inl fn2481)), (h0_high, .inl (g.2.1.1, 30, .inl fn2482)), (h0, .inr (9, [.ref h0_told, .ref h0_read, .ref h0_now, .ref h0_readNow, .ref h0_kept, .int h0_undone, .int h0_seed, .int h0_hasPart, .ref h0_tape, .int h0_taped, .ref h0_refused, .int h0_faultKind, .int h0_faultPlace, .int h0_size, .int h0_at, .int h0_from, .int h0_wrong, .int h0_wrongAt, .ref h0_ownLetters, .ref h0_flats, .int v3, .ref h0_corner, .ref h0_wayX, .ref h0_wayY, .ref h0_normal, .ref h0_low, .ref h0_high, .ref h0_clear, .ref h0_ways, .ref h0_canBe, .ref h0_lain, .int h0_canTool, .ref h0_fewestBy, .ref h0_sortOf, .int h0_rows, .ref h0_seenFlange, .ref h0_seenLength])), (h0_wayX, .inl (g.2.1.1, 10, .inl fn2624)), (h0_wayY, .inl (g.2.1.1, 10, .inl fn2625)), (h0_normal, .inl (g.2.1.1, 10, .inl fn2626)), (h0_corner, .inl (g.2.1.1, 30, .inl fn2627)), (h0_flats, .inl (g.2.1.1, 72, .inl f4))] → va_S A s.heap H locs → lv_has ls 3 [(0, .ref h0), (1, .int x1), (2, .int v2476)] → W p l e rm_kX9_laysSpace s m args below meth c H locs 0 0 Q (F0 m 115 ls []) := by
                intro fn2624 fn2625 fn2626 fn2627 H locs ls hf2629 hf2630 hf2631 hc2632 hP hD hS hl
                refine lv_aload_n hx hb dX9_laysSpace_115 rfl (lv_at hl 0 rfl) ?_
                refine lv_iload_n hx hb dX9_laysSpace_116 rfl (lv_at hl 2 rfl) ?_
                refine lv_aload_n hx hb dX9_laysSpace_117 rfl (lv_at hl 0 rfl) ?_
                refine lv_iload_n hx hb dX9_laysSpace_118 rfl (lv_at hl 2 rfl) ?_
                refine zfi (wr := [(h0_now, .inl (g.2.1.1, 21, .inl f_h0_now)), (h0_low, .inl (g.2.1.1, 30, .inl fn2481)), (h0_high, .inl (g.2.1.1, 30, .inl fn2482)), (h0_wayX, .inl (g.2.1.1, 10, .inl fn2624)), (h0_wayY, .inl (g.2.1.1, 10, .inl fn2625)), (h0_normal, .inl (g.2.1.1, 10, .inl fn2626)), (h0_corner, .inl (g.2.1.1, 30, .inl fn2627)), (h0_flats, .inl (g.2.1.1, 72, .inl f4))]) (va_runV (As := [.int v2476]) (rest := [.int v2476, .ref h0]) ⟨hx, hb, hml, hown, hG⟩ (kX9_alongX l g h0 v2476 h0_told h0_read h0_now h0_readNow h0_kept h0_undone h0_seed h0_hasPart h0_tape h0_taped h0_refused h0_faultKind h0_faultPlace h0_size h0_at h0_from h0_wrong h0_wrongAt h0_ownLetters h0_flats v3 h0_corner h0_wayX h0_wayY h0_normal h0_low h0_high h0_clear h0_ways h0_canBe h0_lain h0_canTool h0_fewestBy h0_sortOf h0_rows h0_seenFlange h0_seenLength f_h0_told h0_told_3 h0_told_4 (om_538 c2585i hy13 i2578) (om_27 hy0) (om_28 hy1) (om_29 hy2) (om_32 hy3) (om_31 hy4) (om_32 hy5) (om_32 hy6) (om_32 hy7) (om_31 hy8) (om_450 hq5) (om_13 hy10) (om_33 hy11) hy12 (om_539 c2585i hy13 i2578) hy14 (om_33 hy15) hy16 (om_433 c2585i hy2 hy23 i2578) _) ⟨callB_of 1 hG (zGood wc_X9_alongX) rfl rfl rfl (hG _ wini_X9) (hG _ wm_X9_270) hX9_alongX ⟨Nat.le_of_ble_eq_true rfl, Nat.le_of_ble_eq_true rfl⟩, hG _ wi_X9_alongX, hG _ wse_X9_X9_alongX⟩ (zpreV (va_recv hX.1 hP (ci := 9) (q0 := 4) rfl rfl) hX hP hD hS hA [4, 0] rfl (by decide)) rfl rfl hl.1 rfl (lv_room (Nat.le_of_ble_eq_true rfl)) dX9_laysSpace_119 ⟨Nat.le_of_ble_eq_true rfl, Nat.le_of_ble_eq_true rfl⟩) hP hD hS hA [4, 0] [1, 2, 3, 5, 6, 7, 8, 9] rfl rfl (by decide) (by decide) (fun r2633 _ H locs hp hP hD hS => ?_)
                refine W.cs (cells' := 0) (slots' := 0) rfl rfl ?_
                have hP : va_P g.1 vwCl [(h0_now, .inl (g.2.1.1, 21, .inl f_h0_now)), (h0_low, .inl (g.2.1.1, 30, .inl fn2481)), (h0_high, .inl (g.2.1.1, 30, .inl fn2482)), (h0_wayX, .inl (g.2.1.1, 10, .inl fn2624)), (h0_wayY, .inl (g.2.1.1, 10, .inl fn2625)), (h0_normal, .inl (g.2.1.1, 10, .inl fn2626)), (h0_corner, .inl (g.2.1.1, 30, .inl fn2627)), (h0_flats, .inl (g.2.1.1, 72, .inl f4)), (h0, .inr (9, [.ref h0_told, .ref h0_read, .ref h0_now, .ref h0_readNow, .ref h0_kept, .int h0_undone, .int h0_seed, .int h0_hasPart, .ref h0_tape, .int h0_taped, .ref h0_refused, .int h0_faultKind, .int h0_faultPlace, .int h0_size, .int h0_at, .int h0_from, .int h0_wrong, .int h0_wrongAt, .ref h0_ownLetters, .ref h0_flats, .int v3, .ref h0_corner, .ref h0_wayX, .ref h0_wayY, .ref h0_normal, .ref h0_low, .ref h0_high, .ref h0_clear, .ref h0_ways, .ref h0_canBe, .ref h0_lain, .int h0_canTool, .ref h0_fewestBy, .ref h0_sortOf, .int h0_rows, .ref h0_seenFlange, .ref h0_seenLength])), (h0_told, .inl (g.2.1.1, 103, .inl f_h0_told))] H := hP
                have hD : va_D A [(h0_now, .inl (g.2.1.1, 21, .inl f_h0_now)), (h0_low, .inl (g.2.1.1, 30, .inl fn2481)), (h0_high, .inl (g.2.1.1, 30, .inl fn2482)), (h0_wayX, .inl (g.2.1.1, 10, .inl fn2624)), (h0_wayY, .inl (g.2.1.1, 10, .inl fn2625)), (h0_normal, .inl (g.2.1.1, 10, .inl fn2626)), (h0_corner, .inl (g.2.1.1, 30, .inl fn2627)), (h0_flats, .inl (g.2.1.1, 72, .inl f4)), (h0, .inr (9, [.ref h0_told, .ref h0_read, .ref h0_now, .ref h0_readNow, .ref h0_kept, .int h0_undone, .int h0_seed, .int h0_hasPart, .ref h0_tape, .int h0_taped, .ref h0_refused, .int h0_faultKind, .int h0_faultPlace, .int h0_size, .int h0_at, .int h0_from, .int h0_wrong, .int h0_wrongAt, .ref h0_ownLetters, .ref h0_flats, .int v3, .ref h0_corner, .ref h0_wayX, .ref h0_wayY, .ref h0_normal, .ref h0_low, .ref h0_high, .ref h0_clear, .ref h0_ways, .ref h0_canBe, .ref h0_lain, .int h0_canTool, .ref h0_fewestBy, .ref h0_sortOf, .int h0_rows, .ref h0_seenFlange, .ref h0_seenLength])), (h0_told, .inl (g.2.1.1, 103, .inl f_h0_told))] := hD
                refine lv_aload_n hx hb dX9_laysSpace_122 rfl (lv_at hl 0 rfl) ?_
                refine lv_iload_n hx hb dX9_laysSpace_123 rfl (lv_at hl 2 rfl) ?_
                refine zfi (wr := [(h0_now, .inl (g.2.1.1, 21, .inl f_h0_now)), (h0_low, .inl (g.2.1.1, 30, .inl fn2481)), (h0_high, .inl (g.2.1.1, 30, .inl fn2482)), (h0_wayX, .inl (g.2.1.1, 10, .inl fn2624)), (h0_wayY, .inl (g.2.1.1, 10, .inl fn2625)), (h0_normal, .inl (g.2.1.1, 10, .inl fn2626)), (h0_corner, .inl (g.2.1.1, 30, .inl fn2627)), (h0_flats, .inl (g.2.1.1, 72, .inl f4))]) (va_runV (As := [.int v2476]) (rest := [.int r2633, .int v2476, .ref h0]) ⟨hx, hb, hml, hown, hG⟩ (kX9_alongY l g h0 v2476 h0_told h0_read h0_now h0_readNow h0_kept h0_undone h0_seed h0_hasPart h0_tape h0_taped h0_refused h0_faultKind h0_faultPlace h0_size h0_at h0_from h0_wrong h0_wrongAt h0_ownLetters h0_flats v3 h0_corner h0_wayX h0_wayY h0_normal h0_low h0_high h0_clear h0_ways h0_canBe h0_lain h0_canTool h0_fewestBy h0_sortOf h0_rows h0_seenFlange h0_seenLength f_h0_told h0_told_3 h0_told_4 (om_538 c2585i hy13 i2578) (om_27 hy0) (om_28 hy1) (om_29 hy2) (om_32 hy3) (om_31 hy4) (om_32 hy5) (om_32 hy6) (om_32 hy7) (om_31 hy8) (om_450 hq5) (om_13 hy10) (om_33 hy11) hy12 (om_539 c2585i hy13 i2578) hy14 (om_33 hy15) hy16 (om_433 c2585i hy2 hy23 i2578) _) ⟨callB_of 1 hG (zGood wc_X9_alongY) rfl rfl rfl (hG _ wini_X9) (hG _ wm_X9_267) hX9_alongY ⟨Nat.le_of_ble_eq_true rfl, Nat.le_of_ble_eq_true rfl⟩, hG _ wi_X9_alongY, hG _ wse_X9_X9_alongY⟩ (zpreV (va_recv hX.1 hP (ci := 9) (q0 := 8) rfl rfl) hX hP hD hS hA [8, 9] rfl (by decide)) rfl rfl hl.1 rfl (lv_room (Nat.le_of_ble_eq_true rfl)) dX9_laysSpace_124 ⟨Nat.le_of_ble_eq_true rfl, Nat.le_of_ble_eq_true rfl⟩) hP hD hS hA [8, 9] [0, 1, 2, 3, 4, 5, 6, 7] rfl rfl (by decide) (by decide) (fun r2634 _ H locs hp hP hD hS => ?_)
                refine W.cs (cells' := 0) (slots' := 0) rfl rfl ?_
                have hP : va_P g.1 vwCl [(h0_now, .inl (g.2.1.1, 21, .inl f_h0_now)), (h0_low, .inl (g.2.1.1, 30, .inl fn2481)), (h0_high, .inl (g.2.1.1, 30, .inl fn2482)), (h0_wayX, .inl (g.2.1.1, 10, .inl fn2624)), (h0_wayY, .inl (g.2.1.1, 10, .inl fn2625)), (h0_normal, .inl (g.2.1.1, 10, .inl fn2626)), (h0_corner, .inl (g.2.1.1, 30, .inl fn2627)), (h0_flats, .inl (g.2.1.1, 72, .inl f4)), (h0, .inr (9, [.ref h0_told, .ref h0_read, .ref h0_now, .ref h0_readNow, .ref h0_kept, .int h0_undone, .int h0_seed, .int h0_hasPart, .ref h0_tape, .int h0_taped, .ref h0_refused, .int h0_faultKind, .int h0_faultPlace, .int h0_size, .int h0_at, .int h0_from, .int h0_wrong, .int h0_wrongAt, .ref h0_ownLetters, .ref h0_flats, .int v3, .ref h0_corner, .ref h0_wayX, .ref h0_wayY, .ref h0_normal, .ref h0_low, .ref h0_high, .ref h0_clear, .ref h0_ways, .ref h0_canBe, .ref h0_lain, .int h0_canTool, .ref h0_fewestBy, .ref h0_sortOf, .int h0_rows, .ref h0_seenFlange, .ref h0_seenLength])), (h0_told, .inl (g.2.1.1, 103, .inl f_h0_told))] H := hP
                have hD : va_D A [(h0_now, .inl (g.2.1.1, 21, .inl f_h0_now)), (h0_low, .inl (g.2.1.1, 30, .inl fn2481)), (h0_high, .inl (g.2.1.1, 30, .inl fn2482)), (h0_wayX, .inl (g.2.1.1, 10, .inl fn2624)), (h0_wayY, .inl (g.2.1.1, 10, .inl fn2625)), (h0_normal, .inl (g.2.1.1, 10, .inl fn2626)), (h0_corner, .inl (g.2.1.1, 30, .inl fn2627)), (h0_flats, .inl (g.2.1.1, 72, .inl f4)), (h0, .inr (9, [.ref h0_told, .ref h0_read, .ref h0_now, .ref h0_readNow, .ref h0_kept, .int h0_undone, .int h0_seed, .int h0_hasPart, .ref h0_tape, .int h0_taped, .ref h0_refused, .int h0_faultKind, .int h0_faultPlace, .int h0_size, .int h0_at, .int h0_from, .int h0_wrong, .int h0_wrongAt, .ref h0_ownLetters, .ref h0_flats, .int v3, .ref h0_corner, .ref h0_wayX, .ref h0_wayY, .ref h0_normal, .ref h0_low, .ref h0_high, .ref h0_clear, .ref h0_ways, .ref h0_canBe, .ref h0_lain, .int h0_canTool, .ref h0_fewestBy, .ref h0_sortOf, .int h0_rows, .ref h0_seenFlange, .ref h0_seenLength])), (h0_told, .inl (g.2.1.1, 103, .inl f_h0_told))] := hD
                refine zfv (wr := [(h0_now, .inl (g.2.1.1, 21, .inl f_h0_now)), (h0_normal, .inl (g.2.1.1, 10, .inl fn2626)), (h0_flats, .inl (g.2.1.1, 72, .inl f4)), (h0_told, .inl (g.2.1.1, 103, .inl f_h0_told))]) (va_runV (As := [.int v2476, .int r2633, .int r2634]) (rest := []) ⟨hx, hb, hml, hown, hG⟩ (kX9_laysEnds l g h0 v2476 r2633 r2634 h0_told h0_read h0_now h0_readNow h0_kept h0_undone h0_seed h0_hasPart h0_tape h0_taped h0_refused h0_faultKind h0_faultPlace h0_size h0_at h0_from h0_wrong h0_wrongAt h0_ownLetters h0_flats v3 h0_corner h0_wayX h0_wayY h0_normal h0_low h0_high h0_clear h0_ways h0_canBe h0_lain h0_canTool h0_fewestBy h0_sortOf h0_rows h0_seenFlange h0_seenLength fn2627 fn2624 fn2625 fn2481 fn2482 (om_540 c2585i hy13 i2578) (om_27 hy0) (om_28 hy1) (om_29 hy2) (om_32 hy3) (om_31 hy4) (om_32 hy5) (om_32 hy6) (om_32 hy7) (om_31 hy8) (om_450 hq5) (om_13 hy10) (om_33 hy11) hf2629 hf2630 _) ⟨callB_of 3 hG (zGood wc_X9_laysEnds) rfl rfl rfl (hG _ wini_X9) (hG _ wm_X9_276) hX9_laysEnds ⟨Nat.le_of_ble_eq_true rfl, Nat.le_of_ble_eq_true rfl⟩, hG _ wi_X9_laysEnds, hG _ wse_X9_X9_laysEnds⟩ (zpreV (va_recv hX.1 hP (ci := 9) (q0 := 8) rfl rfl) hX hP hD hS hA [8, 6, 3, 4, 1, 2] rfl (by decide)) rfl rfl hl.1 rfl (lv_room (Nat.le_of_ble_eq_true rfl)) dX9_laysSpace_127 ⟨Nat.le_of_ble_eq_true rfl, Nat.le_of_ble_eq_true rfl⟩) hP hD hS hA [8, 6, 3, 4, 1, 2] [0, 5, 7, 9] rfl rfl (by decide) (by decide) (fun u2636 H locs hp hP hD hS => ?_)
                refine W.cs (cells' := 0) (slots' := 0) rfl rfl ?_
                obtain ⟨f2637, f2638⟩ := u2636
                have hP : va_P g.1 vwCl [(h0_now, .inl (g.2.1.1, 21, .inl f_h0_now)), (h0_normal, .inl (g.2.1.1, 10, .inl fn2626)), (h0_flats, .inl (g.2.1.1, 72, .inl f4)), (h0_told, .inl (g.2.1.1, 103, .inl f_h0_told)), (h0, .inr (9, [.ref h0_told, .ref h0_read, .ref h0_now, .ref h0_readNow, .ref h0_kept, .int h0_undone, .int h0_seed, .int h0_hasPart, .ref h0_tape, .int h0_taped, .ref h0_refused, .int h0_faultKind, .int h0_faultPlace, .int h0_size, .int h0_at, .int h0_from, .int h0_wrong, .int h0_wrongAt, .ref h0_ownLetters, .ref h0_flats, .int v3, .ref h0_corner, .ref h0_wayX, .ref h0_wayY, .ref h0_normal, .ref h0_low, .ref h0_high, .ref h0_clear, .ref h0_ways, .ref h0_canBe, .ref h0_lain, .int h0_canTool, .ref h0_fewestBy, .ref h0_sortOf, .int h0_rows, .ref h0_seenFlange, .ref h0_seenLength])), (h0_corner, .inl (g.2.1.1, 30, .inl fn2627)), (h0_wayX, .inl (g.2.1.1, 10, .inl fn2624)), (h0_wayY, .inl (g.2.1.1, 10, .inl fn2625)), (h0_low, .inl (g.2.1.1, 30, .inl f2637)), (h0_high, .inl (g.2.1.1, 30, .inl f2638))] H := hP
                have hD : va_D A [(h0_now, .inl (g.2.1.1, 21, .inl f_h0_now)), (h0_normal, .inl (g.2.1.1, 10, .inl fn2626)), (h0_flats, .inl (g.2.1.1, 72, .inl f4)), (h0_told, .inl (g.2.1.1, 103, .inl f_h0_told)), (h0, .inr (9, [.ref h0_told, .ref h0_read, .ref h0_now, .ref h0_readNow, .ref h0_kept, .int h0_undone, .int h0_seed, .int h0_hasPart, .ref h0_tape, .int h0_taped, .ref h0_refused, .int h0_faultKind, .int h0_faultPlace, .int h0_size, .int h0_at, .int h0_from, .int h0_wrong, .int h0_wrongAt, .ref h0_ownLetters, .ref h0_flats, .int v3, .ref h0_corner, .ref h0_wayX, .ref h0_wayY, .ref h0_normal, .ref h0_low, .ref h0_high, .ref h0_clear, .ref h0_ways, .ref h0_canBe, .ref h0_lain, .int h0_canTool, .ref h0_fewestBy, .ref h0_sortOf, .int h0_rows, .ref h0_seenFlange, .ref h0_seenLength])), (h0_corner, .inl (g.2.1.1, 30, .inl fn2627)), (h0_wayX, .inl (g.2.1.1, 10, .inl fn2624)), (h0_wayY, .inl (g.2.1.1, 10, .inl fn2625)), (h0_low, .inl (g.2.1.1, 30, .inl f2637)), (h0_high, .inl (g.2.1.1, 30, .inl f2638))] := hD
                obtain ⟨z2639, e2640⟩ : ∃ y9 : Int32, y9 = v2476 + 1 := ⟨_, rfl⟩
                have f2641 : z2639.toInt = v2476.toInt + 1 := za e2640 (rfl : v2476.toInt = _) (show (1 : Int32).toInt = (1 : Int) from by decide) (om_541 c2585i hy13 i2578)
                refine lv_iinc (v := z2639) (lv' := [(2, .int z2639), (0, .ref h0), (1, .int x1)]) hx hb dX9_laysSpace_130 hl (k := 2) rfl (by rw [e2640]; rfl) (by decide) rfl (fun ls hl => ?_)
                refine lv_goto (tgt := 64) hx hb dX9_laysSpace_133 (by decide) ?_
                exact ih2577 z2639 fn2626 fn2627 fn2624 fn2625 f2637 f2638 H locs ls (om_542 c2585i f2641 hy13 i2578) hf2631 hf2629 hf2630 (pNz.of hc2632 (rfl : v2476.toInt = _) (rfl : z2639.toInt = _) (om_318 f2641)) (om_543 c2585i f2641) (zdec hm2584 (om_544 c2585i f2641 hy13)) (hP.sub [1, 2, 3, 0, 4, 5, 6, 7, 8, 9] rfl) (hD.sub [1, 2, 3, 0, 4, 5, 6, 7, 8, 9] (by decide) rfl) hS (lv_sub hl [1, 2, 0] rfl)
              refine lv_if_eq (tgt := 101) hx hb dX9_laysSpace_81 (by decide) (fun c2642 => ?_) (fun c2642 => ?_)
              · skip
                have c2642i : r2589.toInt = (0 : Int) := (zc_eq (rfl : r2589.toInt = _) (show (0 : Int32).toInt = (0 : Int) from by decide)).mp c2642
                refine lv_aload_n hx hb dX9_laysSpace_101 rfl (lv_at hl 0 rfl) ?_
                refine lv_iload_n hx hb dX9_laysSpace_102 rfl (lv_at hl 2 rfl) ?_
                refine lv_aload_n hx hb dX9_laysSpace_103 rfl (lv_at hl 0 rfl) ?_
                refine va_get (D := g.1) (ci := 9) (v := .ref h0_told) (C := RX9) (T := TX9) (N := 37) hx hb hG iX9 hown hX.1 hP 4 rfl rfl 0 (by decide) (hG _ wf_X9_7) (fun _ h9 => h9) rfl dX9_laysSpace_104 ?_
                refine lv_bipush (v := 13) hx hb dX9_laysSpace_107 (by decide) ?_
                refine lv_iload_n hx hb dX9_laysSpace_109 rfl (lv_at hl 2 rfl) ?_
                refine lv_iadd hx hb dX9_laysSpace_110 ?_
                refine lv_topi (fun z2643 e2644 => ?_)
                have f2645 : z2643.toInt = (13 : Int) + v2476.toInt := za e2644 (show (13 : Int32).toInt = (13 : Int) from by decide) (rfl : v2476.toInt = _) (om_545 c2585i hy13 i2578)
                refine va_iald hx hb hX.1 hP 2 0 rfl rfl (zin (rfl : z2643.toInt = _) (om_546 c2585i f2645 hy13 i2578)) dX9_laysSpace_111 ?_
                refine lv_topi (fun z2646 e2647 => ?_)
                have f2648 : 0 ≤ z2646.toInt ∧ z2646.toInt ≤ 8 ∧ (z2646.toInt = 0 ∨ z2646.toInt < z2643.toInt - 13) := ((hy12.at e2647 (rfl : z2643.toInt = _) (om_366 f2645 i2578)).2.2.1).resolve_left (fun q9 => q9 (om_547 c2585i f2645 hy13 i2578))
                refine zfv (wr := [(h0_told, .inl (g.2.1.1, 103, .inl f_h0_told)), (h0_now, .inl (g.2.1.1, 21, .inl f_h0_now)), (h0_low, .inl (g.2.1.1, 30, .inl fn2481)), (h0_high, .inl (g.2.1.1, 30, .inl fn2482))]) (va_runV (As := [.int v2476, .int z2646]) (rest := []) ⟨hx, hb, hml, hown, hG⟩ (kX9_goesOnFlat l g h0 v2476 z2646 h0_told h0_read h0_now h0_readNow h0_kept h0_undone h0_seed h0_hasPart h0_tape h0_taped h0_refused h0_faultKind h0_faultPlace h0_size h0_at h0_from h0_wrong h0_wrongAt h0_ownLetters h0_flats v3 h0_corner h0_wayX h0_wayY h0_normal h0_low h0_high h0_clear h0_ways h0_canBe h0_lain h0_canTool h0_fewestBy h0_sortOf h0_rows h0_seenFlange h0_seenLength fn2479 fn2480 fn2477 fn2478 f4 (om_548 c2585i hy13 i2578) (om_362 f2648) (om_27 hy0) (om_28 hy1) (om_29 hy2) (om_32 hy3) (om_31 hy4) (om_32 hy5) (om_32 hy6) (om_32 hy7) (om_31 hy8) (om_450 hq5) (om_13 hy10) (om_33 hy11) hf2580 hf2581 hf2579 (om_549 f2645 f2648 i2578) hc2582 _) ⟨callB_of 2 hG (zGood wc_X9_goesOnFlat) rfl rfl rfl (hG _ wini_X9) (hG _ wm_X9_282) hX9_goesOnFlat ⟨Nat.le_of_ble_eq_true rfl, Nat.le_of_ble_eq_true rfl⟩, hG _ wi_X9_goesOnFlat, hG _ wse_X9_X9_goesOnFlat⟩ (zpreV (va_recv hX.1 hP (ci := 9) (q0 := 4) rfl rfl) hX hP hD hS hA [4, 6, 7, 0, 5, 1] rfl (by decide)) rfl rfl hl.1 rfl (lv_room (Nat.le_of_ble_eq_true rfl)) dX9_laysSpace_112 ⟨Nat.le_of_ble_eq_true rfl, Nat.le_of_ble_eq_true rfl⟩) hP hD hS hA [4, 6, 7, 0, 5, 1] [2, 3, 8, 9] rfl rfl (by decide) (by decide) (fun u2650 H locs hp hP hD hS => ?_)
                refine W.cs (cells' := 0) (slots' := 0) rfl rfl ?_
                obtain ⟨f2651, f2652, f2653, f2654⟩ := u2650
                obtain ⟨hq2655, hq2656, hq2657, hq2658⟩ : (aI (-3) 3 f2651) ∧ (aI (-3) 3 f2652) ∧ (aI (-3) 3 f2653) ∧ (pNs v2476 f2651 f2652 f2653) := hp
                have hP : va_P g.1 vwCl [(h0_told, .inl (g.2.1.1, 103, .inl f_h0_told)), (h0_now, .inl (g.2.1.1, 21, .inl f_h0_now)), (h0_low, .inl (g.2.1.1, 30, .inl fn2481)), (h0_high, .inl (g.2.1.1, 30, .inl fn2482)), (h0, .inr (9, [.ref h0_told, .ref h0_read, .ref h0_now, .ref h0_readNow, .ref h0_kept, .int h0_undone, .int h0_seed, .int h0_hasPart, .ref h0_tape, .int h0_taped, .ref h0_refused, .int h0_faultKind, .int h0_faultPlace, .int h0_size, .int h0_at, .int h0_from, .int h0_wrong, .int h0_wrongAt, .ref h0_ownLetters, .ref h0_flats, .int v3, .ref h0_corner, .ref h0_wayX, .ref h0_wayY, .ref h0_normal, .ref h0_low, .ref h0_high, .ref h0_clear, .ref h0_ways, .ref h0_canBe, .ref h0_lain, .int h0_canTool, .ref h0_fewestBy, .ref h0_sortOf, .int h0_rows, .ref h0_seenFlange, .ref h0_seenLength])), (h0_wayX, .inl (g.2.1.1, 10, .inl f2651)), (h0_wayY, .inl (g.2.1.1, 10, .inl f2652)), (h0_normal, .inl (g.2.1.1, 10, .inl f2653)), (h0_corner, .inl (g.2.1.1, 30, .inl f2654)), (h0_flats, .inl (g.2.1.1, 72, .inl f4))] H := hP
                have hD : va_D A [(h0_told, .inl (g.2.1.1, 103, .inl f_h0_told)), (h0_now, .inl (g.2.1.1, 21, .inl f_h0_now)), (h0_low, .inl (g.2.1.1, 30, .inl fn2481)), (h0_high, .inl (g.2.1.1, 30, .inl fn2482)), (h0, .inr (9, [.ref h0_told, .ref h0_read, .ref h0_now, .ref h0_readNow, .ref h0_kept, .int h0_undone, .int h0_seed, .int h0_hasPart, .ref h0_tape, .int h0_taped, .ref h0_refused, .int h0_faultKind, .int h0_faultPlace, .int h0_size, .int h0_at, .int h0_from, .int h0_wrong, .int h0_wrongAt, .ref h0_ownLetters, .ref h0_flats, .int v3, .ref h0_corner, .ref h0_wayX, .ref h0_wayY, .ref h0_normal, .ref h0_low, .ref h0_high, .ref h0_clear, .ref h0_ways, .ref h0_canBe, .ref h0_lain, .int h0_canTool, .ref h0_fewestBy, .ref h0_sortOf, .int h0_rows, .ref h0_seenFlange, .ref h0_seenLength])), (h0_wayX, .inl (g.2.1.1, 10, .inl f2651)), (h0_wayY, .inl (g.2.1.1, 10, .inl f2652)), (h0_normal, .inl (g.2.1.1, 10, .inl f2653)), (h0_corner, .inl (g.2.1.1, 30, .inl f2654)), (h0_flats, .inl (g.2.1.1, 72, .inl f4))] := hD
                exact J2628 f2651 f2652 f2653 f2654 H locs ls hq2655 hq2656 hq2657 hq2658 hP hD hS (lv_sub hl [0, 1, 2] rfl)
              · skip
                have c2642i : ¬ (r2589.toInt = (0 : Int)) := fun q => c2642 ((zc_eq (rfl : r2589.toInt = _) (show (0 : Int32).toInt = (0 : Int) from by decide)).mpr q)
                refine lv_aload_n hx hb dX9_laysSpace_84 rfl (lv_at hl 0 rfl) ?_
                refine lv_iload_n hx hb dX9_laysSpace_85 rfl (lv_at hl 2 rfl) ?_
                refine lv_aload_n hx hb dX9_laysSpace_86 rfl (lv_at hl 0 rfl) ?_
                refine va_get (D := g.1) (ci := 9) (v := .ref h0_told) (C := RX9) (T := TX9) (N := 37) hx hb hG iX9 hown hX.1 hP 4 rfl rfl 0 (by decide) (hG _ wf_X9_7) (fun _ h9 => h9) rfl dX9_laysSpace_87 ?_
                refine lv_bipush (v := 13) hx hb dX9_laysSpace_90 (by decide) ?_
                refine lv_iload_n hx hb dX9_laysSpace_92 rfl (lv_at hl 2 rfl) ?_
                refine lv_iadd hx hb dX9_laysSpace_93 ?_
                refine lv_topi (fun z2659 e2660 => ?_)
                have f2661 : z2659.toInt = (13 : Int) + v2476.toInt := za e2660 (show (13 : Int32).toInt = (13 : Int) from by decide) (rfl : v2476.toInt = _) (om_545 c2585i hy13 i2578)
                refine va_iald hx hb hX.1 hP 2 0 rfl rfl (zin (rfl : z2659.toInt = _) (om_546 c2585i f2661 hy13 i2578)) dX9_laysSpace_94 ?_
                refine lv_topi (fun z2662 e2663 => ?_)
                have f2664 : 0 ≤ z2662.toInt ∧ z2662.toInt ≤ 8 ∧ (z2662.toInt = 0 ∨ z2662.toInt < z2659.toInt - 13) := ((hy12.at e2663 (rfl : z2659.toInt = _) (om_366 f2661 i2578)).2.2.1).resolve_left (fun q9 => q9 (om_547 c2585i f2661 hy13 i2578))
                refine zfv (wr := [(h0_flats, .inl (g.2.1.1, 72, .inl f4)), (h0_low, .inl (g.2.1.1, 30, .inl fn2481)), (h0_high, .inl (g.2.1.1, 30, .inl fn2482))]) (va_runV (As := [.int v2476, .int z2662]) (rest := []) ⟨hx, hb, hml, hown, hG⟩ (kX9_standsUp l g h0 v2476 z2662 h0_told h0_read h0_now h0_readNow h0_kept h0_undone h0_seed h0_hasPart h0_tape h0_taped h0_refused h0_faultKind h0_faultPlace h0_size h0_at h0_from h0_wrong h0_wrongAt h0_ownLetters h0_flats v3 h0_corner h0_wayX h0_wayY h0_normal h0_low h0_high h0_clear h0_ways h0_canBe h0_lain h0_canTool h0_fewestBy h0_sortOf h0_rows h0_seenFlange h0_seenLength fn2479 fn2480 fn2477 f_h0_told h0_told_3 h0_told_4 f_h0_now h0_now_0 fn2478 (om_548 c2585i hy13 i2578) (om_362 f2664) (om_27 hy0) (om_28 hy1) (om_29 hy2) (om_32 hy3) (om_31 hy4) (om_32 hy5) (om_32 hy6) (om_32 hy7) (om_31 hy8) (om_450 hq5) (om_13 hy10) (om_33 hy11) hf2580 hf2581 hf2579 hy12 (om_539 c2585i hy13 i2578) hy14 (om_33 hy15) hy16 hy17 (om_13 hy18) hy19 (om_549 f2661 f2664 i2578) hc2582 (om_433 c2585i hy2 hy23 i2578) _) ⟨callB_of 2 hG (zGood wc_X9_standsUp) rfl rfl rfl (hG _ wini_X9) (hG _ wm_X9_279) hX9_standsUp ⟨Nat.le_of_ble_eq_true rfl, Nat.le_of_ble_eq_true rfl⟩, hG _ wi_X9_standsUp, hG _ wse_X9_X9_standsUp⟩ (zpreV (va_recv hX.1 hP (ci := 9) (q0 := 4) rfl rfl) hX hP hD hS hA [4, 6, 7, 0, 2, 3, 5] rfl (by decide)) rfl rfl hl.1 rfl (lv_room (Nat.le_of_ble_eq_true rfl)) dX9_laysSpace_95 ⟨Nat.le_of_ble_eq_true rfl, Nat.le_of_ble_eq_true rfl⟩) hP hD hS hA [4, 6, 7, 0, 2, 3, 5] [1, 8, 9] rfl rfl (by decide) (by decide) (fun u2666 H locs hp hP hD hS => ?_)
                refine W.cs (cells' := 0) (slots' := 0) rfl rfl ?_
                obtain ⟨f2667, f2668, f2669, f2670⟩ := u2666
                obtain ⟨hq2671, hq2672, hq2673, hq2674⟩ : (aI (-3) 3 f2667) ∧ (aI (-3) 3 f2668) ∧ (aI (-3) 3 f2669) ∧ (pNs v2476 f2667 f2668 f2669) := hp
                have hP : va_P g.1 vwCl [(h0_flats, .inl (g.2.1.1, 72, .inl f4)), (h0_low, .inl (g.2.1.1, 30, .inl fn2481)), (h0_high, .inl (g.2.1.1, 30, .inl fn2482)), (h0, .inr (9, [.ref h0_told, .ref h0_read, .ref h0_now, .ref h0_readNow, .ref h0_kept, .int h0_undone, .int h0_seed, .int h0_hasPart, .ref h0_tape, .int h0_taped, .ref h0_refused, .int h0_faultKind, .int h0_faultPlace, .int h0_size, .int h0_at, .int h0_from, .int h0_wrong, .int h0_wrongAt, .ref h0_ownLetters, .ref h0_flats, .int v3, .ref h0_corner, .ref h0_wayX, .ref h0_wayY, .ref h0_normal, .ref h0_low, .ref h0_high, .ref h0_clear, .ref h0_ways, .ref h0_canBe, .ref h0_lain, .int h0_canTool, .ref h0_fewestBy, .ref h0_sortOf, .int h0_rows, .ref h0_seenFlange, .ref h0_seenLength])), (h0_wayX, .inl (g.2.1.1, 10, .inl f2667)), (h0_wayY, .inl (g.2.1.1, 10, .inl f2668)), (h0_normal, .inl (g.2.1.1, 10, .inl f2669)), (h0_told, .inl (g.2.1.1, 103, .inl f_h0_told)), (h0_now, .inl (g.2.1.1, 21, .inl f_h0_now)), (h0_corner, .inl (g.2.1.1, 30, .inl f2670))] H := hP
                have hD : va_D A [(h0_flats, .inl (g.2.1.1, 72, .inl f4)), (h0_low, .inl (g.2.1.1, 30, .inl fn2481)), (h0_high, .inl (g.2.1.1, 30, .inl fn2482)), (h0, .inr (9, [.ref h0_told, .ref h0_read, .ref h0_now, .ref h0_readNow, .ref h0_kept, .int h0_undone, .int h0_seed, .int h0_hasPart, .ref h0_tape, .int h0_taped, .ref h0_refused, .int h0_faultKind, .int h0_faultPlace, .int h0_size, .int h0_at, .int h0_from, .int h0_wrong, .int h0_wrongAt, .ref h0_ownLetters, .ref h0_flats, .int v3, .ref h0_corner, .ref h0_wayX, .ref h0_wayY, .ref h0_normal, .ref h0_low, .ref h0_high, .ref h0_clear, .ref h0_ways, .ref h0_canBe, .ref h0_lain, .int h0_canTool, .ref h0_fewestBy, .ref h0_sortOf, .int h0_rows, .ref h0_seenFlange, .ref h0_seenLength])), (h0_wayX, .inl (g.2.1.1, 10, .inl f2667)), (h0_wayY, .inl (g.2.1.1, 10, .inl f2668)), (h0_normal, .inl (g.2.1.1, 10, .inl f2669)), (h0_told, .inl (g.2.1.1, 103, .inl f_h0_told)), (h0_now, .inl (g.2.1.1, 21, .inl f_h0_now)), (h0_corner, .inl (g.2.1.1, 30, .inl f2670))] := hD
                refine lv_goto (tgt := 115) hx hb dX9_laysSpace_98 (by decide) ?_
                exact J2628 f2667 f2668 f2669 f2670 H locs ls hq2671 hq2672 hq2673 hq2674 (hP.sub [7, 8, 1, 2, 3, 4, 5, 6, 9, 0] rfl) (hD.sub [7, 8, 1, 2, 3, 4, 5, 6, 9, 0] (by decide) rfl) hS (lv_sub hl [0, 1, 2] rfl)
        exact L2575 _ (1 : Int32) f1801 fn909 f1795 f1798 f1810 f1811 H locs ls ((show 1 ≤ (1 : Int) ∧ (1 : Int) ≤ 9 from by decide)) hf1803 hf1797 hf1800 (pNz.one e1796 e1799 e1802 (by decide) (by decide) (by decide)) (om_550 hy13) (Nat.lt_succ_self _) hP hD hS (lv_sub hl [1, 2, 0] rfl)
      · skip
        have c1794i : ¬ ((3 : Int) ≤ v908.toInt) := fun q => c1794 ((zc_le (show (3 : Int32).toInt = (3 : Int) from by decide) (rfl : v908.toInt = _)).mpr q)
        refine lv_aload_n hx hb dX9_laysSpace_11 rfl (lv_at hl 0 rfl) ?_
        refine va_get (D := g.1) (ci := 9) (v := .ref h0_corner) (C := RX9) (T := TX9) (N := 37) hx hb hG iX9 hown hX.1 hP 6 rfl rfl 21 (by decide) (hG _ wf_X9_75) (fun _ h9 => h9) rfl dX9_laysSpace_12 ?_
        refine lv_iload_n hx hb dX9_laysSpace_15 rfl (lv_at hl 2 rfl) ?_
        refine lv_iconst (v := 0) hx hb dX9_laysSpace_16 (by decide) ?_
        refine va_iast hx hb hX.1 hP hD hS 0 0 rfl rfl (zin (rfl : v908.toInt = _) (om_551 c1794i i1792)) dX9_laysSpace_17 (fun H locs hP hD hS => ?_)
        obtain ⟨f2675, e2676⟩ : ∃ z9 : Nat → Int32, z9 = upd fn909 v908.toNatClampNeg (0 : Int32) := ⟨_, rfl⟩
        rw [← e2676] at hP hD
        have hP : va_P g.1 vwCl [(h0_corner, .inl (g.2.1.1, 30, .inl f2675)), (h0_wayX, .inl (g.2.1.1, 10, .inl f_h0_wayX)), (h0_wayY, .inl (g.2.1.1, 10, .inl f_h0_wayY)), (h0_normal, .inl (g.2.1.1, 10, .inl f_h0_normal)), (h0_low, .inl (g.2.1.1, 30, .inl f_h0_low)), (h0_high, .inl (g.2.1.1, 30, .inl f_h0_high)), (h0, .inr (9, [.ref h0_told, .ref h0_read, .ref h0_now, .ref h0_readNow, .ref h0_kept, .int h0_undone, .int h0_seed, .int h0_hasPart, .ref h0_tape, .int h0_taped, .ref h0_refused, .int h0_faultKind, .int h0_faultPlace, .int h0_size, .int h0_at, .int h0_from, .int h0_wrong, .int h0_wrongAt, .ref h0_ownLetters, .ref h0_flats, .int v3, .ref h0_corner, .ref h0_wayX, .ref h0_wayY, .ref h0_normal, .ref h0_low, .ref h0_high, .ref h0_clear, .ref h0_ways, .ref h0_canBe, .ref h0_lain, .int h0_canTool, .ref h0_fewestBy, .ref h0_sortOf, .int h0_rows, .ref h0_seenFlange, .ref h0_seenLength])), (h0_flats, .inl (g.2.1.1, 72, .inl f4)), (h0_told, .inl (g.2.1.1, 103, .inl f_h0_told)), (h0_now, .inl (g.2.1.1, 21, .inl f_h0_now))] H := hP
        have hD : va_D A [(h0_corner, .inl (g.2.1.1, 30, .inl f2675)), (h0_wayX, .inl (g.2.1.1, 10, .inl f_h0_wayX)), (h0_wayY, .inl (g.2.1.1, 10, .inl f_h0_wayY)), (h0_normal, .inl (g.2.1.1, 10, .inl f_h0_normal)), (h0_low, .inl (g.2.1.1, 30, .inl f_h0_low)), (h0_high, .inl (g.2.1.1, 30, .inl f_h0_high)), (h0, .inr (9, [.ref h0_told, .ref h0_read, .ref h0_now, .ref h0_readNow, .ref h0_kept, .int h0_undone, .int h0_seed, .int h0_hasPart, .ref h0_tape, .int h0_taped, .ref h0_refused, .int h0_faultKind, .int h0_faultPlace, .int h0_size, .int h0_at, .int h0_from, .int h0_wrong, .int h0_wrongAt, .ref h0_ownLetters, .ref h0_flats, .int v3, .ref h0_corner, .ref h0_wayX, .ref h0_wayY, .ref h0_normal, .ref h0_low, .ref h0_high, .ref h0_clear, .ref h0_ways, .ref h0_canBe, .ref h0_lain, .int h0_canTool, .ref h0_fewestBy, .ref h0_sortOf, .int h0_rows, .ref h0_seenFlange, .ref h0_seenLength])), (h0_flats, .inl (g.2.1.1, 72, .inl f4)), (h0_told, .inl (g.2.1.1, 103, .inl f_h0_told)), (h0_now, .inl (g.2.1.1, 21, .inl f_h0_now))] := hD
        obtain ⟨z2677, e2678⟩ : ∃ y9 : Int32, y9 = v908 + 1 := ⟨_, rfl⟩
        have f2679 : z2677.toInt = v908.toInt + 1 := za e2678 (rfl : v908.toInt = _) (show (1 : Int32).toInt = (1 : Int) from by decide) (om_497 c1794i i1792)
        refine lv_iinc (v := z2677) (lv' := [(2, .int z2677), (0, .ref h0), (1, .int x1)]) hx hb dX9_laysSpace_18 hl (k := 2) rfl (by rw [e2678]; rfl) (by decide) rfl (fun ls hl => ?_)
        refine lv_goto (tgt := 6) hx hb dX9_laysSpace_21 (by decide) ?_
        exact ih1791 z2677 f2675 H locs ls (om_498 c1794i f2679 i1792) (zdec hm1793 (om_499 c1794i f2679)) hP hD hS (lv_sub hl [1, 2, 0] rfl)
  exact L1789 _ (0 : Int32) f_h0_corner H locs ls ((show 0 ≤ (0 : Int) ∧ (0 : Int) ≤ 3 from by decide)) (Nat.lt_succ_self _) hP hD hS (lv_sub hl [1, 2, 0] rfl)
