theorem ox_221 {a0 : Int} (h0 : -2147483648 ≤ a0 ∧ a0 < 2147483648) (h1 : 1 ≤ a0 ∧ a0 ≤ 8) : -2147483648 ≤ a0 - (1 : Int) ∧ a0 - (1 : Int) < 2147483648 := by omega
theorem ox_222 {a0 a1 : Int} (h0 : a0 = a1 - (1 : Int)) (h1 : 1 ≤ a1 ∧ a1 ≤ 8) : 0 ≤ a0 ∧ a0 ≤ 7 := by omega
theorem ox_223 {a0 : Int} (h0 : 1 ≤ a0 ∧ a0 ≤ 128) : 1 ≤ a0 ∧ a0 ≤ 128 := by omega
theorem ox_224 {a0 : Int} (h0 : -2147483648 ≤ a0 ∧ a0 < 2147483648) (h1 : 0 ≤ a0 ∧ a0 ≤ 255) : -2147483648 ≤ a0 * (8 : Int) ∧ a0 * (8 : Int) < 2147483648 := by omega
theorem ox_225 {a0 a1 a2 : Int} (h0 : -2147483648 ≤ a2 ∧ a2 < 2147483648) (h1 : -2147483648 ≤ a1 ∧ a1 < 2147483648) (h2 : -2147483648 ≤ a0 ∧ a0 < 2147483648) (h3 : a0 = a2 * (8 : Int)) (h4 : 0 ≤ a2 ∧ a2 ≤ 255) (h5 : 1 ≤ a1 ∧ a1 ≤ 8) : -2147483648 ≤ a0 + a1 ∧ a0 + a1 < 2147483648 := by omega
theorem ox_226 {a0 a1 a2 a3 : Int} (h0 : -2147483648 ≤ a1 ∧ a1 < 2147483648) (h1 : -2147483648 ≤ a2 ∧ a2 < 2147483648) (h2 : -2147483648 ≤ a3 ∧ a3 < 2147483648) (h3 : -2147483648 ≤ a0 ∧ a0 < 2147483648) (h4 : a3 = a1 * (8 : Int)) (h5 : a0 = a3 + a2) (h6 : 0 ≤ a1 ∧ a1 ≤ 255) (h7 : 1 ≤ a2 ∧ a2 ≤ 8) : -2147483648 ≤ a0 - (1 : Int) ∧ a0 - (1 : Int) < 2147483648 := by omega
theorem ox_227 {a0 a1 a2 a3 a4 : Int} (h0 : a1 = a2 * (8 : Int)) (h1 : a3 = a1 + a4) (h2 : a0 = a3 - (1 : Int)) (h3 : 0 ≤ a2 ∧ a2 ≤ 255) (h4 : 1 ≤ a4 ∧ a4 ≤ 8) : 0 ≤ a0 ∧ a0 ≤ 2047 := by omega
theorem ox_228 {a0 : Int} (h0 : 0 ≤ a0 ∧ a0 ≤ 255) : 0 ≤ a0 ∧ a0 ≤ 255 := by omega
theorem ox_229 {a0 : Int} (h0 : 0 ≤ a0 ∧ a0 ≤ 2047) : 0 ≤ a0 ∧ a0 < 2048 := by omega
theorem ox_230 {a0 : Int} (h0 : 0 ≤ a0 ∧ a0 ≤ 255) : 0 ≤ a0 ∧ a0 < 256 := by omega
theorem ox_231 {a0 a1 : Int} (h0 : -2147483648 ≤ a1 ∧ a1 < 2147483648) (h1 : -2147483648 ≤ a0 ∧ a0 < 2147483648) (h2 : 0 ≤ a0 ∧ a0 ≤ (858993459 : Int)) (h3 : 0 ≤ a1 ∧ a1 ≤ (858993459 : Int)) : -2147483648 ≤ a0 + a1 ∧ a0 + a1 < 2147483648 := by omega
theorem ox_232 {a0 : Int} (h0 : 0 ≤ a0 ∧ a0 ≤ (63 : Int)) : 0 ≤ a0 ∧ a0 ≤ 63 := by omega
theorem ox_233 {a0 : Int} (h0 : -2147483648 ≤ a0 ∧ a0 < 2147483648) (h1 : 0 ≤ a0 ∧ a0 ≤ 9) : -2147483648 ≤ a0 - (1 : Int) ∧ a0 - (1 : Int) < 2147483648 := by omega
theorem ox_234 {a0 a1 : Int} (h0 : a0 = a1 - (1 : Int)) (h1 : 0 ≤ a1 ∧ a1 ≤ 9) : (-1) ≤ a0 ∧ a0 ≤ 8 := by omega
theorem ox_235 {a0 a1 : Int} (h0 : a1 = a0 - (1 : Int)) (h1 : 0 ≤ a0 ∧ a0 ≤ 9) : 0 ≤ a0 ∧ a0 ≤ 9 := by omega
theorem ox_236 {a0 : Int} (h0 : ¬ (a0 < (0 : Int))) (h1 : (-1) ≤ a0 ∧ a0 ≤ 255) : 0 ≤ a0 ∧ a0 < 256 := by omega
theorem ox_237 {a0 : Int} (h0 : -2147483648 ≤ a0 ∧ a0 < 2147483648) (h1 : ¬ (a0 < (0 : Int))) (h2 : (-1) ≤ a0 ∧ a0 ≤ 255) : -2147483648 ≤ a0 + (-1) ∧ a0 + (-1) < 2147483648 := by omega
theorem ox_238 {a0 a1 : Int} (h0 : ¬ (a1 < (0 : Int))) (h1 : a0 = a1 + (-1)) (h2 : (-1) ≤ a1 ∧ a1 ≤ 255) : (-1) ≤ a0 ∧ a0 ≤ 255 := by omega
theorem ox_239 {a0 a1 : Int} (h0 : ¬ (a1 < (0 : Int))) (h1 : a0 = a1 + (-1)) (h2 : (-1) ≤ a1 ∧ a1 ≤ 255) : (a0 - (-2)).toNat < (a1 - (-2)).toNat := by omega
theorem ox_240 {a0 : Int} (h0 : ¬ (a0 < (0 : Int))) (h1 : (-1) ≤ a0 ∧ a0 ≤ 255) : 0 ≤ a0 ∧ a0 ≤ 255 := by omega
theorem ox_241 {a0 a1 a2 : Int} (h0 : ¬ (a1 < a0)) (h1 : a1 = a2 - (1 : Int)) (h2 : 0 ≤ a2 ∧ a2 ≤ 9) (h3 : 1 ≤ a0 ∧ a0 ≤ 9) : 1 ≤ a0 ∧ a0 ≤ 8 := by omega
theorem ox_242 {a0 a1 a2 : Int} (h0 : -2147483648 ≤ a0 ∧ a0 < 2147483648) (h1 : -2147483648 ≤ a1 ∧ a1 < 2147483648) (h2 : -2147483648 ≤ a2 ∧ a2 < 2147483648) (h3 : ¬ (a2 < a0)) (h4 : a2 = a1 - (1 : Int)) (h5 : 0 ≤ a1 ∧ a1 ≤ 9) (h6 : 1 ≤ a0 ∧ a0 ≤ 9) : -2147483648 ≤ a0 + 1 ∧ a0 + 1 < 2147483648 := by omega
theorem ox_243 {a0 a1 a2 a3 : Int} (h0 : ¬ (a1 < a2)) (h1 : a0 = a2 + 1) (h2 : a1 = a3 - (1 : Int)) (h3 : 0 ≤ a3 ∧ a3 ≤ 9) (h4 : 1 ≤ a2 ∧ a2 ≤ 9) : 1 ≤ a0 ∧ a0 ≤ 9 := by omega
theorem ox_244 {a0 a1 a2 a3 : Int} (h0 : ¬ (a2 < a1)) (h1 : a0 = a1 + 1) (h2 : a2 = a3 - (1 : Int)) (h3 : 0 ≤ a3 ∧ a3 ≤ 9) (h4 : 1 ≤ a1 ∧ a1 ≤ 9) : (10 - a0).toNat < (10 - a1).toNat := by omega
theorem ox_245 {a0 a1 a2 : Int} (h0 : ¬ (a1 < a2)) (h1 : a1 = a0 - (1 : Int)) (h2 : 0 ≤ a0 ∧ a0 ≤ 9) (h3 : 1 ≤ a2 ∧ a2 ≤ 9) : 0 ≤ a0 ∧ a0 ≤ 9 := by omega
theorem ox_246 {a0 a1 a2 : Int} (h0 : ¬ (a1 < a0)) (h1 : a1 = a2 - (1 : Int)) (h2 : 0 ≤ a2 ∧ a2 ≤ 9) (h3 : 1 ≤ a0 ∧ a0 ≤ 9) : 0 ≤ a0 ∧ a0 < 9 := by omega
theorem ox_247 {a0 a1 : Int} (h0 : ¬ (a0 < (0 : Int))) (h1 : 1 ≤ a1 ∧ a1 ≤ 128) (h2 : (-1) ≤ a0 ∧ a0 ≤ 255) : (0 : Int) ≤ a0 ∧ (a0 : Int) < 256 ∧ (0 : Int) ≤ a1 ∧ (a1 : Int) < 256 := by omega
theorem ox_248 {a0 : Int} (h0 : 0 ≤ a0 ∧ a0 < 256) : 0 ≤ a0 ∧ a0 < 256 := by omega
theorem ox_249 {a0 : Int} (h0 : 0 ≤ a0 ∧ a0 ≤ 255) : (-1) ≤ a0 ∧ a0 ≤ 255 := by omega
theorem ox_250 {a0 a1 : Int} (h0 : a0 < a1) (h1 : 0 ≤ a0 ∧ a0 ≤ 255) (h2 : 0 ≤ a1 ∧ a1 ≤ 256) : 0 ≤ a0 ∧ a0 < 256 := by omega
theorem ox_251 {a0 a1 : Int} (h0 : -2147483648 ≤ a0 ∧ a0 < 2147483648) (h1 : -2147483648 ≤ a1 ∧ a1 < 2147483648) (h2 : a0 < a1) (h3 : 0 ≤ a0 ∧ a0 ≤ 255) (h4 : 0 ≤ a1 ∧ a1 ≤ 256) : -2147483648 ≤ a0 - (1 : Int) ∧ a0 - (1 : Int) < 2147483648 := by omega
theorem ox_252 {a0 a1 : Int} (h0 : -2147483648 ≤ a1 ∧ a1 < 2147483648) (h1 : -2147483648 ≤ a0 ∧ a0 < 2147483648) (h2 : a0 ≥ (1 : Int) ∧ a0 ≥ a1 ∧ (a0 = (1 : Int) ∨ a0 = a1)) : 1 ≤ a0 ∧ a0 ≤ 2147483647 := by omega
theorem ox_253 {a0 a1 : Int} (h0 : -2147483648 ≤ a0 ∧ a0 < 2147483648) (h1 : -2147483648 ≤ a1 ∧ a1 < 2147483648) (h2 : ¬ (a0 < a1)) (h3 : 0 ≤ a1 ∧ a1 ≤ 255) (h4 : (-1) ≤ a0 ∧ a0 ≤ 254) : -2147483648 ≤ a0 + (-1) ∧ a0 + (-1) < 2147483648 := by omega
theorem ox_254 {a0 a1 a2 : Int} (h0 : ¬ (a1 < a2)) (h1 : a0 = a1 + (-1)) (h2 : 0 ≤ a2 ∧ a2 ≤ 255) (h3 : (-1) ≤ a1 ∧ a1 ≤ 254) : (-1) ≤ a0 ∧ a0 ≤ 254 := by omega
theorem ox_255 {a0 a1 a2 : Int} (h0 : ¬ (a1 < a2)) (h1 : a0 = a1 + (-1)) (h2 : 0 ≤ a2 ∧ a2 ≤ 255) (h3 : (-1) ≤ a1 ∧ a1 ≤ 254) : (a0 - (-2)).toNat < (a1 - (-2)).toNat := by omega
theorem ox_256 {a0 a1 : Int} (h0 : ¬ (a0 < a1)) (h1 : 0 ≤ a1 ∧ a1 ≤ 255) (h2 : (-1) ≤ a0 ∧ a0 ≤ 254) : 0 ≤ a0 ∧ a0 ≤ 255 := by omega
theorem ox_257 {a0 a1 : Int} (h0 : ¬ (a0 < a1)) (h1 : (-1) ≤ a0 ∧ a0 ≤ 8) (h2 : 1 ≤ a1 ∧ a1 ≤ 9) : (-1) ≤ a0 ∧ a0 ≤ 8 := by omega
theorem ox_258 {a0 a1 a2 : Int} (h0 : a0 < a1) (h1 : a2 = a0 - (1 : Int)) (h2 : 0 ≤ a0 ∧ a0 ≤ 255) (h3 : 0 ≤ a1 ∧ a1 ≤ 256) : 0 ≤ a0 ∧ a0 ≤ 255 := by omega
theorem ox_259 {a0 a1 : Int} (h0 : ¬ (a1 < a0)) (h1 : 0 ≤ a0 ∧ a0 ≤ 255) (h2 : (-1) ≤ a1 ∧ a1 ≤ 254) : 0 ≤ a0 ∧ a0 ≤ 255 := by omega
theorem ox_260 {a0 a1 : Int} (h0 : ¬ (a0 < a1)) (h1 : 0 ≤ a1 ∧ a1 ≤ 255) (h2 : (-1) ≤ a0 ∧ a0 ≤ 254) : 0 ≤ a0 ∧ a0 < 256 := by omega
theorem ox_261 {a0 a1 : Int} (h0 : ¬ (a1 < a0)) (h1 : (-1) ≤ a1 ∧ a1 ≤ 8) (h2 : 1 ≤ a0 ∧ a0 ≤ 9) : 1 ≤ a0 ∧ a0 ≤ 8 := by omega
theorem ox_262 {a0 a1 : Int} (h0 : -2147483648 ≤ a1 ∧ a1 < 2147483648) (h1 : -2147483648 ≤ a0 ∧ a0 < 2147483648) (h2 : ¬ (a1 < a0)) (h3 : (-1) ≤ a1 ∧ a1 ≤ 8) (h4 : 1 ≤ a0 ∧ a0 ≤ 9) : -2147483648 ≤ a0 + 1 ∧ a0 + 1 < 2147483648 := by omega
theorem ox_263 {a0 a1 a2 : Int} (h0 : ¬ (a1 < a2)) (h1 : a0 = a2 + 1) (h2 : (-1) ≤ a1 ∧ a1 ≤ 8) (h3 : 1 ≤ a2 ∧ a2 ≤ 9) : 1 ≤ a0 ∧ a0 ≤ 9 := by omega
theorem ox_264 {a0 a1 a2 : Int} (h0 : ¬ (a2 < a1)) (h1 : a0 = a1 + 1) (h2 : (-1) ≤ a2 ∧ a2 ≤ 8) (h3 : 1 ≤ a1 ∧ a1 ≤ 9) : (10 - a0).toNat < (10 - a1).toNat := by omega
theorem ox_265 {a0 a1 a2 : Int} (h0 : ¬ (a0 < a2)) (h1 : 1 ≤ a1 ∧ a1 ≤ 128) (h2 : 0 ≤ a2 ∧ a2 ≤ 255) (h3 : (-1) ≤ a0 ∧ a0 ≤ 254) : (0 : Int) ≤ a0 ∧ (a0 : Int) < 256 ∧ (0 : Int) ≤ a1 ∧ (a1 : Int) < 256 := by omega
theorem ox_266 {a0 a1 a2 : Int} (h0 : a1 < a2) (h1 : a0 = a1 - (1 : Int)) (h2 : 0 ≤ a1 ∧ a1 ≤ 255) (h3 : 0 ≤ a2 ∧ a2 ≤ 256) : (-1) ≤ a0 ∧ a0 ≤ 254 := by omega
theorem ox_267 {a0 a1 : Int} (h0 : -2147483648 ≤ a1 ∧ a1 < 2147483648) (h1 : -2147483648 ≤ a0 ∧ a0 < 2147483648) (h2 : ¬ (a1 < a0)) (h3 : 0 ≤ a1 ∧ a1 ≤ 255) (h4 : 0 ≤ a0 ∧ a0 ≤ 256) : -2147483648 ≤ a0 + 1 ∧ a0 + 1 < 2147483648 := by omega
theorem ox_268 {a0 a1 a2 : Int} (h0 : ¬ (a1 < a2)) (h1 : a0 = a2 + 1) (h2 : 0 ≤ a1 ∧ a1 ≤ 255) (h3 : 0 ≤ a2 ∧ a2 ≤ 256) : 0 ≤ a0 ∧ a0 ≤ 256 := by omega
theorem ox_269 {a0 a1 a2 : Int} (h0 : ¬ (a2 < a1)) (h1 : a0 = a1 + 1) (h2 : 0 ≤ a2 ∧ a2 ≤ 255) (h3 : 0 ≤ a1 ∧ a1 ≤ 256) : (257 - a0).toNat < (257 - a1).toNat := by omega
theorem ox_270 {a0 a1 : Int} (h0 : ¬ (a1 < a0)) (h1 : 0 ≤ a1 ∧ a1 ≤ 255) (h2 : 0 ≤ a0 ∧ a0 ≤ 256) : 0 ≤ a0 ∧ a0 ≤ 255 := by omega
theorem ox_271 {a0 a1 : Int} (h0 : ¬ (a0 < a1)) (h1 : 0 ≤ a0 ∧ a0 ≤ 255) (h2 : 0 ≤ a1 ∧ a1 ≤ 256) : 0 ≤ a0 ∧ a0 ≤ 255 := by omega
theorem ox_272 {a0 a1 a2 : Int} (h0 : ¬ (a2 < a0)) (h1 : 1 ≤ a1 ∧ a1 ≤ 128) (h2 : 0 ≤ a2 ∧ a2 ≤ 255) (h3 : 0 ≤ a0 ∧ a0 ≤ 256) : (0 : Int) ≤ a0 ∧ (a0 : Int) < 256 ∧ (0 : Int) ≤ a1 ∧ (a1 : Int) < 256 := by omega
theorem ox_273 {a0 : Int} (h0 : 0 ≤ a0 ∧ a0 ≤ 255) : 0 ≤ a0 ∧ a0 ≤ 256 := by omega
theorem ox_274 {a0 : Int} (h0 : (-1) ≤ a0 ∧ a0 ≤ 8) : (-1) ≤ a0 ∧ a0 ≤ 8 := by omega
theorem ox_275 {a0 a1 : Int} (h0 : 1 ≤ a1 ∧ a1 ≤ 128) (h1 : 0 ≤ a0 ∧ a0 ≤ 255) : (0 : Int) ≤ a0 ∧ (a0 : Int) < 256 ∧ (0 : Int) ≤ a1 ∧ (a1 : Int) < 256 := by omega
theorem ox_276 {a0 a1 : Int} (h0 : ¬ (a1 < a0)) (h1 : (-1) ≤ a1 ∧ a1 ≤ 8) (h2 : 1 ≤ a0 ∧ a0 ≤ 9) : 0 ≤ a0 ∧ a0 ≤ 8 := by omega
theorem ox_277 {a0 : Int} (h0 : 0 ≤ a0 ∧ a0 < 256) : 0 ≤ a0 ∧ a0 ≤ 255 := by omega
theorem ox_278 {a0 : Int} (h0 : (8 : Int) ≤ a0) (h1 : 0 ≤ a0 ∧ a0 ≤ 8) : 1 ≤ a0 ∧ a0 ≤ 8 := by omega
theorem ox_279 {a0 : Int} (h0 : ¬ ((8 : Int) ≤ a0)) (h1 : 0 ≤ a0 ∧ a0 ≤ 8) : 0 ≤ a0 ∧ a0 < 8 := by omega
theorem ox_280 {a0 : Int} (h0 : -2147483648 ≤ a0 ∧ a0 < 2147483648) (h1 : ¬ ((8 : Int) ≤ a0)) (h2 : 0 ≤ a0 ∧ a0 ≤ 8) : -2147483648 ≤ a0 + (1 : Int) ∧ a0 + (1 : Int) < 2147483648 := by omega
theorem ox_281 {a0 a1 : Int} (h0 : ¬ ((8 : Int) ≤ a1)) (h1 : a0 = a1 + (1 : Int)) (h2 : 0 ≤ a1 ∧ a1 ≤ 8) : 1 ≤ a0 ∧ a0 ≤ 8 := by omega
theorem ox_282 {a0 a1 : Int} (h0 : ¬ ((8 : Int) ≤ a0)) (h1 : a1 = a0 + (1 : Int)) (h2 : 0 ≤ a0 ∧ a0 ≤ 8) : 0 ≤ a0 := by omega
theorem ox_283 {a0 a1 : Int} (h0 : ¬ ((8 : Int) ≤ a1)) (h1 : a0 = a1 + (1 : Int)) (h2 : 0 ≤ a1 ∧ a1 ≤ 8) : a0 = a1 + 1 := by omega
theorem ox_284 {a0 a1 : Int} (h0 : ¬ (a0 = a1)) (h1 : 0 ≤ a1 ∧ a1 ≤ 255) (h2 : 0 ≤ a0 ∧ a0 ≤ 255) : 0 ≤ a0 ∧ a0 ≤ 255 := by omega
theorem ox_285 {a0 a1 : Int} (h0 : ¬ (a1 = a0)) (h1 : 0 ≤ a0 ∧ a0 ≤ 255) (h2 : 0 ≤ a1 ∧ a1 ≤ 255) : 0 ≤ a0 ∧ a0 ≤ 255 := by omega
theorem ox_286 {a0 : Int} (h0 : ¬ (a0 = (0 : Int))) (h1 : 0 ≤ a0 ∧ a0 ≤ 8) : 1 ≤ a0 ∧ a0 ≤ 8 := by omega
theorem ox_287 {a0 : Int} (h0 : -2147483648 ≤ a0 ∧ a0 < 2147483648) (h1 : ¬ ((8 : Int) ≤ a0)) (h2 : 0 ≤ a0 ∧ a0 ≤ 8) : -2147483648 ≤ a0 + 1 ∧ a0 + 1 < 2147483648 := by omega
theorem ox_288 {a0 a1 : Int} (h0 : ¬ ((8 : Int) ≤ a1)) (h1 : a0 = a1 + 1) (h2 : 0 ≤ a1 ∧ a1 ≤ 8) : 0 ≤ a0 ∧ a0 ≤ 8 := by omega
theorem ox_289 {a0 a1 : Int} (h0 : ¬ ((8 : Int) ≤ a1)) (h1 : a0 = a1 + 1) (h2 : 0 ≤ a1 ∧ a1 ≤ 8) : (9 - a0).toNat < (9 - a1).toNat := by omega
theorem ox_290 {a0 a1 : Int} (h0 : ¬ (a0 < (0 : Int))) (h1 : ¬ (a1 ≤ a0)) (h2 : 0 ≤ a1 ∧ a1 ≤ 8) : a0 < (8 : Int) := by omega
theorem ox_291 {a0 a1 : Int} (h0 : ¬ (a0 < (0 : Int))) (h1 : ¬ (a1 ≤ a0)) (h2 : 0 ≤ a1 ∧ a1 ≤ 8) : 0 ≤ a0 ∧ a0 < 8 := by omega
theorem ox_292 {a0 a1 a2 : Int} (h0 : ¬ (a1 ≤ a0)) (h1 : ¬ (a2 ≤ a0)) (h2 : 0 ≤ a2 ∧ a2 ≤ 8) (h3 : 0 ≤ a0 ∧ a0 ≤ 8) : 0 ≤ a0 ∧ a0 < 8 := by omega
theorem ox_293 {a0 a1 a2 : Int} (h0 : ¬ (a2 ≤ a0)) (h1 : ¬ (a1 ≤ a0)) (h2 : 0 ≤ a1 ∧ a1 ≤ 8) (h3 : 0 ≤ a0 ∧ a0 ≤ 8) : (0 : Int) ≤ a0 ∧ (a0 : Int) < a1 := by omega
theorem ox_294 {a0 a1 a2 : Int} (h0 : -2147483648 ≤ a1 ∧ a1 < 2147483648) (h1 : -2147483648 ≤ a0 ∧ a0 < 2147483648) (h2 : -2147483648 ≤ a2 ∧ a2 < 2147483648) (h3 : ¬ (a2 ≤ a0)) (h4 : ¬ (a1 ≤ a0)) (h5 : 0 ≤ a1 ∧ a1 ≤ 8) (h6 : 0 ≤ a0 ∧ a0 ≤ 8) : -2147483648 ≤ a0 + 1 ∧ a0 + 1 < 2147483648 := by omega
theorem ox_295 {a0 a1 a2 a3 : Int} (h0 : ¬ (a1 ≤ a2)) (h1 : ¬ (a3 ≤ a2)) (h2 : a0 = a2 + 1) (h3 : 0 ≤ a3 ∧ a3 ≤ 8) (h4 : 0 ≤ a2 ∧ a2 ≤ 8) : 0 ≤ a0 ∧ a0 ≤ 8 := by omega
theorem ox_296 {a0 a1 a2 a3 : Int} (h0 : ¬ (a2 ≤ a1)) (h1 : ¬ (a3 ≤ a1)) (h2 : a0 = a1 + 1) (h3 : 0 ≤ a3 ∧ a3 ≤ 8) (h4 : 0 ≤ a1 ∧ a1 ≤ 8) : (9 - a0).toNat < (9 - a1).toNat := by omega
theorem ox_297 {a0 : Int} (h0 : 0 ≤ a0 ∧ a0 ≤ 255) : 0 ≤ a0 := by omega
theorem ox_298 {a0 a1 : Int} (h0 : 0 ≤ a0 ∧ a0 ≤ a1) (h1 : 0 ≤ a1 ∧ a1 ≤ 255) : 0 ≤ a0 ∧ a0 ≤ 255 := by omega
theorem ox_299 {a0 a1 : Int} (h0 : 0 ≤ a1 ∧ a1 ≤ a0) (h1 : 0 ≤ a0 ∧ a0 ≤ 255) : 0 ≤ a0 ∧ a0 ≤ 255 := by omega
theorem ox_300 {a0 a1 : Int} (h0 : ¬ (a1 < a0)) (h1 : 0 ≤ a1 ∧ a1 ≤ 255) (h2 : 0 ≤ a0 ∧ a0 ≤ 256) : 0 ≤ a0 ∧ a0 < 256 := by omega
theorem ox_301 {a0 a1 : Int} (h0 : ¬ (a0 = a1)) (h1 : 0 ≤ a0 ∧ a0 ≤ 255) (h2 : 0 ≤ a1 ∧ a1 ≤ 255) : 0 ≤ a0 ∧ a0 ≤ 255 := by omega
theorem ox_302 {a0 a1 : Int} (h0 : ¬ (a1 = a0)) (h1 : 0 ≤ a1 ∧ a1 ≤ 255) (h2 : 0 ≤ a0 ∧ a0 ≤ 255) : 0 ≤ a0 ∧ a0 ≤ 255 := by omega
theorem ox_303 {a0 : Int} (h0 : (-1) ≤ a0 ∧ a0 ≤ 255) : (-1) ≤ a0 ∧ a0 ≤ 255 := by omega
theorem ox_304 {a0 a1 : Int} (h0 : ¬ (a1 < a0)) (h1 : 0 ≤ a1 ∧ a1 ≤ 255) (h2 : 0 ≤ a0 ∧ a0 ≤ 256) : (-1) ≤ a0 ∧ a0 ≤ 255 := by omega
theorem ox_305 {a0 : Int} (h0 : ¬ (a0 = (-1 : Int))) (h1 : (-1) ≤ a0 ∧ a0 ≤ 255) : (-1) ≤ a0 ∧ a0 ≤ 255 := by omega
theorem ox_306 {a0 a1 : Int} (h0 : a0 < a1) (h1 : 0 ≤ a0 ∧ a0 ≤ 255) (h2 : 0 ≤ a1 ∧ a1 ≤ 256) : 0 ≤ a0 := by omega
theorem ox_307 {a0 a1 a2 : Int} (h0 : a1 < a2) (h1 : 0 ≤ a0 ∧ a0 ≤ a1) (h2 : 0 ≤ a1 ∧ a1 ≤ 255) (h3 : 0 ≤ a2 ∧ a2 ≤ 256) : 0 ≤ a0 ∧ a0 ≤ 255 := by omega
theorem ox_308 {a0 a1 : Int} (h0 : 0 ≤ a1 ∧ a1 ≤ 255) (h1 : 0 ≤ a0 ∧ a0 ≤ 255) : (0 : Int) ≤ a0 ∧ (a0 : Int) < 256 ∧ (0 : Int) ≤ a1 ∧ (a1 : Int) < 256 := by omega
theorem ox_309 {a0 : Int} (h0 : ¬ (a0 = (0 : Int))) (h1 : 0 ≤ a0 ∧ a0 ≤ 8) : 0 ≤ a0 ∧ a0 < 9 := by omega
theorem ox_310 {a0 : Int} (h0 : -2147483648 ≤ a0 ∧ a0 < 2147483648) (h1 : (-2147483648) ≤ a0 ∧ a0 ≤ 1000) : (-2147483648) ≤ a0 ∧ a0 ≤ 1000 := by omega
theorem ox_311 {a0 a1 a2 : Int} (h0 : -2147483648 ≤ a1 ∧ a1 < 2147483648) (h1 : -2147483648 ≤ a2 ∧ a2 < 2147483648) (h2 : -2147483648 ≤ a0 ∧ a0 < 2147483648) (h3 : a0 ≤ a2 ∧ a0 ≤ a1 ∧ (a0 = a2 ∨ a0 = a1)) (h4 : (-2147483648) ≤ a2 ∧ a2 ≤ 1000) : (-2147483648) ≤ a0 ∧ a0 ≤ 1000 := by omega
theorem ox_312 {a0 a1 : Int} (h0 : -2147483648 ≤ a1 ∧ a1 < 2147483648) (h1 : -2147483648 ≤ a0 ∧ a0 < 2147483648) (h2 : ¬ (a0 < a1)) (h3 : 0 ≤ a1 ∧ a1 ≤ 255) (h4 : (-1) ≤ a0 ∧ a0 ≤ 255) : -2147483648 ≤ a0 + (-1) ∧ a0 + (-1) < 2147483648 := by omega
theorem ox_313 {a0 a1 a2 : Int} (h0 : ¬ (a1 < a2)) (h1 : a0 = a1 + (-1)) (h2 : 0 ≤ a2 ∧ a2 ≤ 255) (h3 : (-1) ≤ a1 ∧ a1 ≤ 255) : (-1) ≤ a0 ∧ a0 ≤ 255 := by omega
theorem ox_314 {a0 a1 a2 : Int} (h0 : ¬ (a1 < a2)) (h1 : a0 = a1 + (-1)) (h2 : 0 ≤ a2 ∧ a2 ≤ 255) (h3 : (-1) ≤ a1 ∧ a1 ≤ 255) : (a0 - (-2)).toNat < (a1 - (-2)).toNat := by omega
theorem ox_315 {a0 a1 : Int} (h0 : ¬ (a0 < a1)) (h1 : 0 ≤ a1 ∧ a1 ≤ 255) (h2 : (-1) ≤ a0 ∧ a0 ≤ 255) : 0 ≤ a0 ∧ a0 ≤ 255 := by omega
theorem ox_316 {a0 a1 a2 : Int} (h0 : a0 < a1) (h1 : ¬ (a0 < a2)) (h2 : (-1) ≤ a0 ∧ a0 ≤ 8) (h3 : 1 ≤ a1 ∧ a1 ≤ 9) (h4 : 1 ≤ a2 ∧ a2 ≤ 9) : (-1) ≤ a0 ∧ a0 ≤ 8 := by omega
theorem ox_317 {a0 a1 : Int} (h0 : ¬ (a1 < a0)) (h1 : 0 ≤ a0 ∧ a0 ≤ 255) (h2 : (-1) ≤ a1 ∧ a1 ≤ 255) : 0 ≤ a0 ∧ a0 ≤ 255 := by omega
theorem ox_318 {a0 a1 a2 : Int} (h0 : a1 < a2) (h1 : ¬ (a1 < a0)) (h2 : (-1) ≤ a1 ∧ a1 ≤ 8) (h3 : 1 ≤ a2 ∧ a2 ≤ 9) (h4 : 1 ≤ a0 ∧ a0 ≤ 9) : 1 ≤ a0 ∧ a0 ≤ 8 := by omega
theorem ox_319 {a0 a1 a2 : Int} (h0 : -2147483648 ≤ a1 ∧ a1 < 2147483648) (h1 : -2147483648 ≤ a2 ∧ a2 < 2147483648) (h2 : -2147483648 ≤ a0 ∧ a0 < 2147483648) (h3 : a1 < a2) (h4 : ¬ (a1 < a0)) (h5 : (-1) ≤ a1 ∧ a1 ≤ 8) (h6 : 1 ≤ a2 ∧ a2 ≤ 9) (h7 : 1 ≤ a0 ∧ a0 ≤ 9) : -2147483648 ≤ a0 + 1 ∧ a0 + 1 < 2147483648 := by omega
theorem ox_320 {a0 a1 a2 a3 : Int} (h0 : a1 < a2) (h1 : ¬ (a1 < a3)) (h2 : a0 = a3 + 1) (h3 : (-1) ≤ a1 ∧ a1 ≤ 8) (h4 : 1 ≤ a2 ∧ a2 ≤ 9) (h5 : 1 ≤ a3 ∧ a3 ≤ 9) : 1 ≤ a0 ∧ a0 ≤ 9 := by omega
theorem ox_321 {a0 a1 a2 a3 : Int} (h0 : a2 < a3) (h1 : ¬ (a2 < a1)) (h2 : a0 = a1 + 1) (h3 : (-1) ≤ a2 ∧ a2 ≤ 8) (h4 : 1 ≤ a3 ∧ a3 ≤ 9) (h5 : 1 ≤ a1 ∧ a1 ≤ 9) : (10 - a0).toNat < (10 - a1).toNat := by omega
theorem ox_322 {a0 a1 a2 : Int} (h0 : ¬ (a0 < a2)) (h1 : 1 ≤ a1 ∧ a1 ≤ 128) (h2 : 0 ≤ a2 ∧ a2 ≤ 255) (h3 : (-1) ≤ a0 ∧ a0 ≤ 255) : (0 : Int) ≤ a0 ∧ (a0 : Int) < 256 ∧ (0 : Int) ≤ a1 ∧ (a1 : Int) < 256 := by omega
theorem ox_323 {a0 a1 a2 : Int} (h0 : a1 < a2) (h1 : ¬ (a1 < a0)) (h2 : (-1) ≤ a1 ∧ a1 ≤ 8) (h3 : 1 ≤ a2 ∧ a2 ≤ 9) (h4 : 1 ≤ a0 ∧ a0 ≤ 9) : 0 ≤ a0 ∧ a0 ≤ 8 := by omega
theorem ox_324 {a0 a1 : Int} (h0 : ¬ (a1 < a0)) (h1 : (-1) ≤ a1 ∧ a1 ≤ 8) (h2 : 1 ≤ a0 ∧ a0 ≤ 9) : 0 ≤ a0 ∧ a0 < 9 := by omega
theorem ox_325 {a0 : Int} (h0 : ¬ (a0 = (0 : Int))) (h1 : 0 ≤ a0 ∧ a0 ≤ 8) : 0 ≤ a0 ∧ a0 ≤ 8 := by omega
theorem ox_326 {a0 : Int} (h0 : -2147483648 ≤ a0 ∧ a0 < 2147483648) (h1 : 0 ≤ a0 ∧ a0 ≤ 255) : -2147483648 ≤ a0 - (1 : Int) ∧ a0 - (1 : Int) < 2147483648 := by omega
theorem ox_327 {a0 a1 : Int} (h0 : a1 < a0) (h1 : 0 ≤ a0 ∧ a0 ≤ 255) (h2 : (-1) ≤ a1 ∧ a1 ≤ 254) : 0 ≤ a0 ∧ a0 < 256 := by omega
theorem ox_328 {a0 a1 : Int} (h0 : -2147483648 ≤ a1 ∧ a1 < 2147483648) (h1 : -2147483648 ≤ a0 ∧ a0 < 2147483648) (h2 : ¬ (a0 < a1)) (h3 : 0 ≤ a1 ∧ a1 ≤ 255) (h4 : (-1) ≤ a0 ∧ a0 ≤ 254) : -2147483648 ≤ a0 + (-1) ∧ a0 + (-1) < 2147483648 := by omega
theorem ox_329 {a0 a1 : Int} (h0 : a0 = a1 - (1 : Int)) (h1 : 0 ≤ a1 ∧ a1 ≤ 255) : (-1) ≤ a0 ∧ a0 ≤ 254 := by omega
theorem ox_330 {a0 : Int} (h0 : -2147483648 ≤ a0 ∧ a0 < 2147483648) (h1 : 0 ≤ a0 ∧ a0 ≤ 19) : -2147483648 ≤ a0 * (12 : Int) ∧ a0 * (12 : Int) < 2147483648 := by omega
theorem ox_331 {a0 a1 : Int} (h0 : a0 = a1 * (12 : Int)) (h1 : 0 ≤ a1 ∧ a1 ≤ 19) : 0 ≤ a0 ∧ a0 < 240 := by omega
theorem ox_332 {a0 a1 a2 : Int} (h0 : a0 = a2 * (12 : Int)) (h1 : 0 ≤ a1 ∧ a1 ≤ 255) (h2 : 0 ≤ a2 ∧ a2 ≤ 19) : (0 : Int) ≤ a0 ∧ (¬ a0 % 12 = 0 ∨ (0 ≤ a1 ∧ a1 ≤ 255)) := by omega
theorem ox_333 {a0 a1 : Int} (h0 : -2147483648 ≤ a1 ∧ a1 < 2147483648) (h1 : -2147483648 ≤ a0 ∧ a0 < 2147483648) (h2 : a0 = a1 * (12 : Int)) (h3 : 0 ≤ a1 ∧ a1 ≤ 19) : -2147483648 ≤ a0 + (1 : Int) ∧ a0 + (1 : Int) < 2147483648 := by omega
theorem ox_334 {a0 a1 a2 : Int} (h0 : a1 = a2 * (12 : Int)) (h1 : a0 = a1 + (1 : Int)) (h2 : 0 ≤ a2 ∧ a2 ≤ 19) : 0 ≤ a0 ∧ a0 < 240 := by omega
theorem ox_335 {a0 a1 a2 a3 : Int} (h0 : a2 = a3 * (12 : Int)) (h1 : a0 = a2 + (1 : Int)) (h2 : 0 ≤ a3 ∧ a3 ≤ 19) : (0 : Int) ≤ a0 ∧ (¬ a0 % 12 = 0 ∨ (0 ≤ a1 ∧ a1 ≤ 255)) := by omega
theorem ox_336 {a0 a1 a2 : Int} (h0 : -2147483648 ≤ a1 ∧ a1 < 2147483648) (h1 : -2147483648 ≤ a0 ∧ a0 < 2147483648) (h2 : -2147483648 ≤ a2 ∧ a2 < 2147483648) (h3 : a0 = a1 * (12 : Int)) (h4 : a2 = a0 + (1 : Int)) (h5 : 0 ≤ a1 ∧ a1 ≤ 19) : -2147483648 ≤ a0 + (2 : Int) ∧ a0 + (2 : Int) < 2147483648 := by omega
theorem ox_337 {a0 a1 a2 a3 : Int} (h0 : a0 = a1 + (2 : Int)) (h1 : a1 = a2 * (12 : Int)) (h2 : a3 = a1 + (1 : Int)) (h3 : 0 ≤ a2 ∧ a2 ≤ 19) : 0 ≤ a0 ∧ a0 < 240 := by omega
theorem ox_338 {a0 a1 a2 a3 a4 : Int} (h0 : a0 = a2 + (2 : Int)) (h1 : a2 = a3 * (12 : Int)) (h2 : a4 = a2 + (1 : Int)) (h3 : 0 ≤ a3 ∧ a3 ≤ 19) : (0 : Int) ≤ a0 ∧ (¬ a0 % 12 = 0 ∨ (0 ≤ a1 ∧ a1 ≤ 255)) := by omega
theorem ox_339 {a0 a1 a2 a3 : Int} (h0 : -2147483648 ≤ a1 ∧ a1 < 2147483648) (h1 : -2147483648 ≤ a0 ∧ a0 < 2147483648) (h2 : -2147483648 ≤ a2 ∧ a2 < 2147483648) (h3 : -2147483648 ≤ a3 ∧ a3 < 2147483648) (h4 : a2 = a0 + (2 : Int)) (h5 : a0 = a1 * (12 : Int)) (h6 : a3 = a0 + (1 : Int)) (h7 : 0 ≤ a1 ∧ a1 ≤ 19) : -2147483648 ≤ a0 + (3 : Int) ∧ a0 + (3 : Int) < 2147483648 := by omega
theorem ox_340 {a0 a1 a2 a3 a4 : Int} (h0 : a1 = a2 + (2 : Int)) (h1 : a0 = a2 + (3 : Int)) (h2 : a2 = a3 * (12 : Int)) (h3 : a4 = a2 + (1 : Int)) (h4 : 0 ≤ a3 ∧ a3 ≤ 19) : (0 : Int) ≤ a0 := by omega
theorem ox_341 {a0 a1 a2 a3 a4 : Int} (h0 : a1 = a2 + (2 : Int)) (h1 : a0 = a2 + (3 : Int)) (h2 : a2 = a3 * (12 : Int)) (h3 : a4 = a2 + (1 : Int)) (h4 : 0 ≤ a3 ∧ a3 ≤ 19) : (0 : Int) ≤ a0 ∧ (0 : Int) ≤ (9 : Int) ∧ (a0 : Int) + (9 : Int) ≤ 240 := by omega
theorem ox_342 {a0 a1 a2 a3 a4 : Int} (h0 : a1 = a2 + (2 : Int)) (h1 : a0 = a2 + (3 : Int)) (h2 : a2 = a3 * (12 : Int)) (h3 : a4 = a2 + (1 : Int)) (h4 : 0 ≤ a3 ∧ a3 ≤ 19) : (0 : Int) ≤ a0 ∧ a0 % 12 = 3 ∧ (0 : Int) ≤ (9 : Int) ∧ ((9 : Int) : Int) ≤ 9 := by omega
theorem ox_343 {a0 a1 a2 a3 a4 : Int} (h0 : -2147483648 ≤ a0 ∧ a0 < 2147483648) (h1 : -2147483648 ≤ a1 ∧ a1 < 2147483648) (h2 : -2147483648 ≤ a2 ∧ a2 < 2147483648) (h3 : -2147483648 ≤ a3 ∧ a3 < 2147483648) (h4 : -2147483648 ≤ a4 ∧ a4 < 2147483648) (h5 : a2 = a1 + (2 : Int)) (h6 : a3 = a1 + (3 : Int)) (h7 : a1 = a0 * (12 : Int)) (h8 : a4 = a1 + (1 : Int)) (h9 : 0 ≤ a0 ∧ a0 ≤ 19) : -2147483648 ≤ a0 + (1 : Int) ∧ a0 + (1 : Int) < 2147483648 := by omega
theorem ox_344 {a0 a1 a2 a3 a4 a5 : Int} (h0 : a1 = a2 + (2 : Int)) (h1 : a3 = a2 + (3 : Int)) (h2 : a0 = a4 + (1 : Int)) (h3 : a2 = a4 * (12 : Int)) (h4 : a5 = a2 + (1 : Int)) (h5 : 0 ≤ a4 ∧ a4 ≤ 19) : (0 : Int) ≤ a0 ∧ (0 : Int) < (20 : Int) := by omega
theorem ox_345 {a0 : Int} (h0 : -2147483648 ≤ a0 ∧ a0 < 2147483648) (h1 : 0 ≤ a0 ∧ a0 ≤ 20) : -2147483648 ≤ a0 + (1 : Int) ∧ a0 + (1 : Int) < 2147483648 := by omega
theorem ox_346 {a0 a1 a2 : Int} (h0 : a1 = a2 + (1 : Int)) (h1 : a0 ≤ a1 ∧ a0 ≤ (20 : Int) ∧ (a0 = a1 ∨ a0 = (20 : Int))) (h2 : 0 ≤ a2 ∧ a2 ≤ 20) : 1 ≤ a0 ∧ a0 ≤ 20 := by omega
theorem ox_347 {a0 a1 a2 a3 a4 a5 a6 : Int} (h0 : a1 = a2 + (2 : Int)) (h1 : a3 = a2 + (3 : Int)) (h2 : a4 = a5 + (1 : Int)) (h3 : a2 = a5 * (12 : Int)) (h4 : a0 = a4 % (20 : Int)) (h5 : a6 = a2 + (1 : Int)) (h6 : 0 ≤ a5 ∧ a5 ≤ 19) : 0 ≤ a0 ∧ a0 ≤ 19 := by omega
theorem ox_348 {a0 : Int} (h0 : -2147483648 ≤ a0 ∧ a0 < 2147483648) (h1 : 0 ≤ a0 ∧ a0 ≤ 19) : -2147483648 ≤ a0 + (20 : Int) ∧ a0 + (20 : Int) < 2147483648 := by omega
theorem ox_349 {a0 a1 : Int} (h0 : -2147483648 ≤ a1 ∧ a1 < 2147483648) (h1 : -2147483648 ≤ a0 ∧ a0 < 2147483648) (h2 : a0 = a1 + (20 : Int)) (h3 : 0 ≤ a1 ∧ a1 ≤ 19) : -2147483648 ≤ a0 - (1 : Int) ∧ a0 - (1 : Int) < 2147483648 := by omega
theorem ox_350 {a0 a1 a2 : Int} (h0 : a1 = a2 + (20 : Int)) (h1 : a0 = a1 - (1 : Int)) (h2 : 0 ≤ a2 ∧ a2 ≤ 19) : (0 : Int) ≤ a0 ∧ (0 : Int) < (20 : Int) := by omega
theorem ox_351 {a0 : Int} (h0 : -2147483648 ≤ a0 ∧ a0 < 2147483648) (h1 : 0 ≤ a0 ∧ a0 ≤ 20) : -2147483648 ≤ a0 - (1 : Int) ∧ a0 - (1 : Int) < 2147483648 := by omega
theorem ox_352 {a0 a1 a2 a3 : Int} (h0 : -2147483648 ≤ a1 ∧ a1 < 2147483648) (h1 : -2147483648 ≤ a2 ∧ a2 < 2147483648) (h2 : -2147483648 ≤ a3 ∧ a3 < 2147483648) (h3 : -2147483648 ≤ a0 ∧ a0 < 2147483648) (h4 : a2 = a1 + (20 : Int)) (h5 : a3 = a2 - (1 : Int)) (h6 : a0 = a3 % (20 : Int)) (h7 : 0 ≤ a1 ∧ a1 ≤ 19) : -2147483648 ≤ a0 * (12 : Int) ∧ a0 * (12 : Int) < 2147483648 := by omega
theorem ox_353 {a0 a1 a2 a3 a4 : Int} (h0 : -2147483648 ≤ a1 ∧ a1 < 2147483648) (h1 : -2147483648 ≤ a2 ∧ a2 < 2147483648) (h2 : -2147483648 ≤ a0 ∧ a0 < 2147483648) (h3 : -2147483648 ≤ a3 ∧ a3 < 2147483648) (h4 : -2147483648 ≤ a4 ∧ a4 < 2147483648) (h5 : a0 = a4 * (12 : Int)) (h6 : a2 = a1 + (20 : Int)) (h7 : a3 = a2 - (1 : Int)) (h8 : a4 = a3 % (20 : Int)) (h9 : 0 ≤ a1 ∧ a1 ≤ 19) : -2147483648 ≤ a0 + (1 : Int) ∧ a0 + (1 : Int) < 2147483648 := by omega
theorem ox_354 {a0 a1 a2 a3 a4 a5 : Int} (h0 : a1 = a2 * (12 : Int)) (h1 : a0 = a1 + (1 : Int)) (h2 : a3 = a4 + (20 : Int)) (h3 : a5 = a3 - (1 : Int)) (h4 : a2 = a5 % (20 : Int)) (h5 : 0 ≤ a4 ∧ a4 ≤ 19) : 0 ≤ a0 ∧ a0 < 240 := by omega
theorem ox_355 {a0 a1 a2 a3 a4 a5 : Int} (h0 : -2147483648 ≤ a1 ∧ a1 < 2147483648) (h1 : -2147483648 ≤ a2 ∧ a2 < 2147483648) (h2 : -2147483648 ≤ a0 ∧ a0 < 2147483648) (h3 : -2147483648 ≤ a3 ∧ a3 < 2147483648) (h4 : -2147483648 ≤ a4 ∧ a4 < 2147483648) (h5 : -2147483648 ≤ a5 ∧ a5 < 2147483648) (h6 : a0 = a5 * (12 : Int)) (h7 : a3 = a0 + (1 : Int)) (h8 : a2 = a1 + (20 : Int)) (h9 : a4 = a2 - (1 : Int)) (h10 : a5 = a4 % (20 : Int)) (h11 : 0 ≤ a1 ∧ a1 ≤ 19) : -2147483648 ≤ a0 + (2 : Int) ∧ a0 + (2 : Int) < 2147483648 := by omega
theorem ox_356 {a0 a1 a2 a3 a4 a5 a6 : Int} (h0 : a1 = a2 * (12 : Int)) (h1 : a3 = a1 + (1 : Int)) (h2 : a0 = a1 + (2 : Int)) (h3 : a4 = a5 + (20 : Int)) (h4 : a6 = a4 - (1 : Int)) (h5 : a2 = a6 % (20 : Int)) (h6 : 0 ≤ a5 ∧ a5 ≤ 19) : 0 ≤ a0 ∧ a0 < 240 := by omega
theorem ox_357 {a0 a1 a2 a3 a4 a5 a6 : Int} (h0 : -2147483648 ≤ a1 ∧ a1 < 2147483648) (h1 : -2147483648 ≤ a2 ∧ a2 < 2147483648) (h2 : -2147483648 ≤ a0 ∧ a0 < 2147483648) (h3 : -2147483648 ≤ a3 ∧ a3 < 2147483648) (h4 : -2147483648 ≤ a4 ∧ a4 < 2147483648) (h5 : -2147483648 ≤ a5 ∧ a5 < 2147483648) (h6 : -2147483648 ≤ a6 ∧ a6 < 2147483648) (h7 : a0 = a6 * (12 : Int)) (h8 : a3 = a0 + (1 : Int)) (h9 : a4 = a0 + (2 : Int)) (h10 : a2 = a1 + (20 : Int)) (h11 : a5 = a2 - (1 : Int)) (h12 : a6 = a5 % (20 : Int)) (h13 : 0 ≤ a1 ∧ a1 ≤ 19) : -2147483648 ≤ a0 + (3 : Int) ∧ a0 + (3 : Int) < 2147483648 := by omega
theorem ox_358 {a0 a1 a2 a3 a4 a5 a6 a7 : Int} (h0 : a1 = a2 * (12 : Int)) (h1 : a3 = a1 + (1 : Int)) (h2 : a4 = a1 + (2 : Int)) (h3 : a5 = a6 + (20 : Int)) (h4 : a0 = a1 + (3 : Int)) (h5 : a7 = a5 - (1 : Int)) (h6 : a2 = a7 % (20 : Int)) (h7 : 0 ≤ a6 ∧ a6 ≤ 19) : (0 : Int) ≤ a0 := by omega
theorem ox_359 {a0 a1 a2 a3 a4 a5 a6 a7 : Int} (h0 : a1 = a2 * (12 : Int)) (h1 : a3 = a1 + (1 : Int)) (h2 : a4 = a1 + (2 : Int)) (h3 : a5 = a6 + (20 : Int)) (h4 : a0 = a1 + (3 : Int)) (h5 : a7 = a5 - (1 : Int)) (h6 : a2 = a7 % (20 : Int)) (h7 : 0 ≤ a6 ∧ a6 ≤ 19) : (0 : Int) ≤ a0 ∧ (0 : Int) ≤ (9 : Int) ∧ (a0 : Int) + (9 : Int) ≤ 240 := by omega
theorem ox_360 {a0 a1 a2 a3 a4 a5 a6 a7 : Int} (h0 : a0 = a1 * (12 : Int)) (h1 : a2 = a0 + (1 : Int)) (h2 : a3 = a0 + (2 : Int)) (h3 : a4 = a5 + (20 : Int)) (h4 : a6 = a0 + (3 : Int)) (h5 : a7 = a4 - (1 : Int)) (h6 : a1 = a7 % (20 : Int)) (h7 : 0 ≤ a5 ∧ a5 ≤ 19) : 0 ≤ a0 ∧ a0 < 240 := by omega
theorem ox_361 {a0 a1 a2 a3 a4 a5 a6 a7 : Int} (h0 : a0 = a1 * (12 : Int)) (h1 : a2 = a0 + (1 : Int)) (h2 : a3 = a0 + (2 : Int)) (h3 : a4 = a5 + (20 : Int)) (h4 : a6 = a0 + (3 : Int)) (h5 : a7 = a4 - (1 : Int)) (h6 : a1 = a7 % (20 : Int)) (h7 : 0 ≤ a5 ∧ a5 ≤ 19) : (0 : Int) ≤ a0 ∧ a0 % 12 = 0 := by omega
theorem ox_362 {a0 a1 a2 : Int} (h0 : a1 = a2 - (1 : Int)) (h1 : a0 ≥ (0 : Int) ∧ a0 ≥ a1 ∧ (a0 = (0 : Int) ∨ a0 = a1)) (h2 : 0 ≤ a2 ∧ a2 ≤ 20) : 0 ≤ a0 ∧ a0 ≤ 19 := by omega
theorem ox_363 {a0 a1 a2 a3 a4 a5 a6 a7 : Int} (h0 : a1 = a0 * (12 : Int)) (h1 : a2 = a1 + (1 : Int)) (h2 : a3 = a1 + (2 : Int)) (h3 : a4 = a5 + (20 : Int)) (h4 : a6 = a1 + (3 : Int)) (h5 : a7 = a4 - (1 : Int)) (h6 : a0 = a7 % (20 : Int)) (h7 : 0 ≤ a5 ∧ a5 ≤ 19) : 0 ≤ a0 ∧ a0 ≤ 19 := by omega
abbrev rm_kX8_bitb : Room := { frames := 0, cells := 0, slots := 0, locals := 0 }
set_option maxHeartbeats 4000000 in
set_option maxRecDepth 100000 in
theorem kX8_bitb (l : Launch) (g : zL) (x1 : Int32) (hy0 : 1 ≤ x1.toInt ∧ x1.toInt ≤ 8) : zCi l g yX8_bit cX8_bit 1 (some .int) rm_kX8_bitb [.int x1] [] (fun (r : Int32) (u : Unit) => (1 ≤ r.toInt ∧ r.toInt ≤ 128)) (fun (u : Unit) => []) := by
  refine zCi.mk2 (by decide) (Nat.le_of_ble_eq_true rfl) ?_
  intro p e s m below meth c A args Q hE hret hP hD hS ls hl
  obtain ⟨hx, hb, hr, hml, hown, hG, hlocks, hnm, hX, hA⟩ := hE
  have hown : s.vm.findClass RX8 = some m.cls := hown
  have hl : lv_has ls 1 [(0, .int x1)] := hl
  refine lv_iconst (v := 1) hx hb dX8_bit_0 (by decide) ?_
  refine lv_iload_n hx hb dX8_bit_1 rfl (lv_at hl 0 rfl) ?_
  refine lv_iconst (v := 1) hx hb dX8_bit_2 (by decide) ?_
  refine lv_isub hx hb dX8_bit_3 ?_
  refine lv_topi (fun z1 e2 => ?_)
  have f3 : z1.toInt = x1.toInt - (1 : Int) := zs e2 (rfl : x1.toInt = _) (show (1 : Int32).toInt = (1 : Int) from by decide) (ox_221 (zr x1) hy0)
  refine lv_ishl hx hb dX8_bit_4 ?_
  refine lv_topi (fun z4 e5 => ?_)
  have f6 : 1 ≤ z4.toInt ∧ z4.toInt ≤ 128 := zshl1 7 e5 (rfl : z1.toInt = _) (by decide) (ox_222 f3 hy0)
  exact hret z4 () (Nat.le_of_ble_eq_true rfl) (Nat.le_of_ble_eq_true rfl) rfl (ox_223 f6) hP hD hS dX8_bit_5
theorem dX3_cell_0 : decode cX3_cell 0 = .ok (.iload_n 0, 1) := by decide +kernel
theorem dX3_cell_1 : decode cX3_cell 1 = .ok (.bipush 8, 2) := by decide +kernel
theorem dX3_cell_3 : decode cX3_cell 3 = .ok (.imul, 1) := by decide +kernel
theorem dX3_cell_4 : decode cX3_cell 4 = .ok (.iload_n 1, 1) := by decide +kernel
theorem dX3_cell_5 : decode cX3_cell 5 = .ok (.iadd, 1) := by decide +kernel
theorem dX3_cell_6 : decode cX3_cell 6 = .ok (.iconst 1, 1) := by decide +kernel
theorem dX3_cell_7 : decode cX3_cell 7 = .ok (.isub, 1) := by decide +kernel
theorem dX3_cell_8 : decode cX3_cell 8 = .ok (.ireturn, 1) := by decide +kernel
abbrev rm_kX3_cell : Room := { frames := 0, cells := 0, slots := 0, locals := 0 }
set_option maxHeartbeats 4000000 in
set_option maxRecDepth 100000 in
theorem kX3_cell (l : Launch) (g : zL) (x1 : Int32) (x2 : Int32) (hy0 : 0 ≤ x1.toInt ∧ x1.toInt ≤ 255) (hy1 : 1 ≤ x2.toInt ∧ x2.toInt ≤ 8) : zCi l g yX3_cell cX3_cell 2 (some .int) rm_kX3_cell [.int x1, .int x2] [] (fun (r : Int32) (u : Unit) => (0 ≤ r.toInt ∧ r.toInt ≤ 2047)) (fun (u : Unit) => []) := by
  refine zCi.mk2 (by decide) (Nat.le_of_ble_eq_true rfl) ?_
  intro p e s m below meth c A args Q hE hret hP hD hS ls hl
  obtain ⟨hx, hb, hr, hml, hown, hG, hlocks, hnm, hX, hA⟩ := hE
  have hown : s.vm.findClass RX3 = some m.cls := hown
  have hl : lv_has ls 2 [(0, .int x1), (1, .int x2)] := hl
  refine lv_iload_n hx hb dX3_cell_0 rfl (lv_at hl 0 rfl) ?_
  refine lv_bipush (v := 8) hx hb dX3_cell_1 (by decide) ?_
  refine lv_imul hx hb dX3_cell_3 ?_
  refine lv_topi (fun z1 e2 => ?_)
  have f3 : z1.toInt = x1.toInt * (8 : Int) := zm e2 (rfl : x1.toInt = _) (show (8 : Int32).toInt = (8 : Int) from by decide) (ox_224 (zr x1) hy0)
  refine lv_iload_n hx hb dX3_cell_4 rfl (lv_at hl 1 rfl) ?_
  refine lv_iadd hx hb dX3_cell_5 ?_
  refine lv_topi (fun z4 e5 => ?_)
  have f6 : z4.toInt = z1.toInt + x2.toInt := za e5 (rfl : z1.toInt = _) (rfl : x2.toInt = _) (ox_225 (zr x1) (zr x2) (zr z1) f3 hy0 hy1)
  refine lv_iconst (v := 1) hx hb dX3_cell_6 (by decide) ?_
  refine lv_isub hx hb dX3_cell_7 ?_
  refine lv_topi (fun z7 e8 => ?_)
  have f9 : z7.toInt = z4.toInt - (1 : Int) := zs e8 (rfl : z4.toInt = _) (show (1 : Int32).toInt = (1 : Int) from by decide) (ox_226 (zr x1) (zr x2) (zr z1) (zr z4) f3 f6 hy0 hy1)
  exact hret z7 () (Nat.le_of_ble_eq_true rfl) (Nat.le_of_ble_eq_true rfl) rfl (ox_227 f3 f6 f9 hy0 hy1) hP hD hS dX3_cell_8
theorem dX3_isClear_0 : decode cX3_isClear 0 = .ok (.aload_n 0, 1) := by decide +kernel
theorem dX3_isClear_1 : decode cX3_isClear 1 = .ok (.getfield 9, 3) := by decide +kernel
theorem dX3_isClear_4 : decode cX3_isClear 4 = .ok (.iload_n 1, 1) := by decide +kernel
theorem dX3_isClear_5 : decode cX3_isClear 5 = .ok (.iload_n 2, 1) := by decide +kernel
theorem dX3_isClear_6 : decode cX3_isClear 6 = .ok (.invokestatic 74, 3) := by decide +kernel
theorem dX3_isClear_9 : decode cX3_isClear 9 = .ok (.iaload, 1) := by decide +kernel
theorem dX3_isClear_10 : decode cX3_isClear 10 = .ok (.aload_n 0, 1) := by decide +kernel
theorem dX3_isClear_11 : decode cX3_isClear 11 = .ok (.getfield 81, 3) := by decide +kernel
theorem dX3_isClear_14 : decode cX3_isClear 14 = .ok (.if_icmp .lt 7, 3) := by decide +kernel
theorem dX3_isClear_21 : decode cX3_isClear 21 = .ok (.iconst 0, 1) := by decide +kernel
theorem dX3_isClear_22 : decode cX3_isClear 22 = .ok (.ireturn, 1) := by decide +kernel
theorem dX3_isClear_17 : decode cX3_isClear 17 = .ok (.iconst 1, 1) := by decide +kernel
theorem dX3_isClear_18 : decode cX3_isClear 18 = .ok (.goto 4, 3) := by decide +kernel
abbrev rm_kX3_isClear : Room := { frames := 1, cells := 0, slots := 0, locals := 21 }
set_option maxHeartbeats 4000000 in
set_option maxRecDepth 100000 in
theorem kX3_isClear (l : Launch) (g : zL) (h0 : Nat) (x1 : Int32) (x2 : Int32) (h0_room : Nat) (h0_clashing : Nat) (h0_reach : Nat) (h0_ways : Nat) (h0_switches : Nat) (h0_kind : Nat) (h0_best : Nat) (h0_row : Nat) (h0_rowLength : Int32) (h0_bends : Int32) (h0_full : Int32) (h0_first : Int32) (h0_punch : Int32) (f_h0_room : Nat → Int32) (hy0 : 0 ≤ x1.toInt ∧ x1.toInt ≤ 255) (hy1 : 1 ≤ x2.toInt ∧ x2.toInt ≤ 8) (hy2 : 0 ≤ h0_rowLength.toInt ∧ h0_rowLength.toInt ≤ 8) (hy3 : (-1) ≤ h0_bends.toInt ∧ h0_bends.toInt ≤ 8) (hy4 : 0 ≤ h0_full.toInt ∧ h0_full.toInt ≤ 255) (hy5 : 0 ≤ h0_first.toInt ∧ h0_first.toInt ≤ 255) : zCi l g yX3_isClear cX3_isClear 3 (some .boolean) rm_kX3_isClear [.ref h0, .int x1, .int x2] [(h0, .inr (3, [.ref h0_room, .ref h0_clashing, .ref h0_reach, .ref h0_ways, .ref h0_switches, .ref h0_kind, .ref h0_best, .ref h0_row, .int h0_rowLength, .int h0_bends, .int h0_full, .int h0_first, .int h0_punch])), (h0_room, .inl (g.2.1.1, 2048, .inl f_h0_room))] (fun (r : Int32) (u : Unit) => (0 ≤ r.toInt ∧ r.toInt ≤ 1)) (fun (u : Unit) => [(h0, .inr (3, [.ref h0_room, .ref h0_clashing, .ref h0_reach, .ref h0_ways, .ref h0_switches, .ref h0_kind, .ref h0_best, .ref h0_row, .int h0_rowLength, .int h0_bends, .int h0_full, .int h0_first, .int h0_punch])), (h0_room, .inl (g.2.1.1, 2048, .inl f_h0_room))]) := by
  refine zCi.mk2 (by decide) (Nat.le_of_ble_eq_true rfl) ?_
  intro p e s m below meth c A args Q hE hret hP hD hS ls hl
  obtain ⟨hx, hb, hr, hml, hown, hG, hlocks, hnm, hX, hA⟩ := hE
  have hown : s.vm.findClass RX3 = some m.cls := hown
  have hl : lv_has ls 3 [(0, .ref h0), (1, .int x1), (2, .int x2)] := hl
  refine lv_aload_n hx hb dX3_isClear_0 rfl (lv_at hl 0 rfl) ?_
  refine va_get (D := g.1) (ci := 3) (v := .ref h0_room) (C := RX3) (T := TX3) (N := 13) hx hb hG iX3 hown hX.1 hP 0 rfl rfl 0 (by decide) (hG _ wf_X3_9) (fun _ h9 => h9) rfl dX3_isClear_1 ?_
  refine lv_iload_n hx hb dX3_isClear_4 rfl (lv_at hl 1 rfl) ?_
  refine lv_iload_n hx hb dX3_isClear_5 rfl (lv_at hl 2 rfl) ?_
  refine zfi (wr := [(h0, .inr (3, [.ref h0_room, .ref h0_clashing, .ref h0_reach, .ref h0_ways, .ref h0_switches, .ref h0_kind, .ref h0_best, .ref h0_row, .int h0_rowLength, .int h0_bends, .int h0_full, .int h0_first, .int h0_punch])), (h0_room, .inl (g.2.1.1, 2048, .inl f_h0_room))]) (va_runS (As := [.int x1, .int x2]) (rest := [.ref h0_room]) ⟨hx, hb, hml, hown, hG⟩ (kX3_cell l g x1 x2 (ox_228 hy0) (ox_209 hy1) _) ⟨callB_of 2 hG (zGood wc_X3_cell) rfl rfl rfl (hG _ wini_X3) (hG _ wm_X3_74) hX3_cell ⟨Nat.le_of_ble_eq_true rfl, Nat.le_of_ble_eq_true rfl⟩, hG _ ws_X3_cell⟩ (zpreS hX hP hD hS hA [] rfl (by decide)) rfl rfl hl.1 rfl (lv_room (Nat.le_of_ble_eq_true rfl)) dX3_isClear_6 ⟨Nat.le_of_ble_eq_true rfl, Nat.le_of_ble_eq_true rfl⟩) hP hD hS hA [] [0, 1] rfl rfl (by decide) (by decide) (fun r1 _ H locs hp hP hD hS => ?_)
  refine W.cs (cells' := 0) (slots' := 0) rfl rfl ?_
  have hq2 : 0 ≤ r1.toInt ∧ r1.toInt ≤ 2047 := hp
  have hP : va_P g.1 vwCl [(h0, .inr (3, [.ref h0_room, .ref h0_clashing, .ref h0_reach, .ref h0_ways, .ref h0_switches, .ref h0_kind, .ref h0_best, .ref h0_row, .int h0_rowLength, .int h0_bends, .int h0_full, .int h0_first, .int h0_punch])), (h0_room, .inl (g.2.1.1, 2048, .inl f_h0_room))] H := hP
  have hD : va_D A [(h0, .inr (3, [.ref h0_room, .ref h0_clashing, .ref h0_reach, .ref h0_ways, .ref h0_switches, .ref h0_kind, .ref h0_best, .ref h0_row, .int h0_rowLength, .int h0_bends, .int h0_full, .int h0_first, .int h0_punch])), (h0_room, .inl (g.2.1.1, 2048, .inl f_h0_room))] := hD
  refine va_iald hx hb hX.1 hP 1 0 rfl rfl (zin (rfl : r1.toInt = _) (ox_229 hq2)) dX3_isClear_9 ?_
  refine lv_topi (fun z3 e4 => ?_)
  refine lv_aload_n hx hb dX3_isClear_10 rfl (lv_at hl 0 rfl) ?_
  refine va_get (D := g.1) (ci := 3) (v := .int h0_punch) (C := RX3) (T := TX3) (N := 13) hx hb hG iX3 hown hX.1 hP 0 rfl rfl 12 (by decide) (hG _ wf_X3_81) (fun _ h9 => h9) rfl dX3_isClear_11 ?_
  refine lv_icmp_lt (tgt := 21) hx hb dX3_isClear_14 (by decide) (fun c5 => ?_) (fun c5 => ?_)
  · skip
    have c5i : z3.toInt < h0_punch.toInt := (zc_lt (rfl : z3.toInt = _) (rfl : h0_punch.toInt = _)).mp c5
    refine lv_iconst (v := 0) hx hb dX3_isClear_21 (by decide) ?_
    exact hret (0 : Int32) () (Nat.le_of_ble_eq_true rfl) (Nat.le_of_ble_eq_true rfl) rfl ((show 0 ≤ (0 : Int) ∧ (0 : Int) ≤ 1 from by decide)) hP hD hS dX3_isClear_22
  · skip
    have c5i : ¬ (z3.toInt < h0_punch.toInt) := fun q => c5 ((zc_lt (rfl : z3.toInt = _) (rfl : h0_punch.toInt = _)).mpr q)
    refine lv_iconst (v := 1) hx hb dX3_isClear_17 (by decide) ?_
    refine lv_goto (tgt := 22) hx hb dX3_isClear_18 (by decide) ?_
    exact hret (1 : Int32) () (Nat.le_of_ble_eq_true rfl) (Nat.le_of_ble_eq_true rfl) rfl ((show 0 ≤ (1 : Int) ∧ (1 : Int) ≤ 1 from by decide)) hP hD hS dX3_isClear_22
theorem dX3_isReached_0 : decode cX3_isReached 0 = .ok (.aload_n 0, 1) := by decide +kernel
theorem dX3_isReached_1 : decode cX3_isReached 1 = .ok (.getfield 19, 3) := by decide +kernel
theorem dX3_isReached_4 : decode cX3_isReached 4 = .ok (.iload_n 1, 1) := by decide +kernel
theorem dX3_isReached_5 : decode cX3_isReached 5 = .ok (.baload, 1) := by decide +kernel
theorem dX3_isReached_6 : decode cX3_isReached 6 = .ok (.ifCond .eq 7, 3) := by decide +kernel
theorem dX3_isReached_13 : decode cX3_isReached 13 = .ok (.iconst 0, 1) := by decide +kernel
theorem dX3_isReached_14 : decode cX3_isReached 14 = .ok (.ireturn, 1) := by decide +kernel
theorem dX3_isReached_9 : decode cX3_isReached 9 = .ok (.iconst 1, 1) := by decide +kernel
theorem dX3_isReached_10 : decode cX3_isReached 10 = .ok (.goto 4, 3) := by decide +kernel
abbrev rm_kX3_isReached : Room := { frames := 0, cells := 0, slots := 0, locals := 0 }
set_option maxHeartbeats 4000000 in
set_option maxRecDepth 100000 in
theorem kX3_isReached (l : Launch) (g : zL) (h0 : Nat) (x1 : Int32) (h0_room : Nat) (h0_clashing : Nat) (h0_reach : Nat) (h0_ways : Nat) (h0_switches : Nat) (h0_kind : Nat) (h0_best : Nat) (h0_row : Nat) (h0_rowLength : Int32) (h0_bends : Int32) (h0_full : Int32) (h0_first : Int32) (h0_punch : Int32) (f_h0_reach : Nat → Int32) (hy0 : 0 ≤ x1.toInt ∧ x1.toInt ≤ 255) (hy1 : 0 ≤ h0_rowLength.toInt ∧ h0_rowLength.toInt ≤ 8) (hy2 : (-1) ≤ h0_bends.toInt ∧ h0_bends.toInt ≤ 8) (hy3 : 0 ≤ h0_full.toInt ∧ h0_full.toInt ≤ 255) (hy4 : 0 ≤ h0_first.toInt ∧ h0_first.toInt ≤ 255) : zCi l g yX3_isReached cX3_isReached 2 (some .boolean) rm_kX3_isReached [.ref h0, .int x1] [(h0, .inr (3, [.ref h0_room, .ref h0_clashing, .ref h0_reach, .ref h0_ways, .ref h0_switches, .ref h0_kind, .ref h0_best, .ref h0_row, .int h0_rowLength, .int h0_bends, .int h0_full, .int h0_first, .int h0_punch])), (h0_reach, .inl (g.2.1.2.1, 256, .inl f_h0_reach))] (fun (r : Int32) (u : Unit) => (0 ≤ r.toInt ∧ r.toInt ≤ 1)) (fun (u : Unit) => [(h0, .inr (3, [.ref h0_room, .ref h0_clashing, .ref h0_reach, .ref h0_ways, .ref h0_switches, .ref h0_kind, .ref h0_best, .ref h0_row, .int h0_rowLength, .int h0_bends, .int h0_full, .int h0_first, .int h0_punch])), (h0_reach, .inl (g.2.1.2.1, 256, .inl f_h0_reach))]) := by
  refine zCi.mk2 (by decide) (Nat.le_of_ble_eq_true rfl) ?_
  intro p e s m below meth c A args Q hE hret hP hD hS ls hl
  obtain ⟨hx, hb, hr, hml, hown, hG, hlocks, hnm, hX, hA⟩ := hE
  have hown : s.vm.findClass RX3 = some m.cls := hown
  have hl : lv_has ls 2 [(0, .ref h0), (1, .int x1)] := hl
  refine lv_aload_n hx hb dX3_isReached_0 rfl (lv_at hl 0 rfl) ?_
  refine va_get (D := g.1) (ci := 3) (v := .ref h0_reach) (C := RX3) (T := TX3) (N := 13) hx hb hG iX3 hown hX.1 hP 0 rfl rfl 2 (by decide) (hG _ wf_X3_19) (fun _ h9 => h9) rfl dX3_isReached_1 ?_
  refine lv_iload_n hx hb dX3_isReached_4 rfl (lv_at hl 1 rfl) ?_
  refine va_bald hx hb hX.1 hP 1 1 rfl rfl (zin (rfl : x1.toInt = _) (ox_230 hy0)) dX3_isReached_5 ?_
  refine lv_topi (fun z1 e2 => ?_)
  refine lv_if_eq (tgt := 13) hx hb dX3_isReached_6 (by decide) (fun c3 => ?_) (fun c3 => ?_)
  · skip
    have c3i : z1.toInt = (0 : Int) := (zc_eq (rfl : z1.toInt = _) (show (0 : Int32).toInt = (0 : Int) from by decide)).mp c3
    refine lv_iconst (v := 0) hx hb dX3_isReached_13 (by decide) ?_
    exact hret (0 : Int32) () (Nat.le_of_ble_eq_true rfl) (Nat.le_of_ble_eq_true rfl) rfl ((show 0 ≤ (0 : Int) ∧ (0 : Int) ≤ 1 from by decide)) hP hD hS dX3_isReached_14
  · skip
    have c3i : ¬ (z1.toInt = (0 : Int)) := fun q => c3 ((zc_eq (rfl : z1.toInt = _) (show (0 : Int32).toInt = (0 : Int) from by decide)).mpr q)
    refine lv_iconst (v := 1) hx hb dX3_isReached_9 (by decide) ?_
    refine lv_goto (tgt := 14) hx hb dX3_isReached_10 (by decide) ?_
    exact hret (1 : Int32) () (Nat.le_of_ble_eq_true rfl) (Nat.le_of_ble_eq_true rfl) rfl ((show 0 ≤ (1 : Int) ∧ (1 : Int) ≤ 1 from by decide)) hP hD hS dX3_isReached_14
theorem dX3_ordersFrom_0 : decode cX3_ordersFrom 0 = .ok (.aload_n 0, 1) := by decide +kernel
theorem dX3_ordersFrom_1 : decode cX3_ordersFrom 1 = .ok (.getfield 22, 3) := by decide +kernel
theorem dX3_ordersFrom_4 : decode cX3_ordersFrom 4 = .ok (.iload_n 1, 1) := by decide +kernel
theorem dX3_ordersFrom_5 : decode cX3_ordersFrom 5 = .ok (.iaload, 1) := by decide +kernel
theorem dX3_ordersFrom_6 : decode cX3_ordersFrom 6 = .ok (.ireturn, 1) := by decide +kernel
abbrev rm_kX3_ordersFrom : Room := { frames := 0, cells := 0, slots := 0, locals := 0 }
set_option maxHeartbeats 4000000 in
set_option maxRecDepth 100000 in
theorem kX3_ordersFrom (l : Launch) (g : zL) (h0 : Nat) (x1 : Int32) (h0_room : Nat) (h0_clashing : Nat) (h0_reach : Nat) (h0_ways : Nat) (h0_switches : Nat) (h0_kind : Nat) (h0_best : Nat) (h0_row : Nat) (h0_rowLength : Int32) (h0_bends : Int32) (h0_full : Int32) (h0_first : Int32) (h0_punch : Int32) (f_h0_ways : Nat → Int32) (hy0 : 0 ≤ x1.toInt ∧ x1.toInt ≤ 255) (hy1 : 0 ≤ h0_rowLength.toInt ∧ h0_rowLength.toInt ≤ 8) (hy2 : (-1) ≤ h0_bends.toInt ∧ h0_bends.toInt ≤ 8) (hy3 : 0 ≤ h0_full.toInt ∧ h0_full.toInt ≤ 255) (hy4 : 0 ≤ h0_first.toInt ∧ h0_first.toInt ≤ 255) : zCi l g yX3_ordersFrom cX3_ordersFrom 2 (some .int) rm_kX3_ordersFrom [.ref h0, .int x1] [(h0, .inr (3, [.ref h0_room, .ref h0_clashing, .ref h0_reach, .ref h0_ways, .ref h0_switches, .ref h0_kind, .ref h0_best, .ref h0_row, .int h0_rowLength, .int h0_bends, .int h0_full, .int h0_first, .int h0_punch])), (h0_ways, .inl (g.2.1.1, 256, .inl f_h0_ways))] (fun (r : Int32) (u : Unit) => True) (fun (u : Unit) => [(h0, .inr (3, [.ref h0_room, .ref h0_clashing, .ref h0_reach, .ref h0_ways, .ref h0_switches, .ref h0_kind, .ref h0_best, .ref h0_row, .int h0_rowLength, .int h0_bends, .int h0_full, .int h0_first, .int h0_punch])), (h0_ways, .inl (g.2.1.1, 256, .inl f_h0_ways))]) := by
  refine zCi.mk2 (by decide) (Nat.le_of_ble_eq_true rfl) ?_
  intro p e s m below meth c A args Q hE hret hP hD hS ls hl
  obtain ⟨hx, hb, hr, hml, hown, hG, hlocks, hnm, hX, hA⟩ := hE
  have hown : s.vm.findClass RX3 = some m.cls := hown
  have hl : lv_has ls 2 [(0, .ref h0), (1, .int x1)] := hl
  refine lv_aload_n hx hb dX3_ordersFrom_0 rfl (lv_at hl 0 rfl) ?_
  refine va_get (D := g.1) (ci := 3) (v := .ref h0_ways) (C := RX3) (T := TX3) (N := 13) hx hb hG iX3 hown hX.1 hP 0 rfl rfl 3 (by decide) (hG _ wf_X3_22) (fun _ h9 => h9) rfl dX3_ordersFrom_1 ?_
  refine lv_iload_n hx hb dX3_ordersFrom_4 rfl (lv_at hl 1 rfl) ?_
  refine va_iald hx hb hX.1 hP 1 0 rfl rfl (zin (rfl : x1.toInt = _) (ox_230 hy0)) dX3_ordersFrom_5 ?_
  refine lv_topi (fun z1 e2 => ?_)
  exact hret z1 () (Nat.le_of_ble_eq_true rfl) (Nat.le_of_ble_eq_true rfl) rfl trivial hP hD hS dX3_ordersFrom_6
theorem dJ6_bitCount_0f7a4_0 : decode cJ6_bitCount_0f7a4 0 = .ok (.iload_n 0, 1) := by decide +kernel
theorem dJ6_bitCount_0f7a4_1 : decode cJ6_bitCount_0f7a4 1 = .ok (.iload_n 0, 1) := by decide +kernel
theorem dJ6_bitCount_0f7a4_2 : decode cJ6_bitCount_0f7a4 2 = .ok (.iconst 1, 1) := by decide +kernel
theorem dJ6_bitCount_0f7a4_3 : decode cJ6_bitCount_0f7a4 3 = .ok (.iushr, 1) := by decide +kernel
theorem dJ6_bitCount_0f7a4_4 : decode cJ6_bitCount_0f7a4 4 = .ok (.ldc_w 265, 3) := by decide +kernel
theorem dJ6_bitCount_0f7a4_7 : decode cJ6_bitCount_0f7a4 7 = .ok (.iand, 1) := by decide +kernel
theorem dJ6_bitCount_0f7a4_8 : decode cJ6_bitCount_0f7a4 8 = .ok (.isub, 1) := by decide +kernel
theorem dJ6_bitCount_0f7a4_9 : decode cJ6_bitCount_0f7a4 9 = .ok (.istore_n 0, 1) := by decide +kernel
theorem dJ6_bitCount_0f7a4_10 : decode cJ6_bitCount_0f7a4 10 = .ok (.iload_n 0, 1) := by decide +kernel
theorem dJ6_bitCount_0f7a4_11 : decode cJ6_bitCount_0f7a4 11 = .ok (.ldc_w 266, 3) := by decide +kernel
theorem dJ6_bitCount_0f7a4_14 : decode cJ6_bitCount_0f7a4 14 = .ok (.iand, 1) := by decide +kernel
theorem dJ6_bitCount_0f7a4_15 : decode cJ6_bitCount_0f7a4 15 = .ok (.iload_n 0, 1) := by decide +kernel
theorem dJ6_bitCount_0f7a4_16 : decode cJ6_bitCount_0f7a4 16 = .ok (.iconst 2, 1) := by decide +kernel
theorem dJ6_bitCount_0f7a4_17 : decode cJ6_bitCount_0f7a4 17 = .ok (.iushr, 1) := by decide +kernel
theorem dJ6_bitCount_0f7a4_18 : decode cJ6_bitCount_0f7a4 18 = .ok (.ldc_w 266, 3) := by decide +kernel
theorem dJ6_bitCount_0f7a4_21 : decode cJ6_bitCount_0f7a4 21 = .ok (.iand, 1) := by decide +kernel
theorem dJ6_bitCount_0f7a4_22 : decode cJ6_bitCount_0f7a4 22 = .ok (.iadd, 1) := by decide +kernel
theorem dJ6_bitCount_0f7a4_23 : decode cJ6_bitCount_0f7a4 23 = .ok (.istore_n 0, 1) := by decide +kernel
theorem dJ6_bitCount_0f7a4_24 : decode cJ6_bitCount_0f7a4 24 = .ok (.iload_n 0, 1) := by decide +kernel
theorem dJ6_bitCount_0f7a4_25 : decode cJ6_bitCount_0f7a4 25 = .ok (.iload_n 0, 1) := by decide +kernel
theorem dJ6_bitCount_0f7a4_26 : decode cJ6_bitCount_0f7a4 26 = .ok (.iconst 4, 1) := by decide +kernel
theorem dJ6_bitCount_0f7a4_27 : decode cJ6_bitCount_0f7a4 27 = .ok (.iushr, 1) := by decide +kernel
theorem dJ6_bitCount_0f7a4_28 : decode cJ6_bitCount_0f7a4 28 = .ok (.iadd, 1) := by decide +kernel
theorem dJ6_bitCount_0f7a4_29 : decode cJ6_bitCount_0f7a4 29 = .ok (.ldc_w 267, 3) := by decide +kernel
theorem dJ6_bitCount_0f7a4_32 : decode cJ6_bitCount_0f7a4 32 = .ok (.iand, 1) := by decide +kernel
theorem dJ6_bitCount_0f7a4_33 : decode cJ6_bitCount_0f7a4 33 = .ok (.istore_n 0, 1) := by decide +kernel
theorem dJ6_bitCount_0f7a4_34 : decode cJ6_bitCount_0f7a4 34 = .ok (.iload_n 0, 1) := by decide +kernel
theorem dJ6_bitCount_0f7a4_35 : decode cJ6_bitCount_0f7a4 35 = .ok (.iload_n 0, 1) := by decide +kernel
theorem dJ6_bitCount_0f7a4_36 : decode cJ6_bitCount_0f7a4 36 = .ok (.bipush 8, 2) := by decide +kernel
theorem dJ6_bitCount_0f7a4_38 : decode cJ6_bitCount_0f7a4 38 = .ok (.iushr, 1) := by decide +kernel
theorem dJ6_bitCount_0f7a4_39 : decode cJ6_bitCount_0f7a4 39 = .ok (.iadd, 1) := by decide +kernel
theorem dJ6_bitCount_0f7a4_40 : decode cJ6_bitCount_0f7a4 40 = .ok (.istore_n 0, 1) := by decide +kernel
theorem dJ6_bitCount_0f7a4_41 : decode cJ6_bitCount_0f7a4 41 = .ok (.iload_n 0, 1) := by decide +kernel
theorem dJ6_bitCount_0f7a4_42 : decode cJ6_bitCount_0f7a4 42 = .ok (.iload_n 0, 1) := by decide +kernel
theorem dJ6_bitCount_0f7a4_43 : decode cJ6_bitCount_0f7a4 43 = .ok (.bipush 16, 2) := by decide +kernel
theorem dJ6_bitCount_0f7a4_45 : decode cJ6_bitCount_0f7a4 45 = .ok (.iushr, 1) := by decide +kernel
theorem dJ6_bitCount_0f7a4_46 : decode cJ6_bitCount_0f7a4 46 = .ok (.iadd, 1) := by decide +kernel
theorem dJ6_bitCount_0f7a4_47 : decode cJ6_bitCount_0f7a4 47 = .ok (.istore_n 0, 1) := by decide +kernel
theorem dJ6_bitCount_0f7a4_48 : decode cJ6_bitCount_0f7a4 48 = .ok (.iload_n 0, 1) := by decide +kernel
theorem dJ6_bitCount_0f7a4_49 : decode cJ6_bitCount_0f7a4 49 = .ok (.bipush 63, 2) := by decide +kernel
theorem dJ6_bitCount_0f7a4_51 : decode cJ6_bitCount_0f7a4 51 = .ok (.iand, 1) := by decide +kernel
theorem dJ6_bitCount_0f7a4_52 : decode cJ6_bitCount_0f7a4 52 = .ok (.ireturn, 1) := by decide +kernel
abbrev rm_kJ6_bitCount_0f7a4 : Room := { frames := 0, cells := 0, slots := 0, locals := 0 }
set_option maxHeartbeats 4000000 in
set_option maxRecDepth 100000 in
theorem kJ6_bitCount_0f7a4 (l : Launch) (g : zL) (x1 : Int32) : zCi l g yJ6_bitCount_0f7a4 cJ6_bitCount_0f7a4 1 (some .int) rm_kJ6_bitCount_0f7a4 [.int x1] [] (fun (r : Int32) (u : Unit) => (0 ≤ r.toInt ∧ r.toInt ≤ 63)) (fun (u : Unit) => []) := by
  refine zCi.mk2 (by decide) (Nat.le_of_ble_eq_true rfl) ?_
  intro p e s m below meth c A args Q hE hret hP hD hS ls hl
  obtain ⟨hx, hb, hr, hml, hown, hG, hlocks, hnm, hX, hA⟩ := hE
  have hown : s.vm.findClass RJ6 = some m.cls := hown
  have hl : lv_has ls 1 [(0, .int x1)] := hl
  refine lv_iload_n hx hb dJ6_bitCount_0f7a4_0 rfl (lv_at hl 0 rfl) ?_
  refine lv_iload_n hx hb dJ6_bitCount_0f7a4_1 rfl (lv_at hl 0 rfl) ?_
  refine lv_iconst (v := 1) hx hb dJ6_bitCount_0f7a4_2 (by decide) ?_
  refine lv_iushr (v := (x1.toUInt32 >>> ((1 : Int32).toUInt32 &&& Int32.toUInt32 31)).toInt32) hx hb dJ6_bitCount_0f7a4_3 rfl ?_
  refine lv_topi (fun z1 e2 => ?_)
  refine lv_ldcw (v := 1431655765) hx hb hown (hG _ wk_J6_265) dJ6_bitCount_0f7a4_4 ?_
  refine lv_iand hx hb dJ6_bitCount_0f7a4_7 ?_
  refine lv_topi (fun z3 e4 => ?_)
  have f5 : 0 ≤ z3.toInt ∧ z3.toInt ≤ (1431655765 : Int) := zand e4 (show (1431655765 : Int32).toInt = (1431655765 : Int) from by decide) ((show 0 ≤ (1431655765 : Int) from by decide))
  refine lv_isub hx hb dJ6_bitCount_0f7a4_8 ?_
  refine lv_topi (fun z6 e7 => ?_)
  refine lv_istore_n (lv' := [(0, .int z6)]) hx hb dJ6_bitCount_0f7a4_9 rfl hl (by decide) rfl (fun ls hl => ?_)
  refine lv_iload_n hx hb dJ6_bitCount_0f7a4_10 rfl (lv_at hl 0 rfl) ?_
  refine lv_ldcw (v := 858993459) hx hb hown (hG _ wk_J6_266) dJ6_bitCount_0f7a4_11 ?_
  refine lv_iand hx hb dJ6_bitCount_0f7a4_14 ?_
  refine lv_topi (fun z8 e9 => ?_)
  have f10 : 0 ≤ z8.toInt ∧ z8.toInt ≤ (858993459 : Int) := zand e9 (show (858993459 : Int32).toInt = (858993459 : Int) from by decide) ((show 0 ≤ (858993459 : Int) from by decide))
  refine lv_iload_n hx hb dJ6_bitCount_0f7a4_15 rfl (lv_at hl 0 rfl) ?_
  refine lv_iconst (v := 2) hx hb dJ6_bitCount_0f7a4_16 (by decide) ?_
  refine lv_iushr (v := (z6.toUInt32 >>> ((2 : Int32).toUInt32 &&& Int32.toUInt32 31)).toInt32) hx hb dJ6_bitCount_0f7a4_17 rfl ?_
  refine lv_topi (fun z11 e12 => ?_)
  refine lv_ldcw (v := 858993459) hx hb hown (hG _ wk_J6_266) dJ6_bitCount_0f7a4_18 ?_
  refine lv_iand hx hb dJ6_bitCount_0f7a4_21 ?_
  refine lv_topi (fun z13 e14 => ?_)
  have f15 : 0 ≤ z13.toInt ∧ z13.toInt ≤ (858993459 : Int) := zand e14 (show (858993459 : Int32).toInt = (858993459 : Int) from by decide) ((show 0 ≤ (858993459 : Int) from by decide))
  refine lv_iadd hx hb dJ6_bitCount_0f7a4_22 ?_
  refine lv_topi (fun z16 e17 => ?_)
  have f18 : z16.toInt = z8.toInt + z13.toInt := za e17 (rfl : z8.toInt = _) (rfl : z13.toInt = _) (ox_231 (zr z13) (zr z8) f10 f15)
  refine lv_istore_n (lv' := [(0, .int z16)]) hx hb dJ6_bitCount_0f7a4_23 rfl hl (by decide) rfl (fun ls hl => ?_)
  refine lv_iload_n hx hb dJ6_bitCount_0f7a4_24 rfl (lv_at hl 0 rfl) ?_
  refine lv_iload_n hx hb dJ6_bitCount_0f7a4_25 rfl (lv_at hl 0 rfl) ?_
  refine lv_iconst (v := 4) hx hb dJ6_bitCount_0f7a4_26 (by decide) ?_
  refine lv_iushr (v := (z16.toUInt32 >>> ((4 : Int32).toUInt32 &&& Int32.toUInt32 31)).toInt32) hx hb dJ6_bitCount_0f7a4_27 rfl ?_
  refine lv_topi (fun z19 e20 => ?_)
  refine lv_iadd hx hb dJ6_bitCount_0f7a4_28 ?_
  refine lv_topi (fun z21 e22 => ?_)
  refine lv_ldcw (v := 252645135) hx hb hown (hG _ wk_J6_267) dJ6_bitCount_0f7a4_29 ?_
  refine lv_iand hx hb dJ6_bitCount_0f7a4_32 ?_
  refine lv_topi (fun z23 e24 => ?_)
  have f25 : 0 ≤ z23.toInt ∧ z23.toInt ≤ (252645135 : Int) := zand e24 (show (252645135 : Int32).toInt = (252645135 : Int) from by decide) ((show 0 ≤ (252645135 : Int) from by decide))
  refine lv_istore_n (lv' := [(0, .int z23)]) hx hb dJ6_bitCount_0f7a4_33 rfl hl (by decide) rfl (fun ls hl => ?_)
  refine lv_iload_n hx hb dJ6_bitCount_0f7a4_34 rfl (lv_at hl 0 rfl) ?_
  refine lv_iload_n hx hb dJ6_bitCount_0f7a4_35 rfl (lv_at hl 0 rfl) ?_
  refine lv_bipush (v := 8) hx hb dJ6_bitCount_0f7a4_36 (by decide) ?_
  refine lv_iushr (v := (z23.toUInt32 >>> ((8 : Int32).toUInt32 &&& Int32.toUInt32 31)).toInt32) hx hb dJ6_bitCount_0f7a4_38 rfl ?_
  refine lv_topi (fun z26 e27 => ?_)
  refine lv_iadd hx hb dJ6_bitCount_0f7a4_39 ?_
  refine lv_topi (fun z28 e29 => ?_)
  refine lv_istore_n (lv' := [(0, .int z28)]) hx hb dJ6_bitCount_0f7a4_40 rfl hl (by decide) rfl (fun ls hl => ?_)
  refine lv_iload_n hx hb dJ6_bitCount_0f7a4_41 rfl (lv_at hl 0 rfl) ?_
  refine lv_iload_n hx hb dJ6_bitCount_0f7a4_42 rfl (lv_at hl 0 rfl) ?_
  refine lv_bipush (v := 16) hx hb dJ6_bitCount_0f7a4_43 (by decide) ?_
  refine lv_iushr (v := (z28.toUInt32 >>> ((16 : Int32).toUInt32 &&& Int32.toUInt32 31)).toInt32) hx hb dJ6_bitCount_0f7a4_45 rfl ?_
  refine lv_topi (fun z30 e31 => ?_)
  refine lv_iadd hx hb dJ6_bitCount_0f7a4_46 ?_
  refine lv_topi (fun z32 e33 => ?_)
  refine lv_istore_n (lv' := [(0, .int z32)]) hx hb dJ6_bitCount_0f7a4_47 rfl hl (by decide) rfl (fun ls hl => ?_)
  refine lv_iload_n hx hb dJ6_bitCount_0f7a4_48 rfl (lv_at hl 0 rfl) ?_
  refine lv_bipush (v := 63) hx hb dJ6_bitCount_0f7a4_49 (by decide) ?_
  refine lv_iand hx hb dJ6_bitCount_0f7a4_51 ?_
  refine lv_topi (fun z34 e35 => ?_)
  have f36 : 0 ≤ z34.toInt ∧ z34.toInt ≤ (63 : Int) := zand e35 (show (63 : Int32).toInt = (63 : Int) from by decide) ((show 0 ≤ (63 : Int) from by decide))
  exact hret z34 () (Nat.le_of_ble_eq_true rfl) (Nat.le_of_ble_eq_true rfl) rfl (ox_232 f36) hP hD hS dJ6_bitCount_0f7a4_52
theorem dX3_measureRooms_0 : decode cX3_measureRooms 0 = .ok (.aload_n 0, 1) := by decide +kernel
theorem dX3_measureRooms_1 : decode cX3_measureRooms 1 = .ok (.aload_n 2, 1) := by decide +kernel
theorem dX3_measureRooms_2 : decode cX3_measureRooms 2 = .ok (.invokevirtual 37, 3) := by decide +kernel
theorem dX3_measureRooms_5 : decode cX3_measureRooms 5 = .ok (.putfield 43, 3) := by decide +kernel
theorem dX3_measureRooms_8 : decode cX3_measureRooms 8 = .ok (.aload_n 0, 1) := by decide +kernel
theorem dX3_measureRooms_9 : decode cX3_measureRooms 9 = .ok (.aload_n 2, 1) := by decide +kernel
theorem dX3_measureRooms_10 : decode cX3_measureRooms 10 = .ok (.getfield 47, 3) := by decide +kernel
theorem dX3_measureRooms_13 : decode cX3_measureRooms 13 = .ok (.iconst 1, 1) := by decide +kernel
theorem dX3_measureRooms_14 : decode cX3_measureRooms 14 = .ok (.isub, 1) := by decide +kernel
theorem dX3_measureRooms_15 : decode cX3_measureRooms 15 = .ok (.putfield 50, 3) := by decide +kernel
theorem dX3_measureRooms_18 : decode cX3_measureRooms 18 = .ok (.aload_n 0, 1) := by decide +kernel
theorem dX3_measureRooms_19 : decode cX3_measureRooms 19 = .ok (.getfield 43, 3) := by decide +kernel
theorem dX3_measureRooms_22 : decode cX3_measureRooms 22 = .ok (.istore 4, 2) := by decide +kernel
theorem dX3_measureRooms_24 : decode cX3_measureRooms 24 = .ok (.iload 4, 2) := by decide +kernel
theorem dX3_measureRooms_26 : decode cX3_measureRooms 26 = .ok (.ifCond .lt 138, 3) := by decide +kernel
theorem dX3_measureRooms_164 : decode cX3_measureRooms 164 = .ok (.return_, 1) := by decide +kernel
theorem dX3_measureRooms_29 : decode cX3_measureRooms 29 = .ok (.aload_n 1, 1) := by decide +kernel
theorem dX3_measureRooms_30 : decode cX3_measureRooms 30 = .ok (.aload_n 2, 1) := by decide +kernel
theorem dX3_measureRooms_31 : decode cX3_measureRooms 31 = .ok (.iload 4, 2) := by decide +kernel
theorem dX3_measureRooms_33 : decode cX3_measureRooms 33 = .ok (.iload_n 3, 1) := by decide +kernel
theorem dX3_measureRooms_34 : decode cX3_measureRooms 34 = .ok (.invokevirtual 53, 3) := by decide +kernel
theorem dX3_measureRooms_37 : decode cX3_measureRooms 37 = .ok (.aload_n 0, 1) := by decide +kernel
theorem dX3_measureRooms_38 : decode cX3_measureRooms 38 = .ok (.getfield 15, 3) := by decide +kernel
theorem dX3_measureRooms_41 : decode cX3_measureRooms 41 = .ok (.iload 4, 2) := by decide +kernel
theorem dX3_measureRooms_43 : decode cX3_measureRooms 43 = .ok (.aload_n 1, 1) := by decide +kernel
theorem dX3_measureRooms_44 : decode cX3_measureRooms 44 = .ok (.aload_n 2, 1) := by decide +kernel
theorem dX3_measureRooms_45 : decode cX3_measureRooms 45 = .ok (.getfield 47, 3) := by decide +kernel
theorem dX3_measureRooms_48 : decode cX3_measureRooms 48 = .ok (.iconst 0, 1) := by decide +kernel
theorem dX3_measureRooms_49 : decode cX3_measureRooms 49 = .ok (.invokevirtual 59, 3) := by decide +kernel
theorem dX3_measureRooms_52 : decode cX3_measureRooms 52 = .ok (.iconst (-1), 1) := by decide +kernel
theorem dX3_measureRooms_61 : decode cX3_measureRooms 61 = .ok (.i2b, 1) := by decide +kernel
theorem dX3_measureRooms_62 : decode cX3_measureRooms 62 = .ok (.bastore, 1) := by decide +kernel
theorem dX3_measureRooms_63 : decode cX3_measureRooms 63 = .ok (.iconst 1, 1) := by decide +kernel
theorem dX3_measureRooms_64 : decode cX3_measureRooms 64 = .ok (.istore 5, 2) := by decide +kernel
theorem dX3_measureRooms_66 : decode cX3_measureRooms 66 = .ok (.iload 5, 2) := by decide +kernel
theorem dX3_measureRooms_68 : decode cX3_measureRooms 68 = .ok (.aload_n 0, 1) := by decide +kernel
theorem dX3_measureRooms_69 : decode cX3_measureRooms 69 = .ok (.getfield 50, 3) := by decide +kernel
theorem dX3_measureRooms_72 : decode cX3_measureRooms 72 = .ok (.if_icmp .gt 86, 3) := by decide +kernel
theorem dX3_measureRooms_158 : decode cX3_measureRooms 158 = .ok (.iinc 4 (-1), 3) := by decide +kernel
theorem dX3_measureRooms_161 : decode cX3_measureRooms 161 = .ok (.goto (-137), 3) := by decide +kernel
theorem dX3_measureRooms_75 : decode cX3_measureRooms 75 = .ok (.iload 5, 2) := by decide +kernel
theorem dX3_measureRooms_77 : decode cX3_measureRooms 77 = .ok (.iload 4, 2) := by decide +kernel
theorem dX3_measureRooms_79 : decode cX3_measureRooms 79 = .ok (.invokestatic 63, 3) := by decide +kernel
theorem dX3_measureRooms_116 : decode cX3_measureRooms 116 = .ok (.istore 6, 2) := by decide +kernel
theorem dX3_measureRooms_118 : decode cX3_measureRooms 118 = .ok (.aload_n 0, 1) := by decide +kernel
theorem dX3_measureRooms_119 : decode cX3_measureRooms 119 = .ok (.getfield 9, 3) := by decide +kernel
theorem dX3_measureRooms_122 : decode cX3_measureRooms 122 = .ok (.iload 4, 2) := by decide +kernel
theorem dX3_measureRooms_124 : decode cX3_measureRooms 124 = .ok (.iload 5, 2) := by decide +kernel
theorem dX3_measureRooms_126 : decode cX3_measureRooms 126 = .ok (.invokestatic 74, 3) := by decide +kernel
theorem dX3_measureRooms_129 : decode cX3_measureRooms 129 = .ok (.iload 6, 2) := by decide +kernel
theorem dX3_measureRooms_151 : decode cX3_measureRooms 151 = .ok (.iastore, 1) := by decide +kernel
theorem dX3_measureRooms_152 : decode cX3_measureRooms 152 = .ok (.iinc 5 1, 3) := by decide +kernel
theorem dX3_measureRooms_155 : decode cX3_measureRooms 155 = .ok (.goto (-89), 3) := by decide +kernel
theorem dX3_measureRooms_131 : decode cX3_measureRooms 131 = .ok (.ifCond .eq 7, 3) := by decide +kernel
theorem dX3_measureRooms_138 : decode cX3_measureRooms 138 = .ok (.aload_n 1, 1) := by decide +kernel
theorem dX3_measureRooms_139 : decode cX3_measureRooms 139 = .ok (.aload_n 2, 1) := by decide +kernel
theorem dX3_measureRooms_140 : decode cX3_measureRooms 140 = .ok (.iload 5, 2) := by decide +kernel
theorem dX3_measureRooms_142 : decode cX3_measureRooms 142 = .ok (.iload 5, 2) := by decide +kernel
theorem dX3_measureRooms_144 : decode cX3_measureRooms 144 = .ok (.iload_n 3, 1) := by decide +kernel
theorem dX3_measureRooms_145 : decode cX3_measureRooms 145 = .ok (.invokestatic 63, 3) := by decide +kernel
theorem dX3_measureRooms_148 : decode cX3_measureRooms 148 = .ok (.invokevirtual 77, 3) := by decide +kernel
theorem dX3_measureRooms_134 : decode cX3_measureRooms 134 = .ok (.iconst 0, 1) := by decide +kernel
theorem dX3_measureRooms_135 : decode cX3_measureRooms 135 = .ok (.goto 16, 3) := by decide +kernel
theorem dX3_measureRooms_111 : decode cX3_measureRooms 111 = .ok (.iconst 1, 1) := by decide +kernel
theorem dX3_measureRooms_112 : decode cX3_measureRooms 112 = .ok (.goto 4, 3) := by decide +kernel
theorem dX3_measureRooms_82 : decode cX3_measureRooms 82 = .ok (.ifCond .ne 29, 3) := by decide +kernel
theorem dX3_measureRooms_85 : decode cX3_measureRooms 85 = .ok (.aload_n 2, 1) := by decide +kernel
theorem dX3_measureRooms_86 : decode cX3_measureRooms 86 = .ok (.getfield 67, 3) := by decide +kernel
theorem dX3_measureRooms_89 : decode cX3_measureRooms 89 = .ok (.iload 5, 2) := by decide +kernel
theorem dX3_measureRooms_91 : decode cX3_measureRooms 91 = .ok (.iaload, 1) := by decide +kernel
theorem dX3_measureRooms_92 : decode cX3_measureRooms 92 = .ok (.ifCond .eq 19, 3) := by decide +kernel
theorem dX3_measureRooms_95 : decode cX3_measureRooms 95 = .ok (.aload_n 0, 1) := by decide +kernel
theorem dX3_measureRooms_96 : decode cX3_measureRooms 96 = .ok (.getfield 15, 3) := by decide +kernel
theorem dX3_measureRooms_99 : decode cX3_measureRooms 99 = .ok (.iload 4, 2) := by decide +kernel
theorem dX3_measureRooms_101 : decode cX3_measureRooms 101 = .ok (.iload 5, 2) := by decide +kernel
theorem dX3_measureRooms_103 : decode cX3_measureRooms 103 = .ok (.invokestatic 70, 3) := by decide +kernel
theorem dX3_measureRooms_106 : decode cX3_measureRooms 106 = .ok (.ior, 1) := by decide +kernel
theorem dX3_measureRooms_107 : decode cX3_measureRooms 107 = .ok (.baload, 1) := by decide +kernel
theorem dX3_measureRooms_108 : decode cX3_measureRooms 108 = .ok (.ifCond .eq 7, 3) := by decide +kernel
theorem dX3_measureRooms_115 : decode cX3_measureRooms 115 = .ok (.iconst 0, 1) := by decide +kernel
theorem dX3_measureRooms_53 : decode cX3_measureRooms 53 = .ok (.if_icmp .eq 7, 3) := by decide +kernel
theorem dX3_measureRooms_60 : decode cX3_measureRooms 60 = .ok (.iconst 0, 1) := by decide +kernel
theorem dX3_measureRooms_56 : decode cX3_measureRooms 56 = .ok (.iconst 1, 1) := by decide +kernel
theorem dX3_measureRooms_57 : decode cX3_measureRooms 57 = .ok (.goto 4, 3) := by decide +kernel
abbrev rm_kX3_measureRooms : Room := { frames := 5, cells := 0, slots := 0, locals := 121 }
set_option maxHeartbeats 4000000 in
set_option maxRecDepth 100000 in
theorem kX3_measureRooms (l : Launch) (g : zL) (h0 : Nat) (y1 : Nat) (y2 : Nat) (x3 : Int32) (y2_count : Int32) (y2_statements : Int32) (y2_thick : Int32) (y2_punch : Int32) (y2_ups : Int32) (y2_toolCount : Int32) (y2_toolWidth : Nat) (y2_told : Nat) (y2_name : Nat) (y2_parent : Nat) (y2_side : Nat) (y2_from : Nat) (y2_width : Nat) (y2_height : Nat) (y2_radius : Nat) (y2_toolSet : Nat) (f_y2_parent : Nat → Int32) (f_y2_radius : Nat → Int32) (h0_room : Nat) (h0_clashing : Nat) (h0_reach : Nat) (h0_ways : Nat) (h0_switches : Nat) (h0_kind : Nat) (h0_best : Nat) (h0_row : Nat) (h0_rowLength : Int32) (h0_bends : Int32) (h0_full : Int32) (h0_first : Int32) (h0_punch : Int32) (y1_low : Nat) (y1_high : Nat) (y1_normal : Nat) (y1_corner : Nat) (y1_east : Nat) (y1_north : Nat) (y1_start : Nat) (y1_far : Nat) (f_y1_start : Nat → Int32) (f_y1_corner : Nat → Int32) (f_y1_east : Nat → Int32) (f_y1_north : Nat → Int32) (f_y1_normal : Nat → Int32) (f_y2_width : Nat → Int32) (f_y2_height : Nat → Int32) (f_y1_far : Nat → Int32) (f_y1_low : Nat → Int32) (f_y1_high : Nat → Int32) (f_y2_side : Nat → Int32) (f_y2_from : Nat → Int32) (f_y2_told : Nat → Int32) (f_h0_clashing : Nat → Int32) (f_y2_toolSet : Nat → Int32) (f_h0_room : Nat → Int32) (hy0 : 0 ≤ y2_count.toInt ∧ y2_count.toInt ≤ 9) (hy1 : 0 ≤ y2_toolCount.toInt ∧ y2_toolCount.toInt ≤ 8) (hy2 : aI 0 8 f_y2_parent) (hy3 : True) (hy4 : 0 ≤ h0_rowLength.toInt ∧ h0_rowLength.toInt ≤ 8) (hy5 : (-1) ≤ h0_bends.toInt ∧ h0_bends.toInt ≤ 8) (hy6 : 0 ≤ h0_full.toInt ∧ h0_full.toInt ≤ 255) (hy7 : 0 ≤ h0_first.toInt ∧ h0_first.toInt ≤ 255) (hy8 : aI 0 5 f_y1_east) (hy9 : aI 0 5 f_y1_north) (hy10 : aI 0 5 f_y1_normal) (hy11 : aI 0 3 f_y2_side) (hy12 : pOK y2_count f_y2_parent f_y2_radius) : zCv l g yX3_measureRooms cX3_measureRooms 7 none rm_kX3_measureRooms [.ref h0, .ref y1, .ref y2, .int x3] [(y2, .inr (4, [.int y2_count, .int y2_statements, .int y2_thick, .int y2_punch, .int y2_ups, .int y2_toolCount, .ref y2_toolWidth, .ref y2_told, .ref y2_name, .ref y2_parent, .ref y2_side, .ref y2_from, .ref y2_width, .ref y2_height, .ref y2_radius, .ref y2_toolSet])), (y2_parent, .inl (g.2.1.1, 9, .inl f_y2_parent)), (y2_radius, .inl (g.2.1.1, 9, .inl f_y2_radius)), (h0, .inr (3, [.ref h0_room, .ref h0_clashing, .ref h0_reach, .ref h0_ways, .ref h0_switches, .ref h0_kind, .ref h0_best, .ref h0_row, .int h0_rowLength, .int h0_bends, .int h0_full, .int h0_first, .int h0_punch])), (y1, .inr (5, [.ref y1_low, .ref y1_high, .ref y1_normal, .ref y1_corner, .ref y1_east, .ref y1_north, .ref y1_start, .ref y1_far])), (y1_start, .inl (g.2.1.1, 3, .inl f_y1_start)), (y1_corner, .inl (g.2.1.1, 27, .inl f_y1_corner)), (y1_east, .inl (g.2.1.1, 9, .inl f_y1_east)), (y1_north, .inl (g.2.1.1, 9, .inl f_y1_north)), (y1_normal, .inl (g.2.1.1, 18, .inl f_y1_normal)), (y2_width, .inl (g.2.1.1, 9, .inl f_y2_width)), (y2_height, .inl (g.2.1.1, 9, .inl f_y2_height)), (y1_far, .inl (g.2.1.1, 3, .inl f_y1_far)), (y1_low, .inl (g.2.1.1, 54, .inl f_y1_low)), (y1_high, .inl (g.2.1.1, 54, .inl f_y1_high)), (y2_side, .inl (g.2.1.1, 9, .inl f_y2_side)), (y2_from, .inl (g.2.1.1, 9, .inl f_y2_from)), (y2_told, .inl (g.2.1.1, 10, .inl f_y2_told)), (h0_clashing, .inl (g.2.1.2.1, 256, .inl f_h0_clashing)), (y2_toolSet, .inl (g.2.1.1, 9, .inl f_y2_toolSet)), (h0_room, .inl (g.2.1.1, 2048, .inl f_h0_room))] (fun (u : Int32 × Int32 × (Nat → Int32) × (Nat → Int32) × (Nat → Int32) × (Nat → Int32) × (Nat → Int32) × (Nat → Int32) × (Nat → Int32) × (Nat → Int32) × (Nat → Int32) × (Nat → Int32)) => ((-1) ≤ u.1.toInt ∧ u.1.toInt ≤ 8) ∧ (0 ≤ u.2.1.toInt ∧ u.2.1.toInt ≤ 255) ∧ (aI 0 5 u.2.2.2.2.1) ∧ (aI 0 5 u.2.2.2.2.2.1) ∧ (aI 0 5 u.2.2.2.2.2.2.1)) (fun (u : Int32 × Int32 × (Nat → Int32) × (Nat → Int32) × (Nat → Int32) × (Nat → Int32) × (Nat → Int32) × (Nat → Int32) × (Nat → Int32) × (Nat → Int32) × (Nat → Int32) × (Nat → Int32)) => [(y2, .inr (4, [.int y2_count, .int y2_statements, .int y2_thick, .int y2_punch, .int y2_ups, .int y2_toolCount, .ref y2_toolWidth, .ref y2_told, .ref y2_name, .ref y2_parent, .ref y2_side, .ref y2_from, .ref y2_width, .ref y2_height, .ref y2_radius, .ref y2_toolSet])), (y2_parent, .inl (g.2.1.1, 9, .inl f_y2_parent)), (y2_radius, .inl (g.2.1.1, 9, .inl f_y2_radius)), (h0, .inr (3, [.ref h0_room, .ref h0_clashing, .ref h0_reach, .ref h0_ways, .ref h0_switches, .ref h0_kind, .ref h0_best, .ref h0_row, .int h0_rowLength, .int u.1, .int u.2.1, .int h0_first, .int h0_punch])), (y1, .inr (5, [.ref y1_low, .ref y1_high, .ref y1_normal, .ref y1_corner, .ref y1_east, .ref y1_north, .ref y1_start, .ref y1_far])), (y1_start, .inl (g.2.1.1, 3, .inl u.2.2.1)), (y1_corner, .inl (g.2.1.1, 27, .inl u.2.2.2.1)), (y1_east, .inl (g.2.1.1, 9, .inl u.2.2.2.2.1)), (y1_north, .inl (g.2.1.1, 9, .inl u.2.2.2.2.2.1)), (y1_normal, .inl (g.2.1.1, 18, .inl u.2.2.2.2.2.2.1)), (y2_width, .inl (g.2.1.1, 9, .inl f_y2_width)), (y2_height, .inl (g.2.1.1, 9, .inl f_y2_height)), (y1_far, .inl (g.2.1.1, 3, .inl u.2.2.2.2.2.2.2.1)), (y1_low, .inl (g.2.1.1, 54, .inl u.2.2.2.2.2.2.2.2.1)), (y1_high, .inl (g.2.1.1, 54, .inl u.2.2.2.2.2.2.2.2.2.1)), (y2_side, .inl (g.2.1.1, 9, .inl f_y2_side)), (y2_from, .inl (g.2.1.1, 9, .inl f_y2_from)), (y2_told, .inl (g.2.1.1, 10, .inl f_y2_told)), (h0_clashing, .inl (g.2.1.2.1, 256, .inl u.2.2.2.2.2.2.2.2.2.2.1)), (y2_toolSet, .inl (g.2.1.1, 9, .inl f_y2_toolSet)), (h0_room, .inl (g.2.1.1, 2048, .inl u.2.2.2.2.2.2.2.2.2.2.2))]) := by
  refine zCv.mk2 (by decide) (Nat.le_of_ble_eq_true rfl) ?_
  intro p e s m below meth c A args Q hE hret hP hD hS ls hl
  obtain ⟨hx, hb, hr, hml, hown, hG, hlocks, hnm, hX, hA⟩ := hE
  have hown : s.vm.findClass RX3 = some m.cls := hown
  have hl : lv_has ls 7 [(0, .ref h0), (1, .ref y1), (2, .ref y2), (3, .int x3)] := hl
  refine lv_aload_n hx hb dX3_measureRooms_0 rfl (lv_at hl 0 rfl) ?_
  refine lv_aload_n hx hb dX3_measureRooms_1 rfl (lv_at hl 2 rfl) ?_
  refine zfi (wr := [(y2_parent, .inl (g.2.1.1, 9, .inl f_y2_parent)), (y2_radius, .inl (g.2.1.1, 9, .inl f_y2_radius)), (h0, .inr (3, [.ref h0_room, .ref h0_clashing, .ref h0_reach, .ref h0_ways, .ref h0_switches, .ref h0_kind, .ref h0_best, .ref h0_row, .int h0_rowLength, .int h0_bends, .int h0_full, .int h0_first, .int h0_punch])), (y1, .inr (5, [.ref y1_low, .ref y1_high, .ref y1_normal, .ref y1_corner, .ref y1_east, .ref y1_north, .ref y1_start, .ref y1_far])), (y1_start, .inl (g.2.1.1, 3, .inl f_y1_start)), (y1_corner, .inl (g.2.1.1, 27, .inl f_y1_corner)), (y1_east, .inl (g.2.1.1, 9, .inl f_y1_east)), (y1_north, .inl (g.2.1.1, 9, .inl f_y1_north)), (y1_normal, .inl (g.2.1.1, 18, .inl f_y1_normal)), (y2_width, .inl (g.2.1.1, 9, .inl f_y2_width)), (y2_height, .inl (g.2.1.1, 9, .inl f_y2_height)), (y1_far, .inl (g.2.1.1, 3, .inl f_y1_far)), (y1_low, .inl (g.2.1.1, 54, .inl f_y1_low)), (y1_high, .inl (g.2.1.1, 54, .inl f_y1_high)), (y2_side, .inl (g.2.1.1, 9, .inl f_y2_side)), (y2_from, .inl (g.2.1.1, 9, .inl f_y2_from)), (y2_told, .inl (g.2.1.1, 10, .inl f_y2_told)), (h0_clashing, .inl (g.2.1.2.1, 256, .inl f_h0_clashing)), (y2_toolSet, .inl (g.2.1.1, 9, .inl f_y2_toolSet)), (h0_room, .inl (g.2.1.1, 2048, .inl f_h0_room))]) (va_runVN (As := []) (rest := [.ref h0]) ⟨hx, hb, hml, hown, hG⟩ (kX4_allBends l g y2 y2_count y2_statements y2_thick y2_punch y2_ups y2_toolCount y2_toolWidth y2_told y2_name y2_parent y2_side y2_from y2_width y2_height y2_radius y2_toolSet (ox_0 hy0) (ox_1 hy1) _) ⟨va_cnB 0 hG (zGood wc_X4_allBends) rfl rfl rfl (hX.2.1.ml wmn_X3_37) (hG _ wini_X4) hX4_allBends ⟨Nat.le_of_ble_eq_true rfl, Nat.le_of_ble_eq_true rfl⟩, hG _ wi_X4_allBends, hG _ wse_X4_X4_allBends⟩ (zpreV (va_recv hX.1 hP (ci := 4) (q0 := 0) rfl rfl) hX hP hD hS hA [0] rfl (by decide)) rfl rfl hl.1 rfl (lv_room (Nat.le_of_ble_eq_true rfl)) dX3_measureRooms_2 ⟨Nat.le_of_ble_eq_true rfl, Nat.le_of_ble_eq_true rfl⟩) hP hD hS hA [0] [1, 2, 3, 4, 5, 6, 7, 8, 9, 10, 11, 12, 13, 14, 15, 16, 17, 18, 19, 20] rfl rfl (by decide) (by decide) (fun r1 _ H locs hp hP hD hS => ?_)
  refine W.cs (cells' := 0) (slots' := 0) rfl rfl ?_
  have hq2 : 0 ≤ r1.toInt ∧ r1.toInt ≤ 255 := hp
  have hP : va_P g.1 vwCl [(y2_parent, .inl (g.2.1.1, 9, .inl f_y2_parent)), (y2_radius, .inl (g.2.1.1, 9, .inl f_y2_radius)), (h0, .inr (3, [.ref h0_room, .ref h0_clashing, .ref h0_reach, .ref h0_ways, .ref h0_switches, .ref h0_kind, .ref h0_best, .ref h0_row, .int h0_rowLength, .int h0_bends, .int h0_full, .int h0_first, .int h0_punch])), (y1, .inr (5, [.ref y1_low, .ref y1_high, .ref y1_normal, .ref y1_corner, .ref y1_east, .ref y1_north, .ref y1_start, .ref y1_far])), (y1_start, .inl (g.2.1.1, 3, .inl f_y1_start)), (y1_corner, .inl (g.2.1.1, 27, .inl f_y1_corner)), (y1_east, .inl (g.2.1.1, 9, .inl f_y1_east)), (y1_north, .inl (g.2.1.1, 9, .inl f_y1_north)), (y1_normal, .inl (g.2.1.1, 18, .inl f_y1_normal)), (y2_width, .inl (g.2.1.1, 9, .inl f_y2_width)), (y2_height, .inl (g.2.1.1, 9, .inl f_y2_height)), (y1_far, .inl (g.2.1.1, 3, .inl f_y1_far)), (y1_low, .inl (g.2.1.1, 54, .inl f_y1_low)), (y1_high, .inl (g.2.1.1, 54, .inl f_y1_high)), (y2_side, .inl (g.2.1.1, 9, .inl f_y2_side)), (y2_from, .inl (g.2.1.1, 9, .inl f_y2_from)), (y2_told, .inl (g.2.1.1, 10, .inl f_y2_told)), (h0_clashing, .inl (g.2.1.2.1, 256, .inl f_h0_clashing)), (y2_toolSet, .inl (g.2.1.1, 9, .inl f_y2_toolSet)), (h0_room, .inl (g.2.1.1, 2048, .inl f_h0_room)), (y2, .inr (4, [.int y2_count, .int y2_statements, .int y2_thick, .int y2_punch, .int y2_ups, .int y2_toolCount, .ref y2_toolWidth, .ref y2_told, .ref y2_name, .ref y2_parent, .ref y2_side, .ref y2_from, .ref y2_width, .ref y2_height, .ref y2_radius, .ref y2_toolSet]))] H := hP
  have hD : va_D A [(y2_parent, .inl (g.2.1.1, 9, .inl f_y2_parent)), (y2_radius, .inl (g.2.1.1, 9, .inl f_y2_radius)), (h0, .inr (3, [.ref h0_room, .ref h0_clashing, .ref h0_reach, .ref h0_ways, .ref h0_switches, .ref h0_kind, .ref h0_best, .ref h0_row, .int h0_rowLength, .int h0_bends, .int h0_full, .int h0_first, .int h0_punch])), (y1, .inr (5, [.ref y1_low, .ref y1_high, .ref y1_normal, .ref y1_corner, .ref y1_east, .ref y1_north, .ref y1_start, .ref y1_far])), (y1_start, .inl (g.2.1.1, 3, .inl f_y1_start)), (y1_corner, .inl (g.2.1.1, 27, .inl f_y1_corner)), (y1_east, .inl (g.2.1.1, 9, .inl f_y1_east)), (y1_north, .inl (g.2.1.1, 9, .inl f_y1_north)), (y1_normal, .inl (g.2.1.1, 18, .inl f_y1_normal)), (y2_width, .inl (g.2.1.1, 9, .inl f_y2_width)), (y2_height, .inl (g.2.1.1, 9, .inl f_y2_height)), (y1_far, .inl (g.2.1.1, 3, .inl f_y1_far)), (y1_low, .inl (g.2.1.1, 54, .inl f_y1_low)), (y1_high, .inl (g.2.1.1, 54, .inl f_y1_high)), (y2_side, .inl (g.2.1.1, 9, .inl f_y2_side)), (y2_from, .inl (g.2.1.1, 9, .inl f_y2_from)), (y2_told, .inl (g.2.1.1, 10, .inl f_y2_told)), (h0_clashing, .inl (g.2.1.2.1, 256, .inl f_h0_clashing)), (y2_toolSet, .inl (g.2.1.1, 9, .inl f_y2_toolSet)), (h0_room, .inl (g.2.1.1, 2048, .inl f_h0_room)), (y2, .inr (4, [.int y2_count, .int y2_statements, .int y2_thick, .int y2_punch, .int y2_ups, .int y2_toolCount, .ref y2_toolWidth, .ref y2_told, .ref y2_name, .ref y2_parent, .ref y2_side, .ref y2_from, .ref y2_width, .ref y2_height, .ref y2_radius, .ref y2_toolSet]))] := hD
  refine va_put (D := g.1) (ci := 3) (v := .int r1) (ty := .int) (C := RX3) (T := TX3) (N := 13) hx hb hG iX3 tyX3 tyX3_ok nmX3 hown hX.1 hP hD hS 2 rfl rfl 10 (by decide) (hG _ wf_X3_43) (fun _ h9 => h9) rfl (by decide +kernel) rfl rfl (Nat.le_of_ble_eq_true rfl) dX3_measureRooms_5 (fun H locs hP hD hS => ?_)
  have hP : va_P g.1 vwCl [(y2_parent, .inl (g.2.1.1, 9, .inl f_y2_parent)), (y2_radius, .inl (g.2.1.1, 9, .inl f_y2_radius)), (h0, .inr (3, [.ref h0_room, .ref h0_clashing, .ref h0_reach, .ref h0_ways, .ref h0_switches, .ref h0_kind, .ref h0_best, .ref h0_row, .int h0_rowLength, .int h0_bends, .int r1, .int h0_first, .int h0_punch])), (y1, .inr (5, [.ref y1_low, .ref y1_high, .ref y1_normal, .ref y1_corner, .ref y1_east, .ref y1_north, .ref y1_start, .ref y1_far])), (y1_start, .inl (g.2.1.1, 3, .inl f_y1_start)), (y1_corner, .inl (g.2.1.1, 27, .inl f_y1_corner)), (y1_east, .inl (g.2.1.1, 9, .inl f_y1_east)), (y1_north, .inl (g.2.1.1, 9, .inl f_y1_north)), (y1_normal, .inl (g.2.1.1, 18, .inl f_y1_normal)), (y2_width, .inl (g.2.1.1, 9, .inl f_y2_width)), (y2_height, .inl (g.2.1.1, 9, .inl f_y2_height)), (y1_far, .inl (g.2.1.1, 3, .inl f_y1_far)), (y1_low, .inl (g.2.1.1, 54, .inl f_y1_low)), (y1_high, .inl (g.2.1.1, 54, .inl f_y1_high)), (y2_side, .inl (g.2.1.1, 9, .inl f_y2_side)), (y2_from, .inl (g.2.1.1, 9, .inl f_y2_from)), (y2_told, .inl (g.2.1.1, 10, .inl f_y2_told)), (h0_clashing, .inl (g.2.1.2.1, 256, .inl f_h0_clashing)), (y2_toolSet, .inl (g.2.1.1, 9, .inl f_y2_toolSet)), (h0_room, .inl (g.2.1.1, 2048, .inl f_h0_room)), (y2, .inr (4, [.int y2_count, .int y2_statements, .int y2_thick, .int y2_punch, .int y2_ups, .int y2_toolCount, .ref y2_toolWidth, .ref y2_told, .ref y2_name, .ref y2_parent, .ref y2_side, .ref y2_from, .ref y2_width, .ref y2_height, .ref y2_radius, .ref y2_toolSet]))] H := hP
  have hD : va_D A [(y2_parent, .inl (g.2.1.1, 9, .inl f_y2_parent)), (y2_radius, .inl (g.2.1.1, 9, .inl f_y2_radius)), (h0, .inr (3, [.ref h0_room, .ref h0_clashing, .ref h0_reach, .ref h0_ways, .ref h0_switches, .ref h0_kind, .ref h0_best, .ref h0_row, .int h0_rowLength, .int h0_bends, .int r1, .int h0_first, .int h0_punch])), (y1, .inr (5, [.ref y1_low, .ref y1_high, .ref y1_normal, .ref y1_corner, .ref y1_east, .ref y1_north, .ref y1_start, .ref y1_far])), (y1_start, .inl (g.2.1.1, 3, .inl f_y1_start)), (y1_corner, .inl (g.2.1.1, 27, .inl f_y1_corner)), (y1_east, .inl (g.2.1.1, 9, .inl f_y1_east)), (y1_north, .inl (g.2.1.1, 9, .inl f_y1_north)), (y1_normal, .inl (g.2.1.1, 18, .inl f_y1_normal)), (y2_width, .inl (g.2.1.1, 9, .inl f_y2_width)), (y2_height, .inl (g.2.1.1, 9, .inl f_y2_height)), (y1_far, .inl (g.2.1.1, 3, .inl f_y1_far)), (y1_low, .inl (g.2.1.1, 54, .inl f_y1_low)), (y1_high, .inl (g.2.1.1, 54, .inl f_y1_high)), (y2_side, .inl (g.2.1.1, 9, .inl f_y2_side)), (y2_from, .inl (g.2.1.1, 9, .inl f_y2_from)), (y2_told, .inl (g.2.1.1, 10, .inl f_y2_told)), (h0_clashing, .inl (g.2.1.2.1, 256, .inl f_h0_clashing)), (y2_toolSet, .inl (g.2.1.1, 9, .inl f_y2_toolSet)), (h0_room, .inl (g.2.1.1, 2048, .inl f_h0_room)), (y2, .inr (4, [.int y2_count, .int y2_statements, .int y2_thick, .int y2_punch, .int y2_ups, .int y2_toolCount, .ref y2_toolWidth, .ref y2_told, .ref y2_name, .ref y2_parent, .ref y2_side, .ref y2_from, .ref y2_width, .ref y2_height, .ref y2_radius, .ref y2_toolSet]))] := hD
  refine lv_aload_n hx hb dX3_measureRooms_8 rfl (lv_at hl 0 rfl) ?_
  refine lv_aload_n hx hb dX3_measureRooms_9 rfl (lv_at hl 2 rfl) ?_
  refine va_getN (D := g.1) (ci := 4) (v := .int y2_count) (C := RX4) (T := TX4) (N := 16) hx hb hG iX4 hown hX.1 hP 20 rfl rfl 0 (by decide) (hX.2.1.fl wfn_X3_47) (fun _ h9 => h9) rfl dX3_measureRooms_10 ?_
  refine lv_iconst (v := 1) hx hb dX3_measureRooms_13 (by decide) ?_
  refine lv_isub hx hb dX3_measureRooms_14 ?_
  refine lv_topi (fun z3 e4 => ?_)
  have f5 : z3.toInt = y2_count.toInt - (1 : Int) := zs e4 (rfl : y2_count.toInt = _) (show (1 : Int32).toInt = (1 : Int) from by decide) (ox_233 (zr y2_count) hy0)
  refine va_put (D := g.1) (ci := 3) (v := .int z3) (ty := .int) (C := RX3) (T := TX3) (N := 13) hx hb hG iX3 tyX3 tyX3_ok nmX3 hown hX.1 hP hD hS 2 rfl rfl 9 (by decide) (hG _ wf_X3_50) (fun _ h9 => h9) rfl (by decide +kernel) rfl rfl (Nat.le_of_ble_eq_true rfl) dX3_measureRooms_15 (fun H locs hP hD hS => ?_)
  have hP : va_P g.1 vwCl [(y2_parent, .inl (g.2.1.1, 9, .inl f_y2_parent)), (y2_radius, .inl (g.2.1.1, 9, .inl f_y2_radius)), (h0, .inr (3, [.ref h0_room, .ref h0_clashing, .ref h0_reach, .ref h0_ways, .ref h0_switches, .ref h0_kind, .ref h0_best, .ref h0_row, .int h0_rowLength, .int z3, .int r1, .int h0_first, .int h0_punch])), (y1, .inr (5, [.ref y1_low, .ref y1_high, .ref y1_normal, .ref y1_corner, .ref y1_east, .ref y1_north, .ref y1_start, .ref y1_far])), (y1_start, .inl (g.2.1.1, 3, .inl f_y1_start)), (y1_corner, .inl (g.2.1.1, 27, .inl f_y1_corner)), (y1_east, .inl (g.2.1.1, 9, .inl f_y1_east)), (y1_north, .inl (g.2.1.1, 9, .inl f_y1_north)), (y1_normal, .inl (g.2.1.1, 18, .inl f_y1_normal)), (y2_width, .inl (g.2.1.1, 9, .inl f_y2_width)), (y2_height, .inl (g.2.1.1, 9, .inl f_y2_height)), (y1_far, .inl (g.2.1.1, 3, .inl f_y1_far)), (y1_low, .inl (g.2.1.1, 54, .inl f_y1_low)), (y1_high, .inl (g.2.1.1, 54, .inl f_y1_high)), (y2_side, .inl (g.2.1.1, 9, .inl f_y2_side)), (y2_from, .inl (g.2.1.1, 9, .inl f_y2_from)), (y2_told, .inl (g.2.1.1, 10, .inl f_y2_told)), (h0_clashing, .inl (g.2.1.2.1, 256, .inl f_h0_clashing)), (y2_toolSet, .inl (g.2.1.1, 9, .inl f_y2_toolSet)), (h0_room, .inl (g.2.1.1, 2048, .inl f_h0_room)), (y2, .inr (4, [.int y2_count, .int y2_statements, .int y2_thick, .int y2_punch, .int y2_ups, .int y2_toolCount, .ref y2_toolWidth, .ref y2_told, .ref y2_name, .ref y2_parent, .ref y2_side, .ref y2_from, .ref y2_width, .ref y2_height, .ref y2_radius, .ref y2_toolSet]))] H := hP
  have hD : va_D A [(y2_parent, .inl (g.2.1.1, 9, .inl f_y2_parent)), (y2_radius, .inl (g.2.1.1, 9, .inl f_y2_radius)), (h0, .inr (3, [.ref h0_room, .ref h0_clashing, .ref h0_reach, .ref h0_ways, .ref h0_switches, .ref h0_kind, .ref h0_best, .ref h0_row, .int h0_rowLength, .int z3, .int r1, .int h0_first, .int h0_punch])), (y1, .inr (5, [.ref y1_low, .ref y1_high, .ref y1_normal, .ref y1_corner, .ref y1_east, .ref y1_north, .ref y1_start, .ref y1_far])), (y1_start, .inl (g.2.1.1, 3, .inl f_y1_start)), (y1_corner, .inl (g.2.1.1, 27, .inl f_y1_corner)), (y1_east, .inl (g.2.1.1, 9, .inl f_y1_east)), (y1_north, .inl (g.2.1.1, 9, .inl f_y1_north)), (y1_normal, .inl (g.2.1.1, 18, .inl f_y1_normal)), (y2_width, .inl (g.2.1.1, 9, .inl f_y2_width)), (y2_height, .inl (g.2.1.1, 9, .inl f_y2_height)), (y1_far, .inl (g.2.1.1, 3, .inl f_y1_far)), (y1_low, .inl (g.2.1.1, 54, .inl f_y1_low)), (y1_high, .inl (g.2.1.1, 54, .inl f_y1_high)), (y2_side, .inl (g.2.1.1, 9, .inl f_y2_side)), (y2_from, .inl (g.2.1.1, 9, .inl f_y2_from)), (y2_told, .inl (g.2.1.1, 10, .inl f_y2_told)), (h0_clashing, .inl (g.2.1.2.1, 256, .inl f_h0_clashing)), (y2_toolSet, .inl (g.2.1.1, 9, .inl f_y2_toolSet)), (h0_room, .inl (g.2.1.1, 2048, .inl f_h0_room)), (y2, .inr (4, [.int y2_count, .int y2_statements, .int y2_thick, .int y2_punch, .int y2_ups, .int y2_toolCount, .ref y2_toolWidth, .ref y2_told, .ref y2_name, .ref y2_parent, .ref y2_side, .ref y2_from, .ref y2_width, .ref y2_height, .ref y2_radius, .ref y2_toolSet]))] := hD
  refine lv_aload_n hx hb dX3_measureRooms_18 rfl (lv_at hl 0 rfl) ?_
  refine va_get (D := g.1) (ci := 3) (v := .int r1) (C := RX3) (T := TX3) (N := 13) hx hb hG iX3 hown hX.1 hP 2 rfl rfl 10 (by decide) (hG _ wf_X3_43) (fun _ h9 => h9) rfl dX3_measureRooms_19 ?_
  refine lv_istore (lv' := [(4, .int r1), (0, .ref h0), (1, .ref y1), (2, .ref y2), (3, .int x3)]) hx hb dX3_measureRooms_22 hl (by decide) rfl (fun ls hl => ?_)
  have L2532 : ∀ (n : Nat) (v1685 : Int32) (fn1686 : Nat → Int32) (fn1687 : Nat → Int32) (fn1688 : Nat → Int32) (fn1689 : Nat → Int32) (fn1690 : Nat → Int32) (fn1691 : Nat → Int32) (fn1692 : Nat → Int32) (fn1693 : Nat → Int32) (fn1694 : Nat → Int32) (fn1695 : Nat → Int32) (H : Heap) (locs : List Loc) (ls : Array Slot), (-1) ≤ v1685.toInt ∧ v1685.toInt ≤ 255 → aI 0 5 fn1688 → aI 0 5 fn1689 → aI 0 5 fn1690 → (v1685.toInt - (-2)).toNat < n → va_P g.1 vwCl [(y2_parent, .inl (g.2.1.1, 9, .inl f_y2_parent)), (y2_radius, .inl (g.2.1.1, 9, .inl f_y2_radius)), (h0, .inr (3, [.ref h0_room, .ref h0_clashing, .ref h0_reach, .ref h0_ways, .ref h0_switches, .ref h0_kind, .ref h0_best, .ref h0_row, .int h0_rowLength, .int z3, .int r1, .int h0_first, .int h0_punch])), (y1, .inr (5, [.ref y1_low, .ref y1_high, .ref y1_normal, .ref y1_corner, .ref y1_east, .ref y1_north, .ref y1_start, .ref y1_far])), (y1_start, .inl (g.2.1.1, 3, .inl fn1686)), (y1_corner, .inl (g.2.1.1, 27, .inl fn1687)), (y1_east, .inl (g.2.1.1, 9, .inl fn1688)), (y1_north, .inl (g.2.1.1, 9, .inl fn1689)), (y1_normal, .inl (g.2.1.1, 18, .inl fn1690)), (y2_width, .inl (g.2.1.1, 9, .inl f_y2_width)), (y2_height, .inl (g.2.1.1, 9, .inl f_y2_height)), (y1_far, .inl (g.2.1.1, 3, .inl fn1691)), (y1_low, .inl (g.2.1.1, 54, .inl fn1692)), (y1_high, .inl (g.2.1.1, 54, .inl fn1693)), (y2_side, .inl (g.2.1.1, 9, .inl f_y2_side)), (y2_from, .inl (g.2.1.1, 9, .inl f_y2_from)), (y2_told, .inl (g.2.1.1, 10, .inl f_y2_told)), (h0_clashing, .inl (g.2.1.2.1, 256, .inl fn1694)), (y2_toolSet, .inl (g.2.1.1, 9, .inl f_y2_toolSet)), (h0_room, .inl (g.2.1.1, 2048, .inl fn1695)), (y2, .inr (4, [.int y2_count, .int y2_statements, .int y2_thick, .int y2_punch, .int y2_ups, .int y2_toolCount, .ref y2_toolWidth, .ref y2_told, .ref y2_name, .ref y2_parent, .ref y2_side, .ref y2_from, .ref y2_width, .ref y2_height, .ref y2_radius, .ref y2_toolSet]))] H → va_D A [(y2_parent, .inl (g.2.1.1, 9, .inl f_y2_parent)), (y2_radius, .inl (g.2.1.1, 9, .inl f_y2_radius)), (h0, .inr (3, [.ref h0_room, .ref h0_clashing, .ref h0_reach, .ref h0_ways, .ref h0_switches, .ref h0_kind, .ref h0_best, .ref h0_row, .int h0_rowLength, .int z3, .int r1, .int h0_first, .int h0_punch])), (y1, .inr (5, [.ref y1_low, .ref y1_high, .ref y1_normal, .ref y1_corner, .ref y1_east, .ref y1_north, .ref y1_start, .ref y1_far])), (y1_start, .inl (g.2.1.1, 3, .inl fn1686)), (y1_corner, .inl (g.2.1.1, 27, .inl fn1687)), (y1_east, .inl (g.2.1.1, 9, .inl fn1688)), (y1_north, .inl (g.2.1.1, 9, .inl fn1689)), (y1_normal, .inl (g.2.1.1, 18, .inl fn1690)), (y2_width, .inl (g.2.1.1, 9, .inl f_y2_width)), (y2_height, .inl (g.2.1.1, 9, .inl f_y2_height)), (y1_far, .inl (g.2.1.1, 3, .inl fn1691)), (y1_low, .inl (g.2.1.1, 54, .inl fn1692)), (y1_high, .inl (g.2.1.1, 54, .inl fn1693)), (y2_side, .inl (g.2.1.1, 9, .inl f_y2_side)), (y2_from, .inl (g.2.1.1, 9, .inl f_y2_from)), (y2_told, .inl (g.2.1.1, 10, .inl f_y2_told)), (h0_clashing, .inl (g.2.1.2.1, 256, .inl fn1694)), (y2_toolSet, .inl (g.2.1.1, 9, .inl f_y2_toolSet)), (h0_room, .inl (g.2.1.1, 2048, .inl fn1695)), (y2, .inr (4, [.int y2_count, .int y2_statements, .int y2_thick, .int y2_punch, .int y2_ups, .int y2_toolCount, .ref y2_toolWidth, .ref y2_told, .ref y2_name, .ref y2_parent, .ref y2_side, .ref y2_from, .ref y2_width, .ref y2_height, .ref y2_radius, .ref y2_toolSet]))] → va_S A s.heap H locs → lv_has ls 7 [(0, .ref h0), (1, .ref y1), (2, .ref y2), (3, .int x3), (4, .int v1685)] → W p l e rm_kX3_measureRooms s m args below meth c H locs 0 0 Q (F0 m 24 ls []) := by
    intro n2533
    induction n2533 with
    | zero => intro v1685 fn1686 fn1687 fn1688 fn1689 fn1690 fn1691 fn1692 fn1693 fn1694 fn1695 H locs ls i2535 hf2536 hf2537 hf2538 hm2539; exact absurd hm2539 (Nat.not_lt_zero _)
    | succ n2533 ih2534 =>
      intro v1685 fn1686 fn1687 fn1688 fn1689 fn1690 fn1691 fn1692 fn1693 fn1694 fn1695 H locs ls i2535 hf2536 hf2537 hf2538 hm2539 hP hD hS hl
      refine lv_iload hx hb dX3_measureRooms_24 (lv_at hl 4 rfl) ?_
      refine lv_if_lt (tgt := 164) hx hb dX3_measureRooms_26 (by decide) (fun c2540 => ?_) (fun c2540 => ?_)
      · skip
        have c2540i : v1685.toInt < (0 : Int) := (zc_lt (rfl : v1685.toInt = _) (show (0 : Int32).toInt = (0 : Int) from by decide)).mp c2540
        exact hret (z3, r1, fn1686, fn1687, fn1688, fn1689, fn1690, fn1691, fn1692, fn1693, fn1694, fn1695) (Nat.le_of_ble_eq_true rfl) (Nat.le_of_ble_eq_true rfl) ⟨ox_234 f5 hy0, ox_228 hq2, hf2536, hf2537, hf2538⟩ (hP.sub [20, 0, 1, 2, 3, 4, 5, 6, 7, 8, 9, 10, 11, 12, 13, 14, 15, 16, 17, 18, 19] rfl) (hD.sub [20, 0, 1, 2, 3, 4, 5, 6, 7, 8, 9, 10, 11, 12, 13, 14, 15, 16, 17, 18, 19] (by decide) rfl) hS dX3_measureRooms_164
      · skip
        have c2540i : ¬ (v1685.toInt < (0 : Int)) := fun q => c2540 ((zc_lt (rfl : v1685.toInt = _) (show (0 : Int32).toInt = (0 : Int) from by decide)).mpr q)
        refine lv_aload_n hx hb dX3_measureRooms_29 rfl (lv_at hl 1 rfl) ?_
        refine lv_aload_n hx hb dX3_measureRooms_30 rfl (lv_at hl 2 rfl) ?_
        refine lv_iload hx hb dX3_measureRooms_31 (lv_at hl 4 rfl) ?_
        refine lv_iload_n hx hb dX3_measureRooms_33 rfl (lv_at hl 3 rfl) ?_
        refine zfv (wr := [(h0, .inr (3, [.ref h0_room, .ref h0_clashing, .ref h0_reach, .ref h0_ways, .ref h0_switches, .ref h0_kind, .ref h0_best, .ref h0_row, .int h0_rowLength, .int z3, .int r1, .int h0_first, .int h0_punch])), (h0_clashing, .inl (g.2.1.2.1, 256, .inl fn1694)), (y2_toolSet, .inl (g.2.1.1, 9, .inl f_y2_toolSet)), (h0_room, .inl (g.2.1.1, 2048, .inl fn1695))]) (va_runVN (As := [.ref y2, .int v1685, .int x3]) (rest := []) ⟨hx, hb, hml, hown, hG⟩ (kX5_place l g y1 y2 v1685 x3 y2_count y2_statements y2_thick y2_punch y2_ups y2_toolCount y2_toolWidth y2_told y2_name y2_parent y2_side y2_from y2_width y2_height y2_radius y2_toolSet f_y2_parent f_y2_radius y1_low y1_high y1_normal y1_corner y1_east y1_north y1_start y1_far fn1686 fn1687 fn1688 fn1689 fn1690 f_y2_width f_y2_height fn1691 fn1692 fn1693 f_y2_side f_y2_from f_y2_told (ox_235 f5 hy0) (ox_1 hy1) hy2 trivial hf2536 hf2537 hf2538 hy11 hy12 _) ⟨va_cnB 3 hG (zGood wc_X5_place) rfl rfl rfl (hX.2.1.ml wmn_X3_53) (hG _ wini_X5) hX5_place ⟨Nat.le_of_ble_eq_true rfl, Nat.le_of_ble_eq_true rfl⟩, hG _ wi_X5_place, hG _ wse_X5_X5_place⟩ (zpreV (va_recv hX.1 hP (ci := 5) (q0 := 3) rfl rfl) hX hP hD hS hA [20, 0, 1, 3, 4, 5, 6, 7, 8, 9, 10, 11, 12, 13, 14, 15, 16] rfl (by decide)) rfl rfl hl.1 rfl (lv_room (Nat.le_of_ble_eq_true rfl)) dX3_measureRooms_34 ⟨Nat.le_of_ble_eq_true rfl, Nat.le_of_ble_eq_true rfl⟩) hP hD hS hA [20, 0, 1, 3, 4, 5, 6, 7, 8, 9, 10, 11, 12, 13, 14, 15, 16] [2, 17, 18, 19] rfl rfl (by decide) (by decide) (fun u2542 H locs hp hP hD hS => ?_)
        refine W.cs (cells' := 0) (slots' := 0) rfl rfl ?_
        obtain ⟨f2543, f2544, f2545, f2546, f2547, f2548, f2549, f2550⟩ := u2542
        obtain ⟨hq2551, hq2552, hq2553⟩ : (aI 0 5 f2545) ∧ (aI 0 5 f2546) ∧ (aI 0 5 f2547) := hp
        have hP : va_P g.1 vwCl [(h0, .inr (3, [.ref h0_room, .ref h0_clashing, .ref h0_reach, .ref h0_ways, .ref h0_switches, .ref h0_kind, .ref h0_best, .ref h0_row, .int h0_rowLength, .int z3, .int r1, .int h0_first, .int h0_punch])), (h0_clashing, .inl (g.2.1.2.1, 256, .inl fn1694)), (y2_toolSet, .inl (g.2.1.1, 9, .inl f_y2_toolSet)), (h0_room, .inl (g.2.1.1, 2048, .inl fn1695)), (y2, .inr (4, [.int y2_count, .int y2_statements, .int y2_thick, .int y2_punch, .int y2_ups, .int y2_toolCount, .ref y2_toolWidth, .ref y2_told, .ref y2_name, .ref y2_parent, .ref y2_side, .ref y2_from, .ref y2_width, .ref y2_height, .ref y2_radius, .ref y2_toolSet])), (y2_parent, .inl (g.2.1.1, 9, .inl f_y2_parent)), (y2_radius, .inl (g.2.1.1, 9, .inl f_y2_radius)), (y1, .inr (5, [.ref y1_low, .ref y1_high, .ref y1_normal, .ref y1_corner, .ref y1_east, .ref y1_north, .ref y1_start, .ref y1_far])), (y1_start, .inl (g.2.1.1, 3, .inl f2543)), (y1_corner, .inl (g.2.1.1, 27, .inl f2544)), (y1_east, .inl (g.2.1.1, 9, .inl f2545)), (y1_north, .inl (g.2.1.1, 9, .inl f2546)), (y1_normal, .inl (g.2.1.1, 18, .inl f2547)), (y2_width, .inl (g.2.1.1, 9, .inl f_y2_width)), (y2_height, .inl (g.2.1.1, 9, .inl f_y2_height)), (y1_far, .inl (g.2.1.1, 3, .inl f2548)), (y1_low, .inl (g.2.1.1, 54, .inl f2549)), (y1_high, .inl (g.2.1.1, 54, .inl f2550)), (y2_side, .inl (g.2.1.1, 9, .inl f_y2_side)), (y2_from, .inl (g.2.1.1, 9, .inl f_y2_from)), (y2_told, .inl (g.2.1.1, 10, .inl f_y2_told))] H := hP
        have hD : va_D A [(h0, .inr (3, [.ref h0_room, .ref h0_clashing, .ref h0_reach, .ref h0_ways, .ref h0_switches, .ref h0_kind, .ref h0_best, .ref h0_row, .int h0_rowLength, .int z3, .int r1, .int h0_first, .int h0_punch])), (h0_clashing, .inl (g.2.1.2.1, 256, .inl fn1694)), (y2_toolSet, .inl (g.2.1.1, 9, .inl f_y2_toolSet)), (h0_room, .inl (g.2.1.1, 2048, .inl fn1695)), (y2, .inr (4, [.int y2_count, .int y2_statements, .int y2_thick, .int y2_punch, .int y2_ups, .int y2_toolCount, .ref y2_toolWidth, .ref y2_told, .ref y2_name, .ref y2_parent, .ref y2_side, .ref y2_from, .ref y2_width, .ref y2_height, .ref y2_radius, .ref y2_toolSet])), (y2_parent, .inl (g.2.1.1, 9, .inl f_y2_parent)), (y2_radius, .inl (g.2.1.1, 9, .inl f_y2_radius)), (y1, .inr (5, [.ref y1_low, .ref y1_high, .ref y1_normal, .ref y1_corner, .ref y1_east, .ref y1_north, .ref y1_start, .ref y1_far])), (y1_start, .inl (g.2.1.1, 3, .inl f2543)), (y1_corner, .inl (g.2.1.1, 27, .inl f2544)), (y1_east, .inl (g.2.1.1, 9, .inl f2545)), (y1_north, .inl (g.2.1.1, 9, .inl f2546)), (y1_normal, .inl (g.2.1.1, 18, .inl f2547)), (y2_width, .inl (g.2.1.1, 9, .inl f_y2_width)), (y2_height, .inl (g.2.1.1, 9, .inl f_y2_height)), (y1_far, .inl (g.2.1.1, 3, .inl f2548)), (y1_low, .inl (g.2.1.1, 54, .inl f2549)), (y1_high, .inl (g.2.1.1, 54, .inl f2550)), (y2_side, .inl (g.2.1.1, 9, .inl f_y2_side)), (y2_from, .inl (g.2.1.1, 9, .inl f_y2_from)), (y2_told, .inl (g.2.1.1, 10, .inl f_y2_told))] := hD
        refine lv_aload_n hx hb dX3_measureRooms_37 rfl (lv_at hl 0 rfl) ?_
        refine va_get (D := g.1) (ci := 3) (v := .ref h0_clashing) (C := RX3) (T := TX3) (N := 13) hx hb hG iX3 hown hX.1 hP 0 rfl rfl 1 (by decide) (hG _ wf_X3_15) (fun _ h9 => h9) rfl dX3_measureRooms_38 ?_
        refine lv_iload hx hb dX3_measureRooms_41 (lv_at hl 4 rfl) ?_
        refine lv_aload_n hx hb dX3_measureRooms_43 rfl (lv_at hl 1 rfl) ?_
        refine lv_aload_n hx hb dX3_measureRooms_44 rfl (lv_at hl 2 rfl) ?_
        refine va_getN (D := g.1) (ci := 4) (v := .int y2_count) (C := RX4) (T := TX4) (N := 16) hx hb hG iX4 hown hX.1 hP 4 rfl rfl 0 (by decide) (hX.2.1.fl wfn_X3_47) (fun _ h9 => h9) rfl dX3_measureRooms_45 ?_
        refine lv_iconst (v := 0) hx hb dX3_measureRooms_48 (by decide) ?_
        refine zfi (wr := [(h0, .inr (3, [.ref h0_room, .ref h0_clashing, .ref h0_reach, .ref h0_ways, .ref h0_switches, .ref h0_kind, .ref h0_best, .ref h0_row, .int h0_rowLength, .int z3, .int r1, .int h0_first, .int h0_punch])), (h0_clashing, .inl (g.2.1.2.1, 256, .inl fn1694)), (y2_toolSet, .inl (g.2.1.1, 9, .inl f_y2_toolSet)), (h0_room, .inl (g.2.1.1, 2048, .inl fn1695)), (y2, .inr (4, [.int y2_count, .int y2_statements, .int y2_thick, .int y2_punch, .int y2_ups, .int y2_toolCount, .ref y2_toolWidth, .ref y2_told, .ref y2_name, .ref y2_parent, .ref y2_side, .ref y2_from, .ref y2_width, .ref y2_height, .ref y2_radius, .ref y2_toolSet])), (y2_parent, .inl (g.2.1.1, 9, .inl f_y2_parent)), (y2_radius, .inl (g.2.1.1, 9, .inl f_y2_radius)), (y1_start, .inl (g.2.1.1, 3, .inl f2543)), (y1_corner, .inl (g.2.1.1, 27, .inl f2544)), (y1_east, .inl (g.2.1.1, 9, .inl f2545)), (y1_north, .inl (g.2.1.1, 9, .inl f2546)), (y2_width, .inl (g.2.1.1, 9, .inl f_y2_width)), (y2_height, .inl (g.2.1.1, 9, .inl f_y2_height)), (y1_far, .inl (g.2.1.1, 3, .inl f2548)), (y2_side, .inl (g.2.1.1, 9, .inl f_y2_side)), (y2_from, .inl (g.2.1.1, 9, .inl f_y2_from)), (y2_told, .inl (g.2.1.1, 10, .inl f_y2_told))]) (va_runVN (As := [.int y2_count, .int 0]) (rest := [.int v1685, .ref h0_clashing]) ⟨hx, hb, hml, hown, hG⟩ (kX5_clashes l g y1 y2_count (0 : Int32) y1_low y1_high y1_normal y1_corner y1_east y1_north y1_start y1_far f2547 f2549 f2550 (ox_235 f5 hy0) hq2553 _) ⟨va_cnB 2 hG (zGood wc_X5_clashes) rfl rfl rfl (hX.2.1.ml wmn_X3_59) (hG _ wini_X5) hX5_clashes ⟨Nat.le_of_ble_eq_true rfl, Nat.le_of_ble_eq_true rfl⟩, hG _ wi_X5_clashes, hG _ wse_X5_X5_clashes⟩ (zpreV (va_recv hX.1 hP (ci := 5) (q0 := 7) rfl rfl) hX hP hD hS hA [7, 12, 16, 17] rfl (by decide)) rfl rfl hl.1 rfl (lv_room (Nat.le_of_ble_eq_true rfl)) dX3_measureRooms_49 ⟨Nat.le_of_ble_eq_true rfl, Nat.le_of_ble_eq_true rfl⟩) hP hD hS hA [7, 12, 16, 17] [0, 1, 2, 3, 4, 5, 6, 8, 9, 10, 11, 13, 14, 15, 18, 19, 20] rfl rfl (by decide) (by decide) (fun r2554 _ H locs hp hP hD hS => ?_)
        refine W.cs (cells' := 0) (slots' := 0) rfl rfl ?_
        have hP : va_P g.1 vwCl [(h0, .inr (3, [.ref h0_room, .ref h0_clashing, .ref h0_reach, .ref h0_ways, .ref h0_switches, .ref h0_kind, .ref h0_best, .ref h0_row, .int h0_rowLength, .int z3, .int r1, .int h0_first, .int h0_punch])), (h0_clashing, .inl (g.2.1.2.1, 256, .inl fn1694)), (y2_toolSet, .inl (g.2.1.1, 9, .inl f_y2_toolSet)), (h0_room, .inl (g.2.1.1, 2048, .inl fn1695)), (y2, .inr (4, [.int y2_count, .int y2_statements, .int y2_thick, .int y2_punch, .int y2_ups, .int y2_toolCount, .ref y2_toolWidth, .ref y2_told, .ref y2_name, .ref y2_parent, .ref y2_side, .ref y2_from, .ref y2_width, .ref y2_height, .ref y2_radius, .ref y2_toolSet])), (y2_parent, .inl (g.2.1.1, 9, .inl f_y2_parent)), (y2_radius, .inl (g.2.1.1, 9, .inl f_y2_radius)), (y1_start, .inl (g.2.1.1, 3, .inl f2543)), (y1_corner, .inl (g.2.1.1, 27, .inl f2544)), (y1_east, .inl (g.2.1.1, 9, .inl f2545)), (y1_north, .inl (g.2.1.1, 9, .inl f2546)), (y2_width, .inl (g.2.1.1, 9, .inl f_y2_width)), (y2_height, .inl (g.2.1.1, 9, .inl f_y2_height)), (y1_far, .inl (g.2.1.1, 3, .inl f2548)), (y2_side, .inl (g.2.1.1, 9, .inl f_y2_side)), (y2_from, .inl (g.2.1.1, 9, .inl f_y2_from)), (y2_told, .inl (g.2.1.1, 10, .inl f_y2_told)), (y1, .inr (5, [.ref y1_low, .ref y1_high, .ref y1_normal, .ref y1_corner, .ref y1_east, .ref y1_north, .ref y1_start, .ref y1_far])), (y1_normal, .inl (g.2.1.1, 18, .inl f2547)), (y1_low, .inl (g.2.1.1, 54, .inl f2549)), (y1_high, .inl (g.2.1.1, 54, .inl f2550))] H := hP
        have hD : va_D A [(h0, .inr (3, [.ref h0_room, .ref h0_clashing, .ref h0_reach, .ref h0_ways, .ref h0_switches, .ref h0_kind, .ref h0_best, .ref h0_row, .int h0_rowLength, .int z3, .int r1, .int h0_first, .int h0_punch])), (h0_clashing, .inl (g.2.1.2.1, 256, .inl fn1694)), (y2_toolSet, .inl (g.2.1.1, 9, .inl f_y2_toolSet)), (h0_room, .inl (g.2.1.1, 2048, .inl fn1695)), (y2, .inr (4, [.int y2_count, .int y2_statements, .int y2_thick, .int y2_punch, .int y2_ups, .int y2_toolCount, .ref y2_toolWidth, .ref y2_told, .ref y2_name, .ref y2_parent, .ref y2_side, .ref y2_from, .ref y2_width, .ref y2_height, .ref y2_radius, .ref y2_toolSet])), (y2_parent, .inl (g.2.1.1, 9, .inl f_y2_parent)), (y2_radius, .inl (g.2.1.1, 9, .inl f_y2_radius)), (y1_start, .inl (g.2.1.1, 3, .inl f2543)), (y1_corner, .inl (g.2.1.1, 27, .inl f2544)), (y1_east, .inl (g.2.1.1, 9, .inl f2545)), (y1_north, .inl (g.2.1.1, 9, .inl f2546)), (y2_width, .inl (g.2.1.1, 9, .inl f_y2_width)), (y2_height, .inl (g.2.1.1, 9, .inl f_y2_height)), (y1_far, .inl (g.2.1.1, 3, .inl f2548)), (y2_side, .inl (g.2.1.1, 9, .inl f_y2_side)), (y2_from, .inl (g.2.1.1, 9, .inl f_y2_from)), (y2_told, .inl (g.2.1.1, 10, .inl f_y2_told)), (y1, .inr (5, [.ref y1_low, .ref y1_high, .ref y1_normal, .ref y1_corner, .ref y1_east, .ref y1_north, .ref y1_start, .ref y1_far])), (y1_normal, .inl (g.2.1.1, 18, .inl f2547)), (y1_low, .inl (g.2.1.1, 54, .inl f2549)), (y1_high, .inl (g.2.1.1, 54, .inl f2550))] := hD
        refine lv_iconst (v := (-1)) hx hb dX3_measureRooms_52 (by decide) ?_
        have J2557 : ∀  (v2556 : Int32) (H : Heap) (locs : List Loc) (ls : Array Slot), 0 ≤ v2556.toInt ∧ v2556.toInt ≤ 1 → va_P g.1 vwCl [(h0, .inr (3, [.ref h0_room, .ref h0_clashing, .ref h0_reach, .ref h0_ways, .ref h0_switches, .ref h0_kind, .ref h0_best, .ref h0_row, .int h0_rowLength, .int z3, .int r1, .int h0_first, .int h0_punch])), (h0_clashing, .inl (g.2.1.2.1, 256, .inl fn1694)), (y2_toolSet, .inl (g.2.1.1, 9, .inl f_y2_toolSet)), (h0_room, .inl (g.2.1.1, 2048, .inl fn1695)), (y2, .inr (4, [.int y2_count, .int y2_statements, .int y2_thick, .int y2_punch, .int y2_ups, .int y2_toolCount, .ref y2_toolWidth, .ref y2_told, .ref y2_name, .ref y2_parent, .ref y2_side, .ref y2_from, .ref y2_width, .ref y2_height, .ref y2_radius, .ref y2_toolSet])), (y2_parent, .inl (g.2.1.1, 9, .inl f_y2_parent)), (y2_radius, .inl (g.2.1.1, 9, .inl f_y2_radius)), (y1_start, .inl (g.2.1.1, 3, .inl f2543)), (y1_corner, .inl (g.2.1.1, 27, .inl f2544)), (y1_east, .inl (g.2.1.1, 9, .inl f2545)), (y1_north, .inl (g.2.1.1, 9, .inl f2546)), (y2_width, .inl (g.2.1.1, 9, .inl f_y2_width)), (y2_height, .inl (g.2.1.1, 9, .inl f_y2_height)), (y1_far, .inl (g.2.1.1, 3, .inl f2548)), (y2_side, .inl (g.2.1.1, 9, .inl f_y2_side)), (y2_from, .inl (g.2.1.1, 9, .inl f_y2_from)), (y2_told, .inl (g.2.1.1, 10, .inl f_y2_told)), (y1, .inr (5, [.ref y1_low, .ref y1_high, .ref y1_normal, .ref y1_corner, .ref y1_east, .ref y1_north, .ref y1_start, .ref y1_far])), (y1_normal, .inl (g.2.1.1, 18, .inl f2547)), (y1_low, .inl (g.2.1.1, 54, .inl f2549)), (y1_high, .inl (g.2.1.1, 54, .inl f2550))] H → va_D A [(h0, .inr (3, [.ref h0_room, .ref h0_clashing, .ref h0_reach, .ref h0_ways, .ref h0_switches, .ref h0_kind, .ref h0_best, .ref h0_row, .int h0_rowLength, .int z3, .int r1, .int h0_first, .int h0_punch])), (h0_clashing, .inl (g.2.1.2.1, 256, .inl fn1694)), (y2_toolSet, .inl (g.2.1.1, 9, .inl f_y2_toolSet)), (h0_room, .inl (g.2.1.1, 2048, .inl fn1695)), (y2, .inr (4, [.int y2_count, .int y2_statements, .int y2_thick, .int y2_punch, .int y2_ups, .int y2_toolCount, .ref y2_toolWidth, .ref y2_told, .ref y2_name, .ref y2_parent, .ref y2_side, .ref y2_from, .ref y2_width, .ref y2_height, .ref y2_radius, .ref y2_toolSet])), (y2_parent, .inl (g.2.1.1, 9, .inl f_y2_parent)), (y2_radius, .inl (g.2.1.1, 9, .inl f_y2_radius)), (y1_start, .inl (g.2.1.1, 3, .inl f2543)), (y1_corner, .inl (g.2.1.1, 27, .inl f2544)), (y1_east, .inl (g.2.1.1, 9, .inl f2545)), (y1_north, .inl (g.2.1.1, 9, .inl f2546)), (y2_width, .inl (g.2.1.1, 9, .inl f_y2_width)), (y2_height, .inl (g.2.1.1, 9, .inl f_y2_height)), (y1_far, .inl (g.2.1.1, 3, .inl f2548)), (y2_side, .inl (g.2.1.1, 9, .inl f_y2_side)), (y2_from, .inl (g.2.1.1, 9, .inl f_y2_from)), (y2_told, .inl (g.2.1.1, 10, .inl f_y2_told)), (y1, .inr (5, [.ref y1_low, .ref y1_high, .ref y1_normal, .ref y1_corner, .ref y1_east, .ref y1_north, .ref y1_start, .ref y1_far])), (y1_normal, .inl (g.2.1.1, 18, .inl f2547)), (y1_low, .inl (g.2.1.1, 54, .inl f2549)), (y1_high, .inl (g.2.1.1, 54, .inl f2550))] → va_S A s.heap H locs → lv_has ls 7 [(0, .ref h0), (1, .ref y1), (2, .ref y2), (3, .int x3), (4, .int v1685)] → W p l e rm_kX3_measureRooms s m args below meth c H locs 0 0 Q (F0 m 61 ls [.int v2556, .int v1685, .ref h0_clashing]) := by
          intro v2556 H locs ls i2558 hP hD hS hl
          refine lv_i2b (v := v2556.toInt8.toInt32) hx hb dX3_measureRooms_61 rfl ?_
          refine lv_topi (fun z2559 e2560 => ?_)
          refine va_bast hx hb hX.1 hP hD hS 1 1 rfl rfl (zin (rfl : v1685.toInt = _) (ox_236 c2540i i2535)) dX3_measureRooms_62 (fun H locs hP hD hS => ?_)
          obtain ⟨f2561, e2562⟩ : ∃ z9 : Nat → Int32, z9 = upd fn1694 v1685.toNatClampNeg (vp_nar .byte z2559) := ⟨_, rfl⟩
          rw [← e2562] at hP hD
          have hP : va_P g.1 vwCl [(h0, .inr (3, [.ref h0_room, .ref h0_clashing, .ref h0_reach, .ref h0_ways, .ref h0_switches, .ref h0_kind, .ref h0_best, .ref h0_row, .int h0_rowLength, .int z3, .int r1, .int h0_first, .int h0_punch])), (h0_clashing, .inl (g.2.1.2.1, 256, .inl f2561)), (y2_toolSet, .inl (g.2.1.1, 9, .inl f_y2_toolSet)), (h0_room, .inl (g.2.1.1, 2048, .inl fn1695)), (y2, .inr (4, [.int y2_count, .int y2_statements, .int y2_thick, .int y2_punch, .int y2_ups, .int y2_toolCount, .ref y2_toolWidth, .ref y2_told, .ref y2_name, .ref y2_parent, .ref y2_side, .ref y2_from, .ref y2_width, .ref y2_height, .ref y2_radius, .ref y2_toolSet])), (y2_parent, .inl (g.2.1.1, 9, .inl f_y2_parent)), (y2_radius, .inl (g.2.1.1, 9, .inl f_y2_radius)), (y1_start, .inl (g.2.1.1, 3, .inl f2543)), (y1_corner, .inl (g.2.1.1, 27, .inl f2544)), (y1_east, .inl (g.2.1.1, 9, .inl f2545)), (y1_north, .inl (g.2.1.1, 9, .inl f2546)), (y2_width, .inl (g.2.1.1, 9, .inl f_y2_width)), (y2_height, .inl (g.2.1.1, 9, .inl f_y2_height)), (y1_far, .inl (g.2.1.1, 3, .inl f2548)), (y2_side, .inl (g.2.1.1, 9, .inl f_y2_side)), (y2_from, .inl (g.2.1.1, 9, .inl f_y2_from)), (y2_told, .inl (g.2.1.1, 10, .inl f_y2_told)), (y1, .inr (5, [.ref y1_low, .ref y1_high, .ref y1_normal, .ref y1_corner, .ref y1_east, .ref y1_north, .ref y1_start, .ref y1_far])), (y1_normal, .inl (g.2.1.1, 18, .inl f2547)), (y1_low, .inl (g.2.1.1, 54, .inl f2549)), (y1_high, .inl (g.2.1.1, 54, .inl f2550))] H := hP
          have hD : va_D A [(h0, .inr (3, [.ref h0_room, .ref h0_clashing, .ref h0_reach, .ref h0_ways, .ref h0_switches, .ref h0_kind, .ref h0_best, .ref h0_row, .int h0_rowLength, .int z3, .int r1, .int h0_first, .int h0_punch])), (h0_clashing, .inl (g.2.1.2.1, 256, .inl f2561)), (y2_toolSet, .inl (g.2.1.1, 9, .inl f_y2_toolSet)), (h0_room, .inl (g.2.1.1, 2048, .inl fn1695)), (y2, .inr (4, [.int y2_count, .int y2_statements, .int y2_thick, .int y2_punch, .int y2_ups, .int y2_toolCount, .ref y2_toolWidth, .ref y2_told, .ref y2_name, .ref y2_parent, .ref y2_side, .ref y2_from, .ref y2_width, .ref y2_height, .ref y2_radius, .ref y2_toolSet])), (y2_parent, .inl (g.2.1.1, 9, .inl f_y2_parent)), (y2_radius, .inl (g.2.1.1, 9, .inl f_y2_radius)), (y1_start, .inl (g.2.1.1, 3, .inl f2543)), (y1_corner, .inl (g.2.1.1, 27, .inl f2544)), (y1_east, .inl (g.2.1.1, 9, .inl f2545)), (y1_north, .inl (g.2.1.1, 9, .inl f2546)), (y2_width, .inl (g.2.1.1, 9, .inl f_y2_width)), (y2_height, .inl (g.2.1.1, 9, .inl f_y2_height)), (y1_far, .inl (g.2.1.1, 3, .inl f2548)), (y2_side, .inl (g.2.1.1, 9, .inl f_y2_side)), (y2_from, .inl (g.2.1.1, 9, .inl f_y2_from)), (y2_told, .inl (g.2.1.1, 10, .inl f_y2_told)), (y1, .inr (5, [.ref y1_low, .ref y1_high, .ref y1_normal, .ref y1_corner, .ref y1_east, .ref y1_north, .ref y1_start, .ref y1_far])), (y1_normal, .inl (g.2.1.1, 18, .inl f2547)), (y1_low, .inl (g.2.1.1, 54, .inl f2549)), (y1_high, .inl (g.2.1.1, 54, .inl f2550))] := hD
          refine lv_iconst (v := 1) hx hb dX3_measureRooms_63 (by decide) ?_
          refine lv_istore (lv' := [(5, .int 1), (0, .ref h0), (1, .ref y1), (2, .ref y2), (3, .int x3), (4, .int v1685)]) hx hb dX3_measureRooms_64 hl (by decide) rfl (fun ls hl => ?_)
          have L3287 : ∀ (n : Nat) (v3195 : Int32) (fn3196 : Nat → Int32) (fn3197 : Nat → Int32) (fn3198 : Nat → Int32) (fn3199 : Nat → Int32) (fn3200 : Nat → Int32) (fn3201 : Nat → Int32) (H : Heap) (locs : List Loc) (ls : Array Slot), 1 ≤ v3195.toInt ∧ v3195.toInt ≤ 9 → aI 0 5 fn3199 → (10 - v3195.toInt).toNat < n → va_P g.1 vwCl [(h0, .inr (3, [.ref h0_room, .ref h0_clashing, .ref h0_reach, .ref h0_ways, .ref h0_switches, .ref h0_kind, .ref h0_best, .ref h0_row, .int h0_rowLength, .int z3, .int r1, .int h0_first, .int h0_punch])), (h0_clashing, .inl (g.2.1.2.1, 256, .inl f2561)), (y2_toolSet, .inl (g.2.1.1, 9, .inl f_y2_toolSet)), (h0_room, .inl (g.2.1.1, 2048, .inl fn3196)), (y2, .inr (4, [.int y2_count, .int y2_statements, .int y2_thick, .int y2_punch, .int y2_ups, .int y2_toolCount, .ref y2_toolWidth, .ref y2_told, .ref y2_name, .ref y2_parent, .ref y2_side, .ref y2_from, .ref y2_width, .ref y2_height, .ref y2_radius, .ref y2_toolSet])), (y2_parent, .inl (g.2.1.1, 9, .inl f_y2_parent)), (y2_radius, .inl (g.2.1.1, 9, .inl f_y2_radius)), (y1_start, .inl (g.2.1.1, 3, .inl fn3197)), (y1_corner, .inl (g.2.1.1, 27, .inl f2544)), (y1_east, .inl (g.2.1.1, 9, .inl f2545)), (y1_north, .inl (g.2.1.1, 9, .inl f2546)), (y2_width, .inl (g.2.1.1, 9, .inl f_y2_width)), (y2_height, .inl (g.2.1.1, 9, .inl f_y2_height)), (y1_far, .inl (g.2.1.1, 3, .inl fn3198)), (y2_side, .inl (g.2.1.1, 9, .inl f_y2_side)), (y2_from, .inl (g.2.1.1, 9, .inl f_y2_from)), (y2_told, .inl (g.2.1.1, 10, .inl f_y2_told)), (y1, .inr (5, [.ref y1_low, .ref y1_high, .ref y1_normal, .ref y1_corner, .ref y1_east, .ref y1_north, .ref y1_start, .ref y1_far])), (y1_normal, .inl (g.2.1.1, 18, .inl fn3199)), (y1_low, .inl (g.2.1.1, 54, .inl fn3200)), (y1_high, .inl (g.2.1.1, 54, .inl fn3201))] H → va_D A [(h0, .inr (3, [.ref h0_room, .ref h0_clashing, .ref h0_reach, .ref h0_ways, .ref h0_switches, .ref h0_kind, .ref h0_best, .ref h0_row, .int h0_rowLength, .int z3, .int r1, .int h0_first, .int h0_punch])), (h0_clashing, .inl (g.2.1.2.1, 256, .inl f2561)), (y2_toolSet, .inl (g.2.1.1, 9, .inl f_y2_toolSet)), (h0_room, .inl (g.2.1.1, 2048, .inl fn3196)), (y2, .inr (4, [.int y2_count, .int y2_statements, .int y2_thick, .int y2_punch, .int y2_ups, .int y2_toolCount, .ref y2_toolWidth, .ref y2_told, .ref y2_name, .ref y2_parent, .ref y2_side, .ref y2_from, .ref y2_width, .ref y2_height, .ref y2_radius, .ref y2_toolSet])), (y2_parent, .inl (g.2.1.1, 9, .inl f_y2_parent)), (y2_radius, .inl (g.2.1.1, 9, .inl f_y2_radius)), (y1_start, .inl (g.2.1.1, 3, .inl fn3197)), (y1_corner, .inl (g.2.1.1, 27, .inl f2544)), (y1_east, .inl (g.2.1.1, 9, .inl f2545)), (y1_north, .inl (g.2.1.1, 9, .inl f2546)), (y2_width, .inl (g.2.1.1, 9, .inl f_y2_width)), (y2_height, .inl (g.2.1.1, 9, .inl f_y2_height)), (y1_far, .inl (g.2.1.1, 3, .inl fn3198)), (y2_side, .inl (g.2.1.1, 9, .inl f_y2_side)), (y2_from, .inl (g.2.1.1, 9, .inl f_y2_from)), (y2_told, .inl (g.2.1.1, 10, .inl f_y2_told)), (y1, .inr (5, [.ref y1_low, .ref y1_high, .ref y1_normal, .ref y1_corner, .ref y1_east, .ref y1_north, .ref y1_start, .ref y1_far])), (y1_normal, .inl (g.2.1.1, 18, .inl fn3199)), (y1_low, .inl (g.2.1.1, 54, .inl fn3200)), (y1_high, .inl (g.2.1.1, 54, .inl fn3201))] → va_S A s.heap H locs → lv_has ls 7 [(0, .ref h0), (1, .ref y1), (2, .ref y2), (3, .int x3), (4, .int v1685), (5, .int v3195)] → W p l e rm_kX3_measureRooms s m args below meth c H locs 0 0 Q (F0 m 66 ls []) := by
            intro n3288
            induction n3288 with
            | zero => intro v3195 fn3196 fn3197 fn3198 fn3199 fn3200 fn3201 H locs ls i3290 hf3291 hm3292; exact absurd hm3292 (Nat.not_lt_zero _)
            | succ n3288 ih3289 =>
              intro v3195 fn3196 fn3197 fn3198 fn3199 fn3200 fn3201 H locs ls i3290 hf3291 hm3292 hP hD hS hl
              refine lv_iload hx hb dX3_measureRooms_66 (lv_at hl 5 rfl) ?_
              refine lv_aload_n hx hb dX3_measureRooms_68 rfl (lv_at hl 0 rfl) ?_
              refine va_get (D := g.1) (ci := 3) (v := .int z3) (C := RX3) (T := TX3) (N := 13) hx hb hG iX3 hown hX.1 hP 0 rfl rfl 9 (by decide) (hG _ wf_X3_50) (fun _ h9 => h9) rfl dX3_measureRooms_69 ?_
              refine lv_icmp_gt (tgt := 158) hx hb dX3_measureRooms_72 (by decide) (fun c3293 => ?_) (fun c3293 => ?_)
              · skip
                have c3293i : z3.toInt < v3195.toInt := (zc_lt (rfl : z3.toInt = _) (rfl : v3195.toInt = _)).mp c3293
                obtain ⟨z3294, e3295⟩ : ∃ y9 : Int32, y9 = v1685 + (-1) := ⟨_, rfl⟩
                have f3296 : z3294.toInt = v1685.toInt + (-1) := za e3295 (rfl : v1685.toInt = _) (show (-1 : Int32).toInt = (-1 : Int) from by decide) (ox_237 (zr v1685) c2540i i2535)
                refine lv_iinc (v := z3294) (lv' := [(4, .int z3294), (0, .ref h0), (1, .ref y1), (2, .ref y2), (3, .int x3), (5, .int v3195)]) hx hb dX3_measureRooms_158 hl (k := 4) rfl (by rw [e3295]; rfl) (by decide) rfl (fun ls hl => ?_)
                refine lv_goto (tgt := 24) hx hb dX3_measureRooms_161 (by decide) ?_
                exact ih2534 z3294 fn3197 f2544 f2545 f2546 fn3199 fn3198 fn3200 fn3201 f2561 fn3196 H locs ls (ox_238 c2540i f3296 i2535) hq2551 hq2552 hf3291 (zdec hm2539 (ox_239 c2540i f3296 i2535)) (hP.sub [5, 6, 0, 17, 7, 8, 9, 10, 18, 11, 12, 13, 19, 20, 14, 15, 16, 1, 2, 3, 4] rfl) (hD.sub [5, 6, 0, 17, 7, 8, 9, 10, 18, 11, 12, 13, 19, 20, 14, 15, 16, 1, 2, 3, 4] (by decide) rfl) hS (lv_sub hl [1, 2, 3, 4, 0] rfl)
              · skip
                have c3293i : ¬ (z3.toInt < v3195.toInt) := fun q => c3293 ((zc_lt (rfl : z3.toInt = _) (rfl : v3195.toInt = _)).mpr q)
                refine lv_iload hx hb dX3_measureRooms_75 (lv_at hl 5 rfl) ?_
                refine lv_iload hx hb dX3_measureRooms_77 (lv_at hl 4 rfl) ?_
                refine zfi (wr := [(h0, .inr (3, [.ref h0_room, .ref h0_clashing, .ref h0_reach, .ref h0_ways, .ref h0_switches, .ref h0_kind, .ref h0_best, .ref h0_row, .int h0_rowLength, .int z3, .int r1, .int h0_first, .int h0_punch])), (h0_clashing, .inl (g.2.1.2.1, 256, .inl f2561)), (y2_toolSet, .inl (g.2.1.1, 9, .inl f_y2_toolSet)), (h0_room, .inl (g.2.1.1, 2048, .inl fn3196)), (y2, .inr (4, [.int y2_count, .int y2_statements, .int y2_thick, .int y2_punch, .int y2_ups, .int y2_toolCount, .ref y2_toolWidth, .ref y2_told, .ref y2_name, .ref y2_parent, .ref y2_side, .ref y2_from, .ref y2_width, .ref y2_height, .ref y2_radius, .ref y2_toolSet])), (y2_parent, .inl (g.2.1.1, 9, .inl f_y2_parent)), (y2_radius, .inl (g.2.1.1, 9, .inl f_y2_radius)), (y1_start, .inl (g.2.1.1, 3, .inl fn3197)), (y1_corner, .inl (g.2.1.1, 27, .inl f2544)), (y1_east, .inl (g.2.1.1, 9, .inl f2545)), (y1_north, .inl (g.2.1.1, 9, .inl f2546)), (y2_width, .inl (g.2.1.1, 9, .inl f_y2_width)), (y2_height, .inl (g.2.1.1, 9, .inl f_y2_height)), (y1_far, .inl (g.2.1.1, 3, .inl fn3198)), (y2_side, .inl (g.2.1.1, 9, .inl f_y2_side)), (y2_from, .inl (g.2.1.1, 9, .inl f_y2_from)), (y2_told, .inl (g.2.1.1, 10, .inl f_y2_told)), (y1, .inr (5, [.ref y1_low, .ref y1_high, .ref y1_normal, .ref y1_corner, .ref y1_east, .ref y1_north, .ref y1_start, .ref y1_far])), (y1_normal, .inl (g.2.1.1, 18, .inl fn3199)), (y1_low, .inl (g.2.1.1, 54, .inl fn3200)), (y1_high, .inl (g.2.1.1, 54, .inl fn3201))]) (va_runSN (As := [.int v3195, .int v1685]) (rest := []) ⟨hx, hb, hml, hown, hG⟩ (kX8_isIn l g v3195 v1685 _) ⟨va_cnB 2 hG (zGood wc_X8_isIn) rfl rfl rfl (hX.2.1.ml wmn_X3_63) (hG _ wini_X8) hX8_isIn ⟨Nat.le_of_ble_eq_true rfl, Nat.le_of_ble_eq_true rfl⟩, hG _ ws_X8_isIn, trivial⟩ (zpreS hX hP hD hS hA [] rfl (by decide)) rfl rfl hl.1 rfl (lv_room (Nat.le_of_ble_eq_true rfl)) dX3_measureRooms_79 ⟨Nat.le_of_ble_eq_true rfl, Nat.le_of_ble_eq_true rfl⟩) hP hD hS hA [] [0, 1, 2, 3, 4, 5, 6, 7, 8, 9, 10, 11, 12, 13, 14, 15, 16, 17, 18, 19, 20] rfl rfl (by decide) (by decide) (fun r3297 _ H locs hp hP hD hS => ?_)
                refine W.cs (cells' := 0) (slots' := 0) rfl rfl ?_
                have hq3298 : 0 ≤ r3297.toInt ∧ r3297.toInt ≤ 1 := hp
                have hP : va_P g.1 vwCl [(h0, .inr (3, [.ref h0_room, .ref h0_clashing, .ref h0_reach, .ref h0_ways, .ref h0_switches, .ref h0_kind, .ref h0_best, .ref h0_row, .int h0_rowLength, .int z3, .int r1, .int h0_first, .int h0_punch])), (h0_clashing, .inl (g.2.1.2.1, 256, .inl f2561)), (y2_toolSet, .inl (g.2.1.1, 9, .inl f_y2_toolSet)), (h0_room, .inl (g.2.1.1, 2048, .inl fn3196)), (y2, .inr (4, [.int y2_count, .int y2_statements, .int y2_thick, .int y2_punch, .int y2_ups, .int y2_toolCount, .ref y2_toolWidth, .ref y2_told, .ref y2_name, .ref y2_parent, .ref y2_side, .ref y2_from, .ref y2_width, .ref y2_height, .ref y2_radius, .ref y2_toolSet])), (y2_parent, .inl (g.2.1.1, 9, .inl f_y2_parent)), (y2_radius, .inl (g.2.1.1, 9, .inl f_y2_radius)), (y1_start, .inl (g.2.1.1, 3, .inl fn3197)), (y1_corner, .inl (g.2.1.1, 27, .inl f2544)), (y1_east, .inl (g.2.1.1, 9, .inl f2545)), (y1_north, .inl (g.2.1.1, 9, .inl f2546)), (y2_width, .inl (g.2.1.1, 9, .inl f_y2_width)), (y2_height, .inl (g.2.1.1, 9, .inl f_y2_height)), (y1_far, .inl (g.2.1.1, 3, .inl fn3198)), (y2_side, .inl (g.2.1.1, 9, .inl f_y2_side)), (y2_from, .inl (g.2.1.1, 9, .inl f_y2_from)), (y2_told, .inl (g.2.1.1, 10, .inl f_y2_told)), (y1, .inr (5, [.ref y1_low, .ref y1_high, .ref y1_normal, .ref y1_corner, .ref y1_east, .ref y1_north, .ref y1_start, .ref y1_far])), (y1_normal, .inl (g.2.1.1, 18, .inl fn3199)), (y1_low, .inl (g.2.1.1, 54, .inl fn3200)), (y1_high, .inl (g.2.1.1, 54, .inl fn3201))] H := hP
                have hD : va_D A [(h0, .inr (3, [.ref h0_room, .ref h0_clashing, .ref h0_reach, .ref h0_ways, .ref h0_switches, .ref h0_kind, .ref h0_best, .ref h0_row, .int h0_rowLength, .int z3, .int r1, .int h0_first, .int h0_punch])), (h0_clashing, .inl (g.2.1.2.1, 256, .inl f2561)), (y2_toolSet, .inl (g.2.1.1, 9, .inl f_y2_toolSet)), (h0_room, .inl (g.2.1.1, 2048, .inl fn3196)), (y2, .inr (4, [.int y2_count, .int y2_statements, .int y2_thick, .int y2_punch, .int y2_ups, .int y2_toolCount, .ref y2_toolWidth, .ref y2_told, .ref y2_name, .ref y2_parent, .ref y2_side, .ref y2_from, .ref y2_width, .ref y2_height, .ref y2_radius, .ref y2_toolSet])), (y2_parent, .inl (g.2.1.1, 9, .inl f_y2_parent)), (y2_radius, .inl (g.2.1.1, 9, .inl f_y2_radius)), (y1_start, .inl (g.2.1.1, 3, .inl fn3197)), (y1_corner, .inl (g.2.1.1, 27, .inl f2544)), (y1_east, .inl (g.2.1.1, 9, .inl f2545)), (y1_north, .inl (g.2.1.1, 9, .inl f2546)), (y2_width, .inl (g.2.1.1, 9, .inl f_y2_width)), (y2_height, .inl (g.2.1.1, 9, .inl f_y2_height)), (y1_far, .inl (g.2.1.1, 3, .inl fn3198)), (y2_side, .inl (g.2.1.1, 9, .inl f_y2_side)), (y2_from, .inl (g.2.1.1, 9, .inl f_y2_from)), (y2_told, .inl (g.2.1.1, 10, .inl f_y2_told)), (y1, .inr (5, [.ref y1_low, .ref y1_high, .ref y1_normal, .ref y1_corner, .ref y1_east, .ref y1_north, .ref y1_start, .ref y1_far])), (y1_normal, .inl (g.2.1.1, 18, .inl fn3199)), (y1_low, .inl (g.2.1.1, 54, .inl fn3200)), (y1_high, .inl (g.2.1.1, 54, .inl fn3201))] := hD
                have J3312 : ∀  (v3311 : Int32) (H : Heap) (locs : List Loc) (ls : Array Slot), 0 ≤ v3311.toInt ∧ v3311.toInt ≤ 1 → va_P g.1 vwCl [(h0, .inr (3, [.ref h0_room, .ref h0_clashing, .ref h0_reach, .ref h0_ways, .ref h0_switches, .ref h0_kind, .ref h0_best, .ref h0_row, .int h0_rowLength, .int z3, .int r1, .int h0_first, .int h0_punch])), (h0_clashing, .inl (g.2.1.2.1, 256, .inl f2561)), (y2_toolSet, .inl (g.2.1.1, 9, .inl f_y2_toolSet)), (h0_room, .inl (g.2.1.1, 2048, .inl fn3196)), (y2, .inr (4, [.int y2_count, .int y2_statements, .int y2_thick, .int y2_punch, .int y2_ups, .int y2_toolCount, .ref y2_toolWidth, .ref y2_told, .ref y2_name, .ref y2_parent, .ref y2_side, .ref y2_from, .ref y2_width, .ref y2_height, .ref y2_radius, .ref y2_toolSet])), (y2_parent, .inl (g.2.1.1, 9, .inl f_y2_parent)), (y2_radius, .inl (g.2.1.1, 9, .inl f_y2_radius)), (y1_start, .inl (g.2.1.1, 3, .inl fn3197)), (y1_corner, .inl (g.2.1.1, 27, .inl f2544)), (y1_east, .inl (g.2.1.1, 9, .inl f2545)), (y1_north, .inl (g.2.1.1, 9, .inl f2546)), (y2_width, .inl (g.2.1.1, 9, .inl f_y2_width)), (y2_height, .inl (g.2.1.1, 9, .inl f_y2_height)), (y1_far, .inl (g.2.1.1, 3, .inl fn3198)), (y2_side, .inl (g.2.1.1, 9, .inl f_y2_side)), (y2_from, .inl (g.2.1.1, 9, .inl f_y2_from)), (y2_told, .inl (g.2.1.1, 10, .inl f_y2_told)), (y1, .inr (5, [.ref y1_low, .ref y1_high, .ref y1_normal, .ref y1_corner, .ref y1_east, .ref y1_north, .ref y1_start, .ref y1_far])), (y1_normal, .inl (g.2.1.1, 18, .inl fn3199)), (y1_low, .inl (g.2.1.1, 54, .inl fn3200)), (y1_high, .inl (g.2.1.1, 54, .inl fn3201))] H → va_D A [(h0, .inr (3, [.ref h0_room, .ref h0_clashing, .ref h0_reach, .ref h0_ways, .ref h0_switches, .ref h0_kind, .ref h0_best, .ref h0_row, .int h0_rowLength, .int z3, .int r1, .int h0_first, .int h0_punch])), (h0_clashing, .inl (g.2.1.2.1, 256, .inl f2561)), (y2_toolSet, .inl (g.2.1.1, 9, .inl f_y2_toolSet)), (h0_room, .inl (g.2.1.1, 2048, .inl fn3196)), (y2, .inr (4, [.int y2_count, .int y2_statements, .int y2_thick, .int y2_punch, .int y2_ups, .int y2_toolCount, .ref y2_toolWidth, .ref y2_told, .ref y2_name, .ref y2_parent, .ref y2_side, .ref y2_from, .ref y2_width, .ref y2_height, .ref y2_radius, .ref y2_toolSet])), (y2_parent, .inl (g.2.1.1, 9, .inl f_y2_parent)), (y2_radius, .inl (g.2.1.1, 9, .inl f_y2_radius)), (y1_start, .inl (g.2.1.1, 3, .inl fn3197)), (y1_corner, .inl (g.2.1.1, 27, .inl f2544)), (y1_east, .inl (g.2.1.1, 9, .inl f2545)), (y1_north, .inl (g.2.1.1, 9, .inl f2546)), (y2_width, .inl (g.2.1.1, 9, .inl f_y2_width)), (y2_height, .inl (g.2.1.1, 9, .inl f_y2_height)), (y1_far, .inl (g.2.1.1, 3, .inl fn3198)), (y2_side, .inl (g.2.1.1, 9, .inl f_y2_side)), (y2_from, .inl (g.2.1.1, 9, .inl f_y2_from)), (y2_told, .inl (g.2.1.1, 10, .inl f_y2_told)), (y1, .inr (5, [.ref y1_low, .ref y1_high, .ref y1_normal, .ref y1_corner, .ref y1_east, .ref y1_north, .ref y1_start, .ref y1_far])), (y1_normal, .inl (g.2.1.1, 18, .inl fn3199)), (y1_low, .inl (g.2.1.1, 54, .inl fn3200)), (y1_high, .inl (g.2.1.1, 54, .inl fn3201))] → va_S A s.heap H locs → lv_has ls 7 [(0, .ref h0), (1, .ref y1), (2, .ref y2), (3, .int x3), (4, .int v1685), (5, .int v3195)] → W p l e rm_kX3_measureRooms s m args below meth c H locs 0 0 Q (F0 m 116 ls [.int v3311]) := by
                  intro v3311 H locs ls i3313 hP hD hS hl
                  refine lv_istore (lv' := [(6, .int v3311), (0, .ref h0), (1, .ref y1), (2, .ref y2), (3, .int x3), (4, .int v1685), (5, .int v3195)]) hx hb dX3_measureRooms_116 hl (by decide) rfl (fun ls hl => ?_)
                  refine lv_aload_n hx hb dX3_measureRooms_118 rfl (lv_at hl 1 rfl) ?_
                  refine va_get (D := g.1) (ci := 3) (v := .ref h0_room) (C := RX3) (T := TX3) (N := 13) hx hb hG iX3 hown hX.1 hP 0 rfl rfl 0 (by decide) (hG _ wf_X3_9) (fun _ h9 => h9) rfl dX3_measureRooms_119 ?_
                  refine lv_iload hx hb dX3_measureRooms_122 (lv_at hl 5 rfl) ?_
                  refine lv_iload hx hb dX3_measureRooms_124 (lv_at hl 6 rfl) ?_
                  refine zfi (wr := [(h0, .inr (3, [.ref h0_room, .ref h0_clashing, .ref h0_reach, .ref h0_ways, .ref h0_switches, .ref h0_kind, .ref h0_best, .ref h0_row, .int h0_rowLength, .int z3, .int r1, .int h0_first, .int h0_punch])), (h0_clashing, .inl (g.2.1.2.1, 256, .inl f2561)), (y2_toolSet, .inl (g.2.1.1, 9, .inl f_y2_toolSet)), (h0_room, .inl (g.2.1.1, 2048, .inl fn3196)), (y2, .inr (4, [.int y2_count, .int y2_statements, .int y2_thick, .int y2_punch, .int y2_ups, .int y2_toolCount, .ref y2_toolWidth, .ref y2_told, .ref y2_name, .ref y2_parent, .ref y2_side, .ref y2_from, .ref y2_width, .ref y2_height, .ref y2_radius, .ref y2_toolSet])), (y2_parent, .inl (g.2.1.1, 9, .inl f_y2_parent)), (y2_radius, .inl (g.2.1.1, 9, .inl f_y2_radius)), (y1_start, .inl (g.2.1.1, 3, .inl fn3197)), (y1_corner, .inl (g.2.1.1, 27, .inl f2544)), (y1_east, .inl (g.2.1.1, 9, .inl f2545)), (y1_north, .inl (g.2.1.1, 9, .inl f2546)), (y2_width, .inl (g.2.1.1, 9, .inl f_y2_width)), (y2_height, .inl (g.2.1.1, 9, .inl f_y2_height)), (y1_far, .inl (g.2.1.1, 3, .inl fn3198)), (y2_side, .inl (g.2.1.1, 9, .inl f_y2_side)), (y2_from, .inl (g.2.1.1, 9, .inl f_y2_from)), (y2_told, .inl (g.2.1.1, 10, .inl f_y2_told)), (y1, .inr (5, [.ref y1_low, .ref y1_high, .ref y1_normal, .ref y1_corner, .ref y1_east, .ref y1_north, .ref y1_start, .ref y1_far])), (y1_normal, .inl (g.2.1.1, 18, .inl fn3199)), (y1_low, .inl (g.2.1.1, 54, .inl fn3200)), (y1_high, .inl (g.2.1.1, 54, .inl fn3201))]) (va_runS (As := [.int v1685, .int v3195]) (rest := [.ref h0_room]) ⟨hx, hb, hml, hown, hG⟩ (kX3_cell l g v1685 v3195 (ox_240 c2540i i2535) (ox_241 c3293i f5 hy0 i3290) _) ⟨callB_of 2 hG (zGood wc_X3_cell) rfl rfl rfl (hG _ wini_X3) (hG _ wm_X3_74) hX3_cell ⟨Nat.le_of_ble_eq_true rfl, Nat.le_of_ble_eq_true rfl⟩, hG _ ws_X3_cell⟩ (zpreS hX hP hD hS hA [] rfl (by decide)) rfl rfl hl.1 rfl (lv_room (Nat.le_of_ble_eq_true rfl)) dX3_measureRooms_126 ⟨Nat.le_of_ble_eq_true rfl, Nat.le_of_ble_eq_true rfl⟩) hP hD hS hA [] [0, 1, 2, 3, 4, 5, 6, 7, 8, 9, 10, 11, 12, 13, 14, 15, 16, 17, 18, 19, 20] rfl rfl (by decide) (by decide) (fun r3314 _ H locs hp hP hD hS => ?_)
                  refine W.cs (cells' := 0) (slots' := 0) rfl rfl ?_
                  have hq3315 : 0 ≤ r3314.toInt ∧ r3314.toInt ≤ 2047 := hp
                  have hP : va_P g.1 vwCl [(h0, .inr (3, [.ref h0_room, .ref h0_clashing, .ref h0_reach, .ref h0_ways, .ref h0_switches, .ref h0_kind, .ref h0_best, .ref h0_row, .int h0_rowLength, .int z3, .int r1, .int h0_first, .int h0_punch])), (h0_clashing, .inl (g.2.1.2.1, 256, .inl f2561)), (y2_toolSet, .inl (g.2.1.1, 9, .inl f_y2_toolSet)), (h0_room, .inl (g.2.1.1, 2048, .inl fn3196)), (y2, .inr (4, [.int y2_count, .int y2_statements, .int y2_thick, .int y2_punch, .int y2_ups, .int y2_toolCount, .ref y2_toolWidth, .ref y2_told, .ref y2_name, .ref y2_parent, .ref y2_side, .ref y2_from, .ref y2_width, .ref y2_height, .ref y2_radius, .ref y2_toolSet])), (y2_parent, .inl (g.2.1.1, 9, .inl f_y2_parent)), (y2_radius, .inl (g.2.1.1, 9, .inl f_y2_radius)), (y1_start, .inl (g.2.1.1, 3, .inl fn3197)), (y1_corner, .inl (g.2.1.1, 27, .inl f2544)), (y1_east, .inl (g.2.1.1, 9, .inl f2545)), (y1_north, .inl (g.2.1.1, 9, .inl f2546)), (y2_width, .inl (g.2.1.1, 9, .inl f_y2_width)), (y2_height, .inl (g.2.1.1, 9, .inl f_y2_height)), (y1_far, .inl (g.2.1.1, 3, .inl fn3198)), (y2_side, .inl (g.2.1.1, 9, .inl f_y2_side)), (y2_from, .inl (g.2.1.1, 9, .inl f_y2_from)), (y2_told, .inl (g.2.1.1, 10, .inl f_y2_told)), (y1, .inr (5, [.ref y1_low, .ref y1_high, .ref y1_normal, .ref y1_corner, .ref y1_east, .ref y1_north, .ref y1_start, .ref y1_far])), (y1_normal, .inl (g.2.1.1, 18, .inl fn3199)), (y1_low, .inl (g.2.1.1, 54, .inl fn3200)), (y1_high, .inl (g.2.1.1, 54, .inl fn3201))] H := hP
                  have hD : va_D A [(h0, .inr (3, [.ref h0_room, .ref h0_clashing, .ref h0_reach, .ref h0_ways, .ref h0_switches, .ref h0_kind, .ref h0_best, .ref h0_row, .int h0_rowLength, .int z3, .int r1, .int h0_first, .int h0_punch])), (h0_clashing, .inl (g.2.1.2.1, 256, .inl f2561)), (y2_toolSet, .inl (g.2.1.1, 9, .inl f_y2_toolSet)), (h0_room, .inl (g.2.1.1, 2048, .inl fn3196)), (y2, .inr (4, [.int y2_count, .int y2_statements, .int y2_thick, .int y2_punch, .int y2_ups, .int y2_toolCount, .ref y2_toolWidth, .ref y2_told, .ref y2_name, .ref y2_parent, .ref y2_side, .ref y2_from, .ref y2_width, .ref y2_height, .ref y2_radius, .ref y2_toolSet])), (y2_parent, .inl (g.2.1.1, 9, .inl f_y2_parent)), (y2_radius, .inl (g.2.1.1, 9, .inl f_y2_radius)), (y1_start, .inl (g.2.1.1, 3, .inl fn3197)), (y1_corner, .inl (g.2.1.1, 27, .inl f2544)), (y1_east, .inl (g.2.1.1, 9, .inl f2545)), (y1_north, .inl (g.2.1.1, 9, .inl f2546)), (y2_width, .inl (g.2.1.1, 9, .inl f_y2_width)), (y2_height, .inl (g.2.1.1, 9, .inl f_y2_height)), (y1_far, .inl (g.2.1.1, 3, .inl fn3198)), (y2_side, .inl (g.2.1.1, 9, .inl f_y2_side)), (y2_from, .inl (g.2.1.1, 9, .inl f_y2_from)), (y2_told, .inl (g.2.1.1, 10, .inl f_y2_told)), (y1, .inr (5, [.ref y1_low, .ref y1_high, .ref y1_normal, .ref y1_corner, .ref y1_east, .ref y1_north, .ref y1_start, .ref y1_far])), (y1_normal, .inl (g.2.1.1, 18, .inl fn3199)), (y1_low, .inl (g.2.1.1, 54, .inl fn3200)), (y1_high, .inl (g.2.1.1, 54, .inl fn3201))] := hD
                  refine lv_iload hx hb dX3_measureRooms_129 (lv_at hl 0 rfl) ?_
                  have J3334 : ∀  (v3328 : Int32) (fn3329 : Nat → Int32) (fn3330 : Nat → Int32) (fn3331 : Nat → Int32) (fn3332 : Nat → Int32) (fn3333 : Nat → Int32) (H : Heap) (locs : List Loc) (ls : Array Slot), 0 ≤ v3328.toInt ∧ v3328.toInt ≤ 99 → aI 0 5 fn3329 → va_P g.1 vwCl [(h0, .inr (3, [.ref h0_room, .ref h0_clashing, .ref h0_reach, .ref h0_ways, .ref h0_switches, .ref h0_kind, .ref h0_best, .ref h0_row, .int h0_rowLength, .int z3, .int r1, .int h0_first, .int h0_punch])), (h0_clashing, .inl (g.2.1.2.1, 256, .inl f2561)), (y2_toolSet, .inl (g.2.1.1, 9, .inl f_y2_toolSet)), (h0_room, .inl (g.2.1.1, 2048, .inl fn3196)), (y2_radius, .inl (g.2.1.1, 9, .inl f_y2_radius)), (y2_told, .inl (g.2.1.1, 10, .inl f_y2_told)), (y2, .inr (4, [.int y2_count, .int y2_statements, .int y2_thick, .int y2_punch, .int y2_ups, .int y2_toolCount, .ref y2_toolWidth, .ref y2_told, .ref y2_name, .ref y2_parent, .ref y2_side, .ref y2_from, .ref y2_width, .ref y2_height, .ref y2_radius, .ref y2_toolSet])), (y2_parent, .inl (g.2.1.1, 9, .inl f_y2_parent)), (y2_side, .inl (g.2.1.1, 9, .inl f_y2_side)), (y1, .inr (5, [.ref y1_low, .ref y1_high, .ref y1_normal, .ref y1_corner, .ref y1_east, .ref y1_north, .ref y1_start, .ref y1_far])), (y1_normal, .inl (g.2.1.1, 18, .inl fn3329)), (y1_corner, .inl (g.2.1.1, 27, .inl f2544)), (y1_start, .inl (g.2.1.1, 3, .inl fn3330)), (y1_north, .inl (g.2.1.1, 9, .inl f2546)), (y1_east, .inl (g.2.1.1, 9, .inl f2545)), (y2_from, .inl (g.2.1.1, 9, .inl f_y2_from)), (y2_height, .inl (g.2.1.1, 9, .inl f_y2_height)), (y2_width, .inl (g.2.1.1, 9, .inl f_y2_width)), (y1_far, .inl (g.2.1.1, 3, .inl fn3331)), (y1_low, .inl (g.2.1.1, 54, .inl fn3332)), (y1_high, .inl (g.2.1.1, 54, .inl fn3333))] H → va_D A [(h0, .inr (3, [.ref h0_room, .ref h0_clashing, .ref h0_reach, .ref h0_ways, .ref h0_switches, .ref h0_kind, .ref h0_best, .ref h0_row, .int h0_rowLength, .int z3, .int r1, .int h0_first, .int h0_punch])), (h0_clashing, .inl (g.2.1.2.1, 256, .inl f2561)), (y2_toolSet, .inl (g.2.1.1, 9, .inl f_y2_toolSet)), (h0_room, .inl (g.2.1.1, 2048, .inl fn3196)), (y2_radius, .inl (g.2.1.1, 9, .inl f_y2_radius)), (y2_told, .inl (g.2.1.1, 10, .inl f_y2_told)), (y2, .inr (4, [.int y2_count, .int y2_statements, .int y2_thick, .int y2_punch, .int y2_ups, .int y2_toolCount, .ref y2_toolWidth, .ref y2_told, .ref y2_name, .ref y2_parent, .ref y2_side, .ref y2_from, .ref y2_width, .ref y2_height, .ref y2_radius, .ref y2_toolSet])), (y2_parent, .inl (g.2.1.1, 9, .inl f_y2_parent)), (y2_side, .inl (g.2.1.1, 9, .inl f_y2_side)), (y1, .inr (5, [.ref y1_low, .ref y1_high, .ref y1_normal, .ref y1_corner, .ref y1_east, .ref y1_north, .ref y1_start, .ref y1_far])), (y1_normal, .inl (g.2.1.1, 18, .inl fn3329)), (y1_corner, .inl (g.2.1.1, 27, .inl f2544)), (y1_start, .inl (g.2.1.1, 3, .inl fn3330)), (y1_north, .inl (g.2.1.1, 9, .inl f2546)), (y1_east, .inl (g.2.1.1, 9, .inl f2545)), (y2_from, .inl (g.2.1.1, 9, .inl f_y2_from)), (y2_height, .inl (g.2.1.1, 9, .inl f_y2_height)), (y2_width, .inl (g.2.1.1, 9, .inl f_y2_width)), (y1_far, .inl (g.2.1.1, 3, .inl fn3331)), (y1_low, .inl (g.2.1.1, 54, .inl fn3332)), (y1_high, .inl (g.2.1.1, 54, .inl fn3333))] → va_S A s.heap H locs → lv_has ls 7 [(0, .ref h0), (1, .ref y1), (2, .ref y2), (3, .int x3), (4, .int v1685), (5, .int v3195), (6, .int v3311)] → W p l e rm_kX3_measureRooms s m args below meth c H locs 0 0 Q (F0 m 151 ls [.int v3328, .int r3314, .ref h0_room]) := by
                    intro v3328 fn3329 fn3330 fn3331 fn3332 fn3333 H locs ls i3335 hf3336 hP hD hS hl
                    refine va_iast hx hb hX.1 hP hD hS 3 0 rfl rfl (zin (rfl : r3314.toInt = _) (ox_229 hq3315)) dX3_measureRooms_151 (fun H locs hP hD hS => ?_)
                    obtain ⟨f3337, e3338⟩ : ∃ z9 : Nat → Int32, z9 = upd fn3196 r3314.toNatClampNeg v3328 := ⟨_, rfl⟩
                    rw [← e3338] at hP hD
                    have hP : va_P g.1 vwCl [(h0, .inr (3, [.ref h0_room, .ref h0_clashing, .ref h0_reach, .ref h0_ways, .ref h0_switches, .ref h0_kind, .ref h0_best, .ref h0_row, .int h0_rowLength, .int z3, .int r1, .int h0_first, .int h0_punch])), (h0_clashing, .inl (g.2.1.2.1, 256, .inl f2561)), (y2_toolSet, .inl (g.2.1.1, 9, .inl f_y2_toolSet)), (h0_room, .inl (g.2.1.1, 2048, .inl f3337)), (y2_radius, .inl (g.2.1.1, 9, .inl f_y2_radius)), (y2_told, .inl (g.2.1.1, 10, .inl f_y2_told)), (y2, .inr (4, [.int y2_count, .int y2_statements, .int y2_thick, .int y2_punch, .int y2_ups, .int y2_toolCount, .ref y2_toolWidth, .ref y2_told, .ref y2_name, .ref y2_parent, .ref y2_side, .ref y2_from, .ref y2_width, .ref y2_height, .ref y2_radius, .ref y2_toolSet])), (y2_parent, .inl (g.2.1.1, 9, .inl f_y2_parent)), (y2_side, .inl (g.2.1.1, 9, .inl f_y2_side)), (y1, .inr (5, [.ref y1_low, .ref y1_high, .ref y1_normal, .ref y1_corner, .ref y1_east, .ref y1_north, .ref y1_start, .ref y1_far])), (y1_normal, .inl (g.2.1.1, 18, .inl fn3329)), (y1_corner, .inl (g.2.1.1, 27, .inl f2544)), (y1_start, .inl (g.2.1.1, 3, .inl fn3330)), (y1_north, .inl (g.2.1.1, 9, .inl f2546)), (y1_east, .inl (g.2.1.1, 9, .inl f2545)), (y2_from, .inl (g.2.1.1, 9, .inl f_y2_from)), (y2_height, .inl (g.2.1.1, 9, .inl f_y2_height)), (y2_width, .inl (g.2.1.1, 9, .inl f_y2_width)), (y1_far, .inl (g.2.1.1, 3, .inl fn3331)), (y1_low, .inl (g.2.1.1, 54, .inl fn3332)), (y1_high, .inl (g.2.1.1, 54, .inl fn3333))] H := hP
                    have hD : va_D A [(h0, .inr (3, [.ref h0_room, .ref h0_clashing, .ref h0_reach, .ref h0_ways, .ref h0_switches, .ref h0_kind, .ref h0_best, .ref h0_row, .int h0_rowLength, .int z3, .int r1, .int h0_first, .int h0_punch])), (h0_clashing, .inl (g.2.1.2.1, 256, .inl f2561)), (y2_toolSet, .inl (g.2.1.1, 9, .inl f_y2_toolSet)), (h0_room, .inl (g.2.1.1, 2048, .inl f3337)), (y2_radius, .inl (g.2.1.1, 9, .inl f_y2_radius)), (y2_told, .inl (g.2.1.1, 10, .inl f_y2_told)), (y2, .inr (4, [.int y2_count, .int y2_statements, .int y2_thick, .int y2_punch, .int y2_ups, .int y2_toolCount, .ref y2_toolWidth, .ref y2_told, .ref y2_name, .ref y2_parent, .ref y2_side, .ref y2_from, .ref y2_width, .ref y2_height, .ref y2_radius, .ref y2_toolSet])), (y2_parent, .inl (g.2.1.1, 9, .inl f_y2_parent)), (y2_side, .inl (g.2.1.1, 9, .inl f_y2_side)), (y1, .inr (5, [.ref y1_low, .ref y1_high, .ref y1_normal, .ref y1_corner, .ref y1_east, .ref y1_north, .ref y1_start, .ref y1_far])), (y1_normal, .inl (g.2.1.1, 18, .inl fn3329)), (y1_corner, .inl (g.2.1.1, 27, .inl f2544)), (y1_start, .inl (g.2.1.1, 3, .inl fn3330)), (y1_north, .inl (g.2.1.1, 9, .inl f2546)), (y1_east, .inl (g.2.1.1, 9, .inl f2545)), (y2_from, .inl (g.2.1.1, 9, .inl f_y2_from)), (y2_height, .inl (g.2.1.1, 9, .inl f_y2_height)), (y2_width, .inl (g.2.1.1, 9, .inl f_y2_width)), (y1_far, .inl (g.2.1.1, 3, .inl fn3331)), (y1_low, .inl (g.2.1.1, 54, .inl fn3332)), (y1_high, .inl (g.2.1.1, 54, .inl fn3333))] := hD
                    obtain ⟨z3339, e3340⟩ : ∃ y9 : Int32, y9 = v3195 + 1 := ⟨_, rfl⟩
                    have f3341 : z3339.toInt = v3195.toInt + 1 := za e3340 (rfl : v3195.toInt = _) (show (1 : Int32).toInt = (1 : Int) from by decide) (ox_242 (zr v3195) (zr y2_count) (zr z3) c3293i f5 hy0 i3290)
                    refine lv_iinc (v := z3339) (lv' := [(5, .int z3339), (0, .ref h0), (1, .ref y1), (2, .ref y2), (3, .int x3), (4, .int v1685), (6, .int v3311)]) hx hb dX3_measureRooms_152 hl (k := 5) rfl (by rw [e3340]; rfl) (by decide) rfl (fun ls hl => ?_)
                    refine lv_goto (tgt := 66) hx hb dX3_measureRooms_155 (by decide) ?_
                    exact ih3289 z3339 f3337 fn3330 fn3331 fn3329 fn3332 fn3333 H locs ls (ox_243 c3293i f3341 f5 hy0 i3290) hf3336 (zdec hm3292 (ox_244 c3293i f3341 f5 hy0 i3290)) (hP.sub [0, 1, 2, 3, 6, 7, 4, 12, 11, 14, 13, 17, 16, 18, 8, 15, 5, 9, 10, 19, 20] rfl) (hD.sub [0, 1, 2, 3, 6, 7, 4, 12, 11, 14, 13, 17, 16, 18, 8, 15, 5, 9, 10, 19, 20] (by decide) rfl) hS (lv_sub hl [1, 2, 3, 4, 5, 0] rfl)
                  refine lv_if_eq (tgt := 138) hx hb dX3_measureRooms_131 (by decide) (fun c3342 => ?_) (fun c3342 => ?_)
                  · skip
                    have c3342i : v3311.toInt = (0 : Int) := (zc_eq (rfl : v3311.toInt = _) (show (0 : Int32).toInt = (0 : Int) from by decide)).mp c3342
                    refine lv_aload_n hx hb dX3_measureRooms_138 rfl (lv_at hl 2 rfl) ?_
                    refine lv_aload_n hx hb dX3_measureRooms_139 rfl (lv_at hl 3 rfl) ?_
                    refine lv_iload hx hb dX3_measureRooms_140 (lv_at hl 6 rfl) ?_
                    refine lv_iload hx hb dX3_measureRooms_142 (lv_at hl 6 rfl) ?_
                    refine lv_iload_n hx hb dX3_measureRooms_144 rfl (lv_at hl 4 rfl) ?_
                    refine zfi (wr := [(h0, .inr (3, [.ref h0_room, .ref h0_clashing, .ref h0_reach, .ref h0_ways, .ref h0_switches, .ref h0_kind, .ref h0_best, .ref h0_row, .int h0_rowLength, .int z3, .int r1, .int h0_first, .int h0_punch])), (h0_clashing, .inl (g.2.1.2.1, 256, .inl f2561)), (y2_toolSet, .inl (g.2.1.1, 9, .inl f_y2_toolSet)), (h0_room, .inl (g.2.1.1, 2048, .inl fn3196)), (y2, .inr (4, [.int y2_count, .int y2_statements, .int y2_thick, .int y2_punch, .int y2_ups, .int y2_toolCount, .ref y2_toolWidth, .ref y2_told, .ref y2_name, .ref y2_parent, .ref y2_side, .ref y2_from, .ref y2_width, .ref y2_height, .ref y2_radius, .ref y2_toolSet])), (y2_parent, .inl (g.2.1.1, 9, .inl f_y2_parent)), (y2_radius, .inl (g.2.1.1, 9, .inl f_y2_radius)), (y1_start, .inl (g.2.1.1, 3, .inl fn3197)), (y1_corner, .inl (g.2.1.1, 27, .inl f2544)), (y1_east, .inl (g.2.1.1, 9, .inl f2545)), (y1_north, .inl (g.2.1.1, 9, .inl f2546)), (y2_width, .inl (g.2.1.1, 9, .inl f_y2_width)), (y2_height, .inl (g.2.1.1, 9, .inl f_y2_height)), (y1_far, .inl (g.2.1.1, 3, .inl fn3198)), (y2_side, .inl (g.2.1.1, 9, .inl f_y2_side)), (y2_from, .inl (g.2.1.1, 9, .inl f_y2_from)), (y2_told, .inl (g.2.1.1, 10, .inl f_y2_told)), (y1, .inr (5, [.ref y1_low, .ref y1_high, .ref y1_normal, .ref y1_corner, .ref y1_east, .ref y1_north, .ref y1_start, .ref y1_far])), (y1_normal, .inl (g.2.1.1, 18, .inl fn3199)), (y1_low, .inl (g.2.1.1, 54, .inl fn3200)), (y1_high, .inl (g.2.1.1, 54, .inl fn3201))]) (va_runSN (As := [.int v3195, .int x3]) (rest := [.int v3195, .ref y2, .ref y1, .int r3314, .ref h0_room]) ⟨hx, hb, hml, hown, hG⟩ (kX8_isIn l g v3195 x3 _) ⟨va_cnB 2 hG (zGood wc_X8_isIn) rfl rfl rfl (hX.2.1.ml wmn_X3_63) (hG _ wini_X8) hX8_isIn ⟨Nat.le_of_ble_eq_true rfl, Nat.le_of_ble_eq_true rfl⟩, hG _ ws_X8_isIn, trivial⟩ (zpreS hX hP hD hS hA [] rfl (by decide)) rfl rfl hl.1 rfl (lv_room (Nat.le_of_ble_eq_true rfl)) dX3_measureRooms_145 ⟨Nat.le_of_ble_eq_true rfl, Nat.le_of_ble_eq_true rfl⟩) hP hD hS hA [] [0, 1, 2, 3, 4, 5, 6, 7, 8, 9, 10, 11, 12, 13, 14, 15, 16, 17, 18, 19, 20] rfl rfl (by decide) (by decide) (fun r3343 _ H locs hp hP hD hS => ?_)
                    refine W.cs (cells' := 0) (slots' := 0) rfl rfl ?_
                    have hq3344 : 0 ≤ r3343.toInt ∧ r3343.toInt ≤ 1 := hp
                    have hP : va_P g.1 vwCl [(h0, .inr (3, [.ref h0_room, .ref h0_clashing, .ref h0_reach, .ref h0_ways, .ref h0_switches, .ref h0_kind, .ref h0_best, .ref h0_row, .int h0_rowLength, .int z3, .int r1, .int h0_first, .int h0_punch])), (h0_clashing, .inl (g.2.1.2.1, 256, .inl f2561)), (y2_toolSet, .inl (g.2.1.1, 9, .inl f_y2_toolSet)), (h0_room, .inl (g.2.1.1, 2048, .inl fn3196)), (y2, .inr (4, [.int y2_count, .int y2_statements, .int y2_thick, .int y2_punch, .int y2_ups, .int y2_toolCount, .ref y2_toolWidth, .ref y2_told, .ref y2_name, .ref y2_parent, .ref y2_side, .ref y2_from, .ref y2_width, .ref y2_height, .ref y2_radius, .ref y2_toolSet])), (y2_parent, .inl (g.2.1.1, 9, .inl f_y2_parent)), (y2_radius, .inl (g.2.1.1, 9, .inl f_y2_radius)), (y1_start, .inl (g.2.1.1, 3, .inl fn3197)), (y1_corner, .inl (g.2.1.1, 27, .inl f2544)), (y1_east, .inl (g.2.1.1, 9, .inl f2545)), (y1_north, .inl (g.2.1.1, 9, .inl f2546)), (y2_width, .inl (g.2.1.1, 9, .inl f_y2_width)), (y2_height, .inl (g.2.1.1, 9, .inl f_y2_height)), (y1_far, .inl (g.2.1.1, 3, .inl fn3198)), (y2_side, .inl (g.2.1.1, 9, .inl f_y2_side)), (y2_from, .inl (g.2.1.1, 9, .inl f_y2_from)), (y2_told, .inl (g.2.1.1, 10, .inl f_y2_told)), (y1, .inr (5, [.ref y1_low, .ref y1_high, .ref y1_normal, .ref y1_corner, .ref y1_east, .ref y1_north, .ref y1_start, .ref y1_far])), (y1_normal, .inl (g.2.1.1, 18, .inl fn3199)), (y1_low, .inl (g.2.1.1, 54, .inl fn3200)), (y1_high, .inl (g.2.1.1, 54, .inl fn3201))] H := hP
                    have hD : va_D A [(h0, .inr (3, [.ref h0_room, .ref h0_clashing, .ref h0_reach, .ref h0_ways, .ref h0_switches, .ref h0_kind, .ref h0_best, .ref h0_row, .int h0_rowLength, .int z3, .int r1, .int h0_first, .int h0_punch])), (h0_clashing, .inl (g.2.1.2.1, 256, .inl f2561)), (y2_toolSet, .inl (g.2.1.1, 9, .inl f_y2_toolSet)), (h0_room, .inl (g.2.1.1, 2048, .inl fn3196)), (y2, .inr (4, [.int y2_count, .int y2_statements, .int y2_thick, .int y2_punch, .int y2_ups, .int y2_toolCount, .ref y2_toolWidth, .ref y2_told, .ref y2_name, .ref y2_parent, .ref y2_side, .ref y2_from, .ref y2_width, .ref y2_height, .ref y2_radius, .ref y2_toolSet])), (y2_parent, .inl (g.2.1.1, 9, .inl f_y2_parent)), (y2_radius, .inl (g.2.1.1, 9, .inl f_y2_radius)), (y1_start, .inl (g.2.1.1, 3, .inl fn3197)), (y1_corner, .inl (g.2.1.1, 27, .inl f2544)), (y1_east, .inl (g.2.1.1, 9, .inl f2545)), (y1_north, .inl (g.2.1.1, 9, .inl f2546)), (y2_width, .inl (g.2.1.1, 9, .inl f_y2_width)), (y2_height, .inl (g.2.1.1, 9, .inl f_y2_height)), (y1_far, .inl (g.2.1.1, 3, .inl fn3198)), (y2_side, .inl (g.2.1.1, 9, .inl f_y2_side)), (y2_from, .inl (g.2.1.1, 9, .inl f_y2_from)), (y2_told, .inl (g.2.1.1, 10, .inl f_y2_told)), (y1, .inr (5, [.ref y1_low, .ref y1_high, .ref y1_normal, .ref y1_corner, .ref y1_east, .ref y1_north, .ref y1_start, .ref y1_far])), (y1_normal, .inl (g.2.1.1, 18, .inl fn3199)), (y1_low, .inl (g.2.1.1, 54, .inl fn3200)), (y1_high, .inl (g.2.1.1, 54, .inl fn3201))] := hD
                    refine zfi (wr := [(h0, .inr (3, [.ref h0_room, .ref h0_clashing, .ref h0_reach, .ref h0_ways, .ref h0_switches, .ref h0_kind, .ref h0_best, .ref h0_row, .int h0_rowLength, .int z3, .int r1, .int h0_first, .int h0_punch])), (h0_clashing, .inl (g.2.1.2.1, 256, .inl f2561)), (y2_toolSet, .inl (g.2.1.1, 9, .inl f_y2_toolSet)), (h0_room, .inl (g.2.1.1, 2048, .inl fn3196)), (y2_radius, .inl (g.2.1.1, 9, .inl f_y2_radius)), (y2_told, .inl (g.2.1.1, 10, .inl f_y2_told))]) (va_runVN (As := [.ref y2, .int v3195, .int r3343]) (rest := [.int r3314, .ref h0_room]) ⟨hx, hb, hml, hown, hG⟩ (kX5_roomFor l g y1 y2 v3195 r3343 y2_count y2_statements y2_thick y2_punch y2_ups y2_toolCount y2_toolWidth y2_told y2_name y2_parent y2_side y2_from y2_width y2_height y2_radius y2_toolSet f_y2_parent f_y2_side y1_low y1_high y1_normal y1_corner y1_east y1_north y1_start y1_far fn3199 f2544 fn3197 f2546 f2545 f_y2_from f_y2_height f_y2_width fn3198 fn3200 fn3201 (ox_241 c3293i f5 hy0 i3290) (ox_33 hq3344) (ox_245 c3293i f5 hy0 i3290) (ox_1 hy1) hy2 hy11 hf3291 hq2552 hq2551 _) ⟨va_cnB 3 hG (zGood wc_X5_roomFor) rfl rfl rfl (hX.2.1.ml wmn_X3_77) (hG _ wini_X5) hX5_roomFor ⟨Nat.le_of_ble_eq_true rfl, Nat.le_of_ble_eq_true rfl⟩, hG _ wi_X5_roomFor, hG _ wse_X5_X5_roomFor⟩ (zpreV (va_recv hX.1 hP (ci := 5) (q0 := 17) rfl rfl) hX hP hD hS hA [4, 5, 14, 17, 18, 8, 7, 10, 9, 15, 12, 11, 13, 19, 20] rfl (by decide)) rfl rfl hl.1 rfl (lv_room (Nat.le_of_ble_eq_true rfl)) dX3_measureRooms_148 ⟨Nat.le_of_ble_eq_true rfl, Nat.le_of_ble_eq_true rfl⟩) hP hD hS hA [4, 5, 14, 17, 18, 8, 7, 10, 9, 15, 12, 11, 13, 19, 20] [0, 1, 2, 3, 6, 16] rfl rfl (by decide) (by decide) (fun r3345 u3346 H locs hp hP hD hS => ?_)
                    refine W.cs (cells' := 0) (slots' := 0) rfl rfl ?_
                    obtain ⟨f3347, f3348, f3349, f3350, f3351⟩ := u3346
                    obtain ⟨hq3352, hq3353⟩ : (aI 0 5 f3347) ∧ (0 ≤ r3345.toInt ∧ r3345.toInt ≤ 99) := hp
                    have hP : va_P g.1 vwCl [(h0, .inr (3, [.ref h0_room, .ref h0_clashing, .ref h0_reach, .ref h0_ways, .ref h0_switches, .ref h0_kind, .ref h0_best, .ref h0_row, .int h0_rowLength, .int z3, .int r1, .int h0_first, .int h0_punch])), (h0_clashing, .inl (g.2.1.2.1, 256, .inl f2561)), (y2_toolSet, .inl (g.2.1.1, 9, .inl f_y2_toolSet)), (h0_room, .inl (g.2.1.1, 2048, .inl fn3196)), (y2_radius, .inl (g.2.1.1, 9, .inl f_y2_radius)), (y2_told, .inl (g.2.1.1, 10, .inl f_y2_told)), (y2, .inr (4, [.int y2_count, .int y2_statements, .int y2_thick, .int y2_punch, .int y2_ups, .int y2_toolCount, .ref y2_toolWidth, .ref y2_told, .ref y2_name, .ref y2_parent, .ref y2_side, .ref y2_from, .ref y2_width, .ref y2_height, .ref y2_radius, .ref y2_toolSet])), (y2_parent, .inl (g.2.1.1, 9, .inl f_y2_parent)), (y2_side, .inl (g.2.1.1, 9, .inl f_y2_side)), (y1, .inr (5, [.ref y1_low, .ref y1_high, .ref y1_normal, .ref y1_corner, .ref y1_east, .ref y1_north, .ref y1_start, .ref y1_far])), (y1_normal, .inl (g.2.1.1, 18, .inl f3347)), (y1_corner, .inl (g.2.1.1, 27, .inl f2544)), (y1_start, .inl (g.2.1.1, 3, .inl f3348)), (y1_north, .inl (g.2.1.1, 9, .inl f2546)), (y1_east, .inl (g.2.1.1, 9, .inl f2545)), (y2_from, .inl (g.2.1.1, 9, .inl f_y2_from)), (y2_height, .inl (g.2.1.1, 9, .inl f_y2_height)), (y2_width, .inl (g.2.1.1, 9, .inl f_y2_width)), (y1_far, .inl (g.2.1.1, 3, .inl f3349)), (y1_low, .inl (g.2.1.1, 54, .inl f3350)), (y1_high, .inl (g.2.1.1, 54, .inl f3351))] H := hP
                    have hD : va_D A [(h0, .inr (3, [.ref h0_room, .ref h0_clashing, .ref h0_reach, .ref h0_ways, .ref h0_switches, .ref h0_kind, .ref h0_best, .ref h0_row, .int h0_rowLength, .int z3, .int r1, .int h0_first, .int h0_punch])), (h0_clashing, .inl (g.2.1.2.1, 256, .inl f2561)), (y2_toolSet, .inl (g.2.1.1, 9, .inl f_y2_toolSet)), (h0_room, .inl (g.2.1.1, 2048, .inl fn3196)), (y2_radius, .inl (g.2.1.1, 9, .inl f_y2_radius)), (y2_told, .inl (g.2.1.1, 10, .inl f_y2_told)), (y2, .inr (4, [.int y2_count, .int y2_statements, .int y2_thick, .int y2_punch, .int y2_ups, .int y2_toolCount, .ref y2_toolWidth, .ref y2_told, .ref y2_name, .ref y2_parent, .ref y2_side, .ref y2_from, .ref y2_width, .ref y2_height, .ref y2_radius, .ref y2_toolSet])), (y2_parent, .inl (g.2.1.1, 9, .inl f_y2_parent)), (y2_side, .inl (g.2.1.1, 9, .inl f_y2_side)), (y1, .inr (5, [.ref y1_low, .ref y1_high, .ref y1_normal, .ref y1_corner, .ref y1_east, .ref y1_north, .ref y1_start, .ref y1_far])), (y1_normal, .inl (g.2.1.1, 18, .inl f3347)), (y1_corner, .inl (g.2.1.1, 27, .inl f2544)), (y1_start, .inl (g.2.1.1, 3, .inl f3348)), (y1_north, .inl (g.2.1.1, 9, .inl f2546)), (y1_east, .inl (g.2.1.1, 9, .inl f2545)), (y2_from, .inl (g.2.1.1, 9, .inl f_y2_from)), (y2_height, .inl (g.2.1.1, 9, .inl f_y2_height)), (y2_width, .inl (g.2.1.1, 9, .inl f_y2_width)), (y1_far, .inl (g.2.1.1, 3, .inl f3349)), (y1_low, .inl (g.2.1.1, 54, .inl f3350)), (y1_high, .inl (g.2.1.1, 54, .inl f3351))] := hD
                    exact J3334 r3345 f3347 f3348 f3349 f3350 f3351 H locs ls (ox_218 hq3353) hq3352 hP hD hS (lv_sub hl [1, 2, 3, 4, 5, 6, 0] rfl)
                  · skip
                    have c3342i : ¬ (v3311.toInt = (0 : Int)) := fun q => c3342 ((zc_eq (rfl : v3311.toInt = _) (show (0 : Int32).toInt = (0 : Int) from by decide)).mpr q)
                    refine lv_iconst (v := 0) hx hb dX3_measureRooms_134 (by decide) ?_
                    refine lv_goto (tgt := 151) hx hb dX3_measureRooms_135 (by decide) ?_
                    exact J3334 (0 : Int32) fn3199 fn3197 fn3198 fn3200 fn3201 H locs ls ((show 0 ≤ (0 : Int) ∧ (0 : Int) ≤ 99 from by decide)) hf3291 (hP.sub [0, 1, 2, 3, 6, 16, 4, 5, 14, 17, 18, 8, 7, 10, 9, 15, 12, 11, 13, 19, 20] rfl) (hD.sub [0, 1, 2, 3, 6, 16, 4, 5, 14, 17, 18, 8, 7, 10, 9, 15, 12, 11, 13, 19, 20] (by decide) rfl) hS (lv_sub hl [1, 2, 3, 4, 5, 6, 0] rfl)
                have J3366 : ∀  (H : Heap) (locs : List Loc) (ls : Array Slot), va_P g.1 vwCl [(h0, .inr (3, [.ref h0_room, .ref h0_clashing, .ref h0_reach, .ref h0_ways, .ref h0_switches, .ref h0_kind, .ref h0_best, .ref h0_row, .int h0_rowLength, .int z3, .int r1, .int h0_first, .int h0_punch])), (h0_clashing, .inl (g.2.1.2.1, 256, .inl f2561)), (y2_toolSet, .inl (g.2.1.1, 9, .inl f_y2_toolSet)), (h0_room, .inl (g.2.1.1, 2048, .inl fn3196)), (y2, .inr (4, [.int y2_count, .int y2_statements, .int y2_thick, .int y2_punch, .int y2_ups, .int y2_toolCount, .ref y2_toolWidth, .ref y2_told, .ref y2_name, .ref y2_parent, .ref y2_side, .ref y2_from, .ref y2_width, .ref y2_height, .ref y2_radius, .ref y2_toolSet])), (y2_parent, .inl (g.2.1.1, 9, .inl f_y2_parent)), (y2_radius, .inl (g.2.1.1, 9, .inl f_y2_radius)), (y1_start, .inl (g.2.1.1, 3, .inl fn3197)), (y1_corner, .inl (g.2.1.1, 27, .inl f2544)), (y1_east, .inl (g.2.1.1, 9, .inl f2545)), (y1_north, .inl (g.2.1.1, 9, .inl f2546)), (y2_width, .inl (g.2.1.1, 9, .inl f_y2_width)), (y2_height, .inl (g.2.1.1, 9, .inl f_y2_height)), (y1_far, .inl (g.2.1.1, 3, .inl fn3198)), (y2_side, .inl (g.2.1.1, 9, .inl f_y2_side)), (y2_from, .inl (g.2.1.1, 9, .inl f_y2_from)), (y2_told, .inl (g.2.1.1, 10, .inl f_y2_told)), (y1, .inr (5, [.ref y1_low, .ref y1_high, .ref y1_normal, .ref y1_corner, .ref y1_east, .ref y1_north, .ref y1_start, .ref y1_far])), (y1_normal, .inl (g.2.1.1, 18, .inl fn3199)), (y1_low, .inl (g.2.1.1, 54, .inl fn3200)), (y1_high, .inl (g.2.1.1, 54, .inl fn3201))] H → va_D A [(h0, .inr (3, [.ref h0_room, .ref h0_clashing, .ref h0_reach, .ref h0_ways, .ref h0_switches, .ref h0_kind, .ref h0_best, .ref h0_row, .int h0_rowLength, .int z3, .int r1, .int h0_first, .int h0_punch])), (h0_clashing, .inl (g.2.1.2.1, 256, .inl f2561)), (y2_toolSet, .inl (g.2.1.1, 9, .inl f_y2_toolSet)), (h0_room, .inl (g.2.1.1, 2048, .inl fn3196)), (y2, .inr (4, [.int y2_count, .int y2_statements, .int y2_thick, .int y2_punch, .int y2_ups, .int y2_toolCount, .ref y2_toolWidth, .ref y2_told, .ref y2_name, .ref y2_parent, .ref y2_side, .ref y2_from, .ref y2_width, .ref y2_height, .ref y2_radius, .ref y2_toolSet])), (y2_parent, .inl (g.2.1.1, 9, .inl f_y2_parent)), (y2_radius, .inl (g.2.1.1, 9, .inl f_y2_radius)), (y1_start, .inl (g.2.1.1, 3, .inl fn3197)), (y1_corner, .inl (g.2.1.1, 27, .inl f2544)), (y1_east, .inl (g.2.1.1, 9, .inl f2545)), (y1_north, .inl (g.2.1.1, 9, .inl f2546)), (y2_width, .inl (g.2.1.1, 9, .inl f_y2_width)), (y2_height, .inl (g.2.1.1, 9, .inl f_y2_height)), (y1_far, .inl (g.2.1.1, 3, .inl fn3198)), (y2_side, .inl (g.2.1.1, 9, .inl f_y2_side)), (y2_from, .inl (g.2.1.1, 9, .inl f_y2_from)), (y2_told, .inl (g.2.1.1, 10, .inl f_y2_told)), (y1, .inr (5, [.ref y1_low, .ref y1_high, .ref y1_normal, .ref y1_corner, .ref y1_east, .ref y1_north, .ref y1_start, .ref y1_far])), (y1_normal, .inl (g.2.1.1, 18, .inl fn3199)), (y1_low, .inl (g.2.1.1, 54, .inl fn3200)), (y1_high, .inl (g.2.1.1, 54, .inl fn3201))] → va_S A s.heap H locs → lv_has ls 7 [(0, .ref h0), (1, .ref y1), (2, .ref y2), (3, .int x3), (4, .int v1685), (5, .int v3195)] → W p l e rm_kX3_measureRooms s m args below meth c H locs 0 0 Q (F0 m 111 ls []) := by
                  intro  H locs ls  hP hD hS hl
                  refine lv_iconst (v := 1) hx hb dX3_measureRooms_111 (by decide) ?_
                  refine lv_goto (tgt := 116) hx hb dX3_measureRooms_112 (by decide) ?_
                  exact J3312 (1 : Int32) H locs ls ((show 0 ≤ (1 : Int) ∧ (1 : Int) ≤ 1 from by decide)) hP hD hS (lv_sub hl [0, 1, 2, 3, 4, 5] rfl)
                refine lv_if_ne (tgt := 111) hx hb dX3_measureRooms_82 (by decide) (fun c3367 => ?_) (fun c3367 => ?_)
                · skip
                  have c3367i : ¬ (r3297.toInt = (0 : Int)) := fun q => c3367 ((zc_eq (rfl : r3297.toInt = _) (show (0 : Int32).toInt = (0 : Int) from by decide)).mpr q)
                  exact J3366 H locs ls  hP hD hS (lv_sub hl [0, 1, 2, 3, 4, 5] rfl)
                · skip
                  have c3367i : r3297.toInt = (0 : Int) := (zc_eq (rfl : r3297.toInt = _) (show (0 : Int32).toInt = (0 : Int) from by decide)).mp c3367
                  refine lv_aload_n hx hb dX3_measureRooms_85 rfl (lv_at hl 2 rfl) ?_
                  refine va_getN (D := g.1) (ci := 4) (v := .ref y2_toolSet) (C := RX4) (T := TX4) (N := 16) hx hb hG iX4 hown hX.1 hP 4 rfl rfl 15 (by decide) (hX.2.1.fl wfn_X3_67) (fun _ h9 => h9) rfl dX3_measureRooms_86 ?_
                  refine lv_iload hx hb dX3_measureRooms_89 (lv_at hl 5 rfl) ?_
                  refine va_iald hx hb hX.1 hP 2 0 rfl rfl (zin (rfl : v3195.toInt = _) (ox_246 c3293i f5 hy0 i3290)) dX3_measureRooms_91 ?_
                  refine lv_topi (fun z3368 e3369 => ?_)
                  refine lv_if_eq (tgt := 111) hx hb dX3_measureRooms_92 (by decide) (fun c3370 => ?_) (fun c3370 => ?_)
                  · skip
                    have c3370i : z3368.toInt = (0 : Int) := (zc_eq (rfl : z3368.toInt = _) (show (0 : Int32).toInt = (0 : Int) from by decide)).mp c3370
                    exact J3366 H locs ls  hP hD hS (lv_sub hl [0, 1, 2, 3, 4, 5] rfl)
                  · skip
                    have c3370i : ¬ (z3368.toInt = (0 : Int)) := fun q => c3370 ((zc_eq (rfl : z3368.toInt = _) (show (0 : Int32).toInt = (0 : Int) from by decide)).mpr q)
                    refine lv_aload_n hx hb dX3_measureRooms_95 rfl (lv_at hl 0 rfl) ?_
                    refine va_get (D := g.1) (ci := 3) (v := .ref h0_clashing) (C := RX3) (T := TX3) (N := 13) hx hb hG iX3 hown hX.1 hP 0 rfl rfl 1 (by decide) (hG _ wf_X3_15) (fun _ h9 => h9) rfl dX3_measureRooms_96 ?_
                    refine lv_iload hx hb dX3_measureRooms_99 (lv_at hl 4 rfl) ?_
                    refine lv_iload hx hb dX3_measureRooms_101 (lv_at hl 5 rfl) ?_
                    refine zfi (wr := [(h0, .inr (3, [.ref h0_room, .ref h0_clashing, .ref h0_reach, .ref h0_ways, .ref h0_switches, .ref h0_kind, .ref h0_best, .ref h0_row, .int h0_rowLength, .int z3, .int r1, .int h0_first, .int h0_punch])), (h0_clashing, .inl (g.2.1.2.1, 256, .inl f2561)), (y2_toolSet, .inl (g.2.1.1, 9, .inl f_y2_toolSet)), (h0_room, .inl (g.2.1.1, 2048, .inl fn3196)), (y2, .inr (4, [.int y2_count, .int y2_statements, .int y2_thick, .int y2_punch, .int y2_ups, .int y2_toolCount, .ref y2_toolWidth, .ref y2_told, .ref y2_name, .ref y2_parent, .ref y2_side, .ref y2_from, .ref y2_width, .ref y2_height, .ref y2_radius, .ref y2_toolSet])), (y2_parent, .inl (g.2.1.1, 9, .inl f_y2_parent)), (y2_radius, .inl (g.2.1.1, 9, .inl f_y2_radius)), (y1_start, .inl (g.2.1.1, 3, .inl fn3197)), (y1_corner, .inl (g.2.1.1, 27, .inl f2544)), (y1_east, .inl (g.2.1.1, 9, .inl f2545)), (y1_north, .inl (g.2.1.1, 9, .inl f2546)), (y2_width, .inl (g.2.1.1, 9, .inl f_y2_width)), (y2_height, .inl (g.2.1.1, 9, .inl f_y2_height)), (y1_far, .inl (g.2.1.1, 3, .inl fn3198)), (y2_side, .inl (g.2.1.1, 9, .inl f_y2_side)), (y2_from, .inl (g.2.1.1, 9, .inl f_y2_from)), (y2_told, .inl (g.2.1.1, 10, .inl f_y2_told)), (y1, .inr (5, [.ref y1_low, .ref y1_high, .ref y1_normal, .ref y1_corner, .ref y1_east, .ref y1_north, .ref y1_start, .ref y1_far])), (y1_normal, .inl (g.2.1.1, 18, .inl fn3199)), (y1_low, .inl (g.2.1.1, 54, .inl fn3200)), (y1_high, .inl (g.2.1.1, 54, .inl fn3201))]) (va_runSN (As := [.int v3195]) (rest := [.int v1685, .ref h0_clashing]) ⟨hx, hb, hml, hown, hG⟩ (kX8_bitb l g v3195 (ox_241 c3293i f5 hy0 i3290) _) ⟨va_cnB 1 hG (zGood wc_X8_bit) rfl rfl rfl (hX.2.1.ml wmn_X3_70) (hG _ wini_X8) hX8_bit ⟨Nat.le_of_ble_eq_true rfl, Nat.le_of_ble_eq_true rfl⟩, hG _ ws_X8_bit, trivial⟩ (zpreS hX hP hD hS hA [] rfl (by decide)) rfl rfl hl.1 rfl (lv_room (Nat.le_of_ble_eq_true rfl)) dX3_measureRooms_103 ⟨Nat.le_of_ble_eq_true rfl, Nat.le_of_ble_eq_true rfl⟩) hP hD hS hA [] [0, 1, 2, 3, 4, 5, 6, 7, 8, 9, 10, 11, 12, 13, 14, 15, 16, 17, 18, 19, 20] rfl rfl (by decide) (by decide) (fun r3371 _ H locs hp hP hD hS => ?_)
                    refine W.cs (cells' := 0) (slots' := 0) rfl rfl ?_
                    have hq3372 : 1 ≤ r3371.toInt ∧ r3371.toInt ≤ 128 := hp
                    have hP : va_P g.1 vwCl [(h0, .inr (3, [.ref h0_room, .ref h0_clashing, .ref h0_reach, .ref h0_ways, .ref h0_switches, .ref h0_kind, .ref h0_best, .ref h0_row, .int h0_rowLength, .int z3, .int r1, .int h0_first, .int h0_punch])), (h0_clashing, .inl (g.2.1.2.1, 256, .inl f2561)), (y2_toolSet, .inl (g.2.1.1, 9, .inl f_y2_toolSet)), (h0_room, .inl (g.2.1.1, 2048, .inl fn3196)), (y2, .inr (4, [.int y2_count, .int y2_statements, .int y2_thick, .int y2_punch, .int y2_ups, .int y2_toolCount, .ref y2_toolWidth, .ref y2_told, .ref y2_name, .ref y2_parent, .ref y2_side, .ref y2_from, .ref y2_width, .ref y2_height, .ref y2_radius, .ref y2_toolSet])), (y2_parent, .inl (g.2.1.1, 9, .inl f_y2_parent)), (y2_radius, .inl (g.2.1.1, 9, .inl f_y2_radius)), (y1_start, .inl (g.2.1.1, 3, .inl fn3197)), (y1_corner, .inl (g.2.1.1, 27, .inl f2544)), (y1_east, .inl (g.2.1.1, 9, .inl f2545)), (y1_north, .inl (g.2.1.1, 9, .inl f2546)), (y2_width, .inl (g.2.1.1, 9, .inl f_y2_width)), (y2_height, .inl (g.2.1.1, 9, .inl f_y2_height)), (y1_far, .inl (g.2.1.1, 3, .inl fn3198)), (y2_side, .inl (g.2.1.1, 9, .inl f_y2_side)), (y2_from, .inl (g.2.1.1, 9, .inl f_y2_from)), (y2_told, .inl (g.2.1.1, 10, .inl f_y2_told)), (y1, .inr (5, [.ref y1_low, .ref y1_high, .ref y1_normal, .ref y1_corner, .ref y1_east, .ref y1_north, .ref y1_start, .ref y1_far])), (y1_normal, .inl (g.2.1.1, 18, .inl fn3199)), (y1_low, .inl (g.2.1.1, 54, .inl fn3200)), (y1_high, .inl (g.2.1.1, 54, .inl fn3201))] H := hP
                    have hD : va_D A [(h0, .inr (3, [.ref h0_room, .ref h0_clashing, .ref h0_reach, .ref h0_ways, .ref h0_switches, .ref h0_kind, .ref h0_best, .ref h0_row, .int h0_rowLength, .int z3, .int r1, .int h0_first, .int h0_punch])), (h0_clashing, .inl (g.2.1.2.1, 256, .inl f2561)), (y2_toolSet, .inl (g.2.1.1, 9, .inl f_y2_toolSet)), (h0_room, .inl (g.2.1.1, 2048, .inl fn3196)), (y2, .inr (4, [.int y2_count, .int y2_statements, .int y2_thick, .int y2_punch, .int y2_ups, .int y2_toolCount, .ref y2_toolWidth, .ref y2_told, .ref y2_name, .ref y2_parent, .ref y2_side, .ref y2_from, .ref y2_width, .ref y2_height, .ref y2_radius, .ref y2_toolSet])), (y2_parent, .inl (g.2.1.1, 9, .inl f_y2_parent)), (y2_radius, .inl (g.2.1.1, 9, .inl f_y2_radius)), (y1_start, .inl (g.2.1.1, 3, .inl fn3197)), (y1_corner, .inl (g.2.1.1, 27, .inl f2544)), (y1_east, .inl (g.2.1.1, 9, .inl f2545)), (y1_north, .inl (g.2.1.1, 9, .inl f2546)), (y2_width, .inl (g.2.1.1, 9, .inl f_y2_width)), (y2_height, .inl (g.2.1.1, 9, .inl f_y2_height)), (y1_far, .inl (g.2.1.1, 3, .inl fn3198)), (y2_side, .inl (g.2.1.1, 9, .inl f_y2_side)), (y2_from, .inl (g.2.1.1, 9, .inl f_y2_from)), (y2_told, .inl (g.2.1.1, 10, .inl f_y2_told)), (y1, .inr (5, [.ref y1_low, .ref y1_high, .ref y1_normal, .ref y1_corner, .ref y1_east, .ref y1_north, .ref y1_start, .ref y1_far])), (y1_normal, .inl (g.2.1.1, 18, .inl fn3199)), (y1_low, .inl (g.2.1.1, 54, .inl fn3200)), (y1_high, .inl (g.2.1.1, 54, .inl fn3201))] := hD
                    refine lv_ior hx hb dX3_measureRooms_106 ?_
                    refine lv_topi (fun z3373 e3374 => ?_)
                    have f3375 : 0 ≤ z3373.toInt ∧ z3373.toInt < 256 := zor 8 e3374 (rfl : v1685.toInt = _) (rfl : r3371.toInt = _) (by decide) (ox_247 c2540i hq3372 i2535)
                    refine va_bald hx hb hX.1 hP 1 1 rfl rfl (zin (rfl : z3373.toInt = _) (ox_248 f3375)) dX3_measureRooms_107 ?_
                    refine lv_topi (fun z3376 e3377 => ?_)
                    refine lv_if_eq (tgt := 115) hx hb dX3_measureRooms_108 (by decide) (fun c3378 => ?_) (fun c3378 => ?_)
                    · skip
                      have c3378i : z3376.toInt = (0 : Int) := (zc_eq (rfl : z3376.toInt = _) (show (0 : Int32).toInt = (0 : Int) from by decide)).mp c3378
                      refine lv_iconst (v := 0) hx hb dX3_measureRooms_115 (by decide) ?_
                      exact J3312 (0 : Int32) H locs ls ((show 0 ≤ (0 : Int) ∧ (0 : Int) ≤ 1 from by decide)) hP hD hS (lv_sub hl [0, 1, 2, 3, 4, 5] rfl)
                    · skip
                      have c3378i : ¬ (z3376.toInt = (0 : Int)) := fun q => c3378 ((zc_eq (rfl : z3376.toInt = _) (show (0 : Int32).toInt = (0 : Int) from by decide)).mpr q)
                      exact J3366 H locs ls  hP hD hS (lv_sub hl [0, 1, 2, 3, 4, 5] rfl)
          exact L3287 _ (1 : Int32) fn1695 f2543 f2548 f2547 f2549 f2550 H locs ls ((show 1 ≤ (1 : Int) ∧ (1 : Int) ≤ 9 from by decide)) hq2553 (Nat.lt_succ_self _) hP hD hS (lv_sub hl [1, 2, 3, 4, 5, 0] rfl)
        refine lv_icmp_eq (tgt := 60) hx hb dX3_measureRooms_53 (by decide) (fun c3379 => ?_) (fun c3379 => ?_)
        · skip
          have c3379i : r2554.toInt = (-1 : Int) := (zc_eq (rfl : r2554.toInt = _) (show (-1 : Int32).toInt = (-1 : Int) from by decide)).mp c3379
          refine lv_iconst (v := 0) hx hb dX3_measureRooms_60 (by decide) ?_
          exact J2557 (0 : Int32) H locs ls ((show 0 ≤ (0 : Int) ∧ (0 : Int) ≤ 1 from by decide)) hP hD hS (lv_sub hl [0, 1, 2, 3, 4] rfl)
        · skip
          have c3379i : ¬ (r2554.toInt = (-1 : Int)) := fun q => c3379 ((zc_eq (rfl : r2554.toInt = _) (show (-1 : Int32).toInt = (-1 : Int) from by decide)).mpr q)
          refine lv_iconst (v := 1) hx hb dX3_measureRooms_56 (by decide) ?_
          refine lv_goto (tgt := 61) hx hb dX3_measureRooms_57 (by decide) ?_
          exact J2557 (1 : Int32) H locs ls ((show 0 ≤ (1 : Int) ∧ (1 : Int) ≤ 1 from by decide)) hP hD hS (lv_sub hl [0, 1, 2, 3, 4] rfl)
  exact L2532 _ r1 f_y1_start f_y1_corner f_y1_east f_y1_north f_y1_normal f_y1_far f_y1_low f_y1_high f_h0_clashing f_h0_room H locs ls (ox_249 hq2) hy8 hy9 hy10 (Nat.lt_succ_self _) hP hD hS (lv_sub hl [1, 2, 3, 4, 0] rfl)
theorem dX3_searchFrom_0 : decode cX3_searchFrom 0 = .ok (.aload_n 0, 1) := by decide +kernel
theorem dX3_searchFrom_1 : decode cX3_searchFrom 1 = .ok (.iload_n 1, 1) := by decide +kernel
theorem dX3_searchFrom_2 : decode cX3_searchFrom 2 = .ok (.putfield 84, 3) := by decide +kernel
theorem dX3_searchFrom_5 : decode cX3_searchFrom 5 = .ok (.aload_n 0, 1) := by decide +kernel
theorem dX3_searchFrom_6 : decode cX3_searchFrom 6 = .ok (.iconst 1, 1) := by decide +kernel
theorem dX3_searchFrom_7 : decode cX3_searchFrom 7 = .ok (.iload_n 2, 1) := by decide +kernel
theorem dX3_searchFrom_8 : decode cX3_searchFrom 8 = .ok (.invokestatic 87, 3) := by decide +kernel
theorem dX3_searchFrom_11 : decode cX3_searchFrom 11 = .ok (.putfield 81, 3) := by decide +kernel
theorem dX3_searchFrom_14 : decode cX3_searchFrom 14 = .ok (.aload_n 0, 1) := by decide +kernel
theorem dX3_searchFrom_15 : decode cX3_searchFrom 15 = .ok (.getfield 19, 3) := by decide +kernel
theorem dX3_searchFrom_18 : decode cX3_searchFrom 18 = .ok (.iconst 0, 1) := by decide +kernel
theorem dX3_searchFrom_19 : decode cX3_searchFrom 19 = .ok (.invokestatic 92, 3) := by decide +kernel
theorem dX3_searchFrom_22 : decode cX3_searchFrom 22 = .ok (.aload_n 0, 1) := by decide +kernel
theorem dX3_searchFrom_23 : decode cX3_searchFrom 23 = .ok (.getfield 22, 3) := by decide +kernel
theorem dX3_searchFrom_26 : decode cX3_searchFrom 26 = .ok (.iconst 0, 1) := by decide +kernel
theorem dX3_searchFrom_27 : decode cX3_searchFrom 27 = .ok (.invokestatic 98, 3) := by decide +kernel
theorem dX3_searchFrom_30 : decode cX3_searchFrom 30 = .ok (.aload_n 0, 1) := by decide +kernel
theorem dX3_searchFrom_31 : decode cX3_searchFrom 31 = .ok (.getfield 19, 3) := by decide +kernel
theorem dX3_searchFrom_34 : decode cX3_searchFrom 34 = .ok (.aload_n 0, 1) := by decide +kernel
theorem dX3_searchFrom_35 : decode cX3_searchFrom 35 = .ok (.getfield 84, 3) := by decide +kernel
theorem dX3_searchFrom_38 : decode cX3_searchFrom 38 = .ok (.iconst 1, 1) := by decide +kernel
theorem dX3_searchFrom_39 : decode cX3_searchFrom 39 = .ok (.bastore, 1) := by decide +kernel
theorem dX3_searchFrom_40 : decode cX3_searchFrom 40 = .ok (.aload_n 0, 1) := by decide +kernel
theorem dX3_searchFrom_41 : decode cX3_searchFrom 41 = .ok (.getfield 84, 3) := by decide +kernel
theorem dX3_searchFrom_44 : decode cX3_searchFrom 44 = .ok (.istore_n 3, 1) := by decide +kernel
theorem dX3_searchFrom_45 : decode cX3_searchFrom 45 = .ok (.iload_n 3, 1) := by decide +kernel
theorem dX3_searchFrom_46 : decode cX3_searchFrom 46 = .ok (.aload_n 0, 1) := by decide +kernel
theorem dX3_searchFrom_47 : decode cX3_searchFrom 47 = .ok (.getfield 43, 3) := by decide +kernel
theorem dX3_searchFrom_50 : decode cX3_searchFrom 50 = .ok (.if_icmp .gt 58, 3) := by decide +kernel
theorem dX3_searchFrom_108 : decode cX3_searchFrom 108 = .ok (.aload_n 0, 1) := by decide +kernel
theorem dX3_searchFrom_109 : decode cX3_searchFrom 109 = .ok (.getfield 22, 3) := by decide +kernel
theorem dX3_searchFrom_112 : decode cX3_searchFrom 112 = .ok (.aload_n 0, 1) := by decide +kernel
theorem dX3_searchFrom_113 : decode cX3_searchFrom 113 = .ok (.getfield 43, 3) := by decide +kernel
theorem dX3_searchFrom_116 : decode cX3_searchFrom 116 = .ok (.aload_n 0, 1) := by decide +kernel
theorem dX3_searchFrom_117 : decode cX3_searchFrom 117 = .ok (.getfield 19, 3) := by decide +kernel
theorem dX3_searchFrom_120 : decode cX3_searchFrom 120 = .ok (.aload_n 0, 1) := by decide +kernel
theorem dX3_searchFrom_121 : decode cX3_searchFrom 121 = .ok (.getfield 43, 3) := by decide +kernel
theorem dX3_searchFrom_124 : decode cX3_searchFrom 124 = .ok (.baload, 1) := by decide +kernel
theorem dX3_searchFrom_125 : decode cX3_searchFrom 125 = .ok (.iastore, 1) := by decide +kernel
theorem dX3_searchFrom_126 : decode cX3_searchFrom 126 = .ok (.aload_n 0, 1) := by decide +kernel
theorem dX3_searchFrom_127 : decode cX3_searchFrom 127 = .ok (.getfield 43, 3) := by decide +kernel
theorem dX3_searchFrom_130 : decode cX3_searchFrom 130 = .ok (.iconst 1, 1) := by decide +kernel
theorem dX3_searchFrom_131 : decode cX3_searchFrom 131 = .ok (.isub, 1) := by decide +kernel
theorem dX3_searchFrom_132 : decode cX3_searchFrom 132 = .ok (.istore_n 3, 1) := by decide +kernel
theorem dX3_searchFrom_133 : decode cX3_searchFrom 133 = .ok (.iload_n 3, 1) := by decide +kernel
theorem dX3_searchFrom_134 : decode cX3_searchFrom 134 = .ok (.aload_n 0, 1) := by decide +kernel
theorem dX3_searchFrom_135 : decode cX3_searchFrom 135 = .ok (.getfield 84, 3) := by decide +kernel
theorem dX3_searchFrom_138 : decode cX3_searchFrom 138 = .ok (.if_icmp .lt 70, 3) := by decide +kernel
theorem dX3_searchFrom_208 : decode cX3_searchFrom 208 = .ok (.return_, 1) := by decide +kernel
theorem dX3_searchFrom_141 : decode cX3_searchFrom 141 = .ok (.iconst 1, 1) := by decide +kernel
theorem dX3_searchFrom_142 : decode cX3_searchFrom 142 = .ok (.istore 4, 2) := by decide +kernel
theorem dX3_searchFrom_144 : decode cX3_searchFrom 144 = .ok (.iload 4, 2) := by decide +kernel
theorem dX3_searchFrom_146 : decode cX3_searchFrom 146 = .ok (.aload_n 0, 1) := by decide +kernel
theorem dX3_searchFrom_147 : decode cX3_searchFrom 147 = .ok (.getfield 50, 3) := by decide +kernel
theorem dX3_searchFrom_202 : decode cX3_searchFrom 202 = .ok (.iinc 3 (-1), 3) := by decide +kernel
theorem dX3_searchFrom_205 : decode cX3_searchFrom 205 = .ok (.goto (-72), 3) := by decide +kernel
theorem dX3_searchFrom_150 : decode cX3_searchFrom 150 = .ok (.if_icmp .gt 52, 3) := by decide +kernel
theorem dX3_searchFrom_153 : decode cX3_searchFrom 153 = .ok (.aload_n 0, 1) := by decide +kernel
theorem dX3_searchFrom_154 : decode cX3_searchFrom 154 = .ok (.iload_n 3, 1) := by decide +kernel
theorem dX3_searchFrom_155 : decode cX3_searchFrom 155 = .ok (.invokevirtual 101, 3) := by decide +kernel
theorem dX3_searchFrom_158 : decode cX3_searchFrom 158 = .ok (.ifCond .eq 44, 3) := by decide +kernel
theorem dX3_searchFrom_161 : decode cX3_searchFrom 161 = .ok (.aload_n 0, 1) := by decide +kernel
theorem dX3_searchFrom_162 : decode cX3_searchFrom 162 = .ok (.getfield 22, 3) := by decide +kernel
theorem dX3_searchFrom_165 : decode cX3_searchFrom 165 = .ok (.iload_n 3, 1) := by decide +kernel
theorem dX3_searchFrom_166 : decode cX3_searchFrom 166 = .ok (.dup2, 1) := by decide +kernel
theorem dX3_searchFrom_167 : decode cX3_searchFrom 167 = .ok (.iaload, 1) := by decide +kernel
theorem dX3_searchFrom_168 : decode cX3_searchFrom 168 = .ok (.aload_n 0, 1) := by decide +kernel
theorem dX3_searchFrom_169 : decode cX3_searchFrom 169 = .ok (.iload_n 3, 1) := by decide +kernel
theorem dX3_searchFrom_170 : decode cX3_searchFrom 170 = .ok (.iload 4, 2) := by decide +kernel
theorem dX3_searchFrom_172 : decode cX3_searchFrom 172 = .ok (.invokevirtual 105, 3) := by decide +kernel
theorem dX3_searchFrom_194 : decode cX3_searchFrom 194 = .ok (.iadd, 1) := by decide +kernel
theorem dX3_searchFrom_195 : decode cX3_searchFrom 195 = .ok (.iastore, 1) := by decide +kernel
theorem dX3_searchFrom_196 : decode cX3_searchFrom 196 = .ok (.iinc 4 1, 3) := by decide +kernel
theorem dX3_searchFrom_199 : decode cX3_searchFrom 199 = .ok (.goto (-55), 3) := by decide +kernel
theorem dX3_searchFrom_175 : decode cX3_searchFrom 175 = .ok (.ifCond .eq 18, 3) := by decide +kernel
theorem dX3_searchFrom_193 : decode cX3_searchFrom 193 = .ok (.iconst 0, 1) := by decide +kernel
theorem dX3_searchFrom_178 : decode cX3_searchFrom 178 = .ok (.aload_n 0, 1) := by decide +kernel
theorem dX3_searchFrom_179 : decode cX3_searchFrom 179 = .ok (.getfield 22, 3) := by decide +kernel
theorem dX3_searchFrom_182 : decode cX3_searchFrom 182 = .ok (.iload_n 3, 1) := by decide +kernel
theorem dX3_searchFrom_183 : decode cX3_searchFrom 183 = .ok (.iload 4, 2) := by decide +kernel
theorem dX3_searchFrom_185 : decode cX3_searchFrom 185 = .ok (.invokestatic 70, 3) := by decide +kernel
theorem dX3_searchFrom_188 : decode cX3_searchFrom 188 = .ok (.ior, 1) := by decide +kernel
theorem dX3_searchFrom_189 : decode cX3_searchFrom 189 = .ok (.iaload, 1) := by decide +kernel
theorem dX3_searchFrom_190 : decode cX3_searchFrom 190 = .ok (.goto 4, 3) := by decide +kernel
theorem dX3_searchFrom_53 : decode cX3_searchFrom 53 = .ok (.iconst 1, 1) := by decide +kernel
theorem dX3_searchFrom_54 : decode cX3_searchFrom 54 = .ok (.istore 4, 2) := by decide +kernel
theorem dX3_searchFrom_56 : decode cX3_searchFrom 56 = .ok (.iload 4, 2) := by decide +kernel
theorem dX3_searchFrom_58 : decode cX3_searchFrom 58 = .ok (.aload_n 0, 1) := by decide +kernel
theorem dX3_searchFrom_59 : decode cX3_searchFrom 59 = .ok (.getfield 50, 3) := by decide +kernel
theorem dX3_searchFrom_102 : decode cX3_searchFrom 102 = .ok (.iinc 3 1, 3) := by decide +kernel
theorem dX3_searchFrom_105 : decode cX3_searchFrom 105 = .ok (.goto (-60), 3) := by decide +kernel
theorem dX3_searchFrom_62 : decode cX3_searchFrom 62 = .ok (.if_icmp .gt 40, 3) := by decide +kernel
theorem dX3_searchFrom_65 : decode cX3_searchFrom 65 = .ok (.aload_n 0, 1) := by decide +kernel
theorem dX3_searchFrom_66 : decode cX3_searchFrom 66 = .ok (.iload_n 3, 1) := by decide +kernel
theorem dX3_searchFrom_67 : decode cX3_searchFrom 67 = .ok (.invokevirtual 101, 3) := by decide +kernel
theorem dX3_searchFrom_70 : decode cX3_searchFrom 70 = .ok (.ifCond .eq 32, 3) := by decide +kernel
theorem dX3_searchFrom_73 : decode cX3_searchFrom 73 = .ok (.aload_n 0, 1) := by decide +kernel
theorem dX3_searchFrom_74 : decode cX3_searchFrom 74 = .ok (.iload_n 3, 1) := by decide +kernel
theorem dX3_searchFrom_75 : decode cX3_searchFrom 75 = .ok (.iload 4, 2) := by decide +kernel
theorem dX3_searchFrom_77 : decode cX3_searchFrom 77 = .ok (.invokevirtual 105, 3) := by decide +kernel
theorem dX3_searchFrom_96 : decode cX3_searchFrom 96 = .ok (.iinc 4 1, 3) := by decide +kernel
theorem dX3_searchFrom_99 : decode cX3_searchFrom 99 = .ok (.goto (-43), 3) := by decide +kernel
theorem dX3_searchFrom_80 : decode cX3_searchFrom 80 = .ok (.ifCond .eq 16, 3) := by decide +kernel
theorem dX3_searchFrom_83 : decode cX3_searchFrom 83 = .ok (.aload_n 0, 1) := by decide +kernel
theorem dX3_searchFrom_84 : decode cX3_searchFrom 84 = .ok (.getfield 19, 3) := by decide +kernel
theorem dX3_searchFrom_87 : decode cX3_searchFrom 87 = .ok (.iload_n 3, 1) := by decide +kernel
theorem dX3_searchFrom_88 : decode cX3_searchFrom 88 = .ok (.iload 4, 2) := by decide +kernel
theorem dX3_searchFrom_90 : decode cX3_searchFrom 90 = .ok (.invokestatic 70, 3) := by decide +kernel
theorem dX3_searchFrom_93 : decode cX3_searchFrom 93 = .ok (.ior, 1) := by decide +kernel
theorem dX3_searchFrom_94 : decode cX3_searchFrom 94 = .ok (.iconst 1, 1) := by decide +kernel
theorem dX3_searchFrom_95 : decode cX3_searchFrom 95 = .ok (.bastore, 1) := by decide +kernel
abbrev rm_kX3_searchFrom : Room := { frames := 2, cells := 0, slots := 0, locals := 43 }
set_option maxHeartbeats 4000000 in
set_option maxRecDepth 100000 in
theorem kX3_searchFrom (l : Launch) (g : zL) (h0 : Nat) (x1 : Int32) (x2 : Int32) (h0_room : Nat) (h0_clashing : Nat) (h0_reach : Nat) (h0_ways : Nat) (h0_switches : Nat) (h0_kind : Nat) (h0_best : Nat) (h0_row : Nat) (h0_rowLength : Int32) (h0_bends : Int32) (h0_full : Int32) (h0_first : Int32) (h0_punch : Int32) (f_h0_reach : Nat → Int32) (f_h0_ways : Nat → Int32) (f_h0_room : Nat → Int32) (hy0 : 0 ≤ x1.toInt ∧ x1.toInt ≤ 255) (hy1 : 0 ≤ h0_rowLength.toInt ∧ h0_rowLength.toInt ≤ 8) (hy2 : (-1) ≤ h0_bends.toInt ∧ h0_bends.toInt ≤ 8) (hy3 : 0 ≤ h0_full.toInt ∧ h0_full.toInt ≤ 255) (hy4 : 0 ≤ h0_first.toInt ∧ h0_first.toInt ≤ 255) : zCv l g yX3_searchFrom cX3_searchFrom 5 none rm_kX3_searchFrom [.ref h0, .int x1, .int x2] [(h0, .inr (3, [.ref h0_room, .ref h0_clashing, .ref h0_reach, .ref h0_ways, .ref h0_switches, .ref h0_kind, .ref h0_best, .ref h0_row, .int h0_rowLength, .int h0_bends, .int h0_full, .int h0_first, .int h0_punch])), (h0_reach, .inl (g.2.1.2.1, 256, .inl f_h0_reach)), (h0_ways, .inl (g.2.1.1, 256, .inl f_h0_ways)), (h0_room, .inl (g.2.1.1, 2048, .inl f_h0_room))] (fun (u : Int32 × (Nat → Int32) × (Nat → Int32)) => (1 ≤ u.1.toInt ∧ u.1.toInt ≤ 2147483647)) (fun (u : Int32 × (Nat → Int32) × (Nat → Int32)) => [(h0, .inr (3, [.ref h0_room, .ref h0_clashing, .ref h0_reach, .ref h0_ways, .ref h0_switches, .ref h0_kind, .ref h0_best, .ref h0_row, .int h0_rowLength, .int h0_bends, .int h0_full, .int x1, .int u.1])), (h0_reach, .inl (g.2.1.2.1, 256, .inl u.2.1)), (h0_ways, .inl (g.2.1.1, 256, .inl u.2.2)), (h0_room, .inl (g.2.1.1, 2048, .inl f_h0_room))]) := by
  refine zCv.mk2 (by decide) (Nat.le_of_ble_eq_true rfl) ?_
  intro p e s m below meth c A args Q hE hret hP hD hS ls hl
  obtain ⟨hx, hb, hr, hml, hown, hG, hlocks, hnm, hX, hA⟩ := hE
  have hown : s.vm.findClass RX3 = some m.cls := hown
  have hl : lv_has ls 5 [(0, .ref h0), (1, .int x1), (2, .int x2)] := hl
  refine lv_aload_n hx hb dX3_searchFrom_0 rfl (lv_at hl 0 rfl) ?_
  refine lv_iload_n hx hb dX3_searchFrom_1 rfl (lv_at hl 1 rfl) ?_
  refine va_put (D := g.1) (ci := 3) (v := .int x1) (ty := .int) (C := RX3) (T := TX3) (N := 13) hx hb hG iX3 tyX3 tyX3_ok nmX3 hown hX.1 hP hD hS 0 rfl rfl 11 (by decide) (hG _ wf_X3_84) (fun _ h9 => h9) rfl (by decide +kernel) rfl rfl (Nat.le_of_ble_eq_true rfl) dX3_searchFrom_2 (fun H locs hP hD hS => ?_)
  have hP : va_P g.1 vwCl [(h0, .inr (3, [.ref h0_room, .ref h0_clashing, .ref h0_reach, .ref h0_ways, .ref h0_switches, .ref h0_kind, .ref h0_best, .ref h0_row, .int h0_rowLength, .int h0_bends, .int h0_full, .int x1, .int h0_punch])), (h0_reach, .inl (g.2.1.2.1, 256, .inl f_h0_reach)), (h0_ways, .inl (g.2.1.1, 256, .inl f_h0_ways)), (h0_room, .inl (g.2.1.1, 2048, .inl f_h0_room))] H := hP
  have hD : va_D A [(h0, .inr (3, [.ref h0_room, .ref h0_clashing, .ref h0_reach, .ref h0_ways, .ref h0_switches, .ref h0_kind, .ref h0_best, .ref h0_row, .int h0_rowLength, .int h0_bends, .int h0_full, .int x1, .int h0_punch])), (h0_reach, .inl (g.2.1.2.1, 256, .inl f_h0_reach)), (h0_ways, .inl (g.2.1.1, 256, .inl f_h0_ways)), (h0_room, .inl (g.2.1.1, 2048, .inl f_h0_room))] := hD
  refine lv_aload_n hx hb dX3_searchFrom_5 rfl (lv_at hl 0 rfl) ?_
  refine lv_iconst (v := 1) hx hb dX3_searchFrom_6 (by decide) ?_
  refine lv_iload_n hx hb dX3_searchFrom_7 rfl (lv_at hl 2 rfl) ?_
  refine va_mmax hx hb (by rw [hml]; exact hl.1.symm) hown (hG _ wm_X3_87) (hG _ ws_J9_max_7cf53) (hG _ wini_J9) (hG _ wc_J9_max_7cf53) (Nat.le_of_ble_eq_true rfl) (Nat.le_of_ble_eq_true rfl) (Nat.le_of_ble_eq_true rfl) (Nat.le_of_ble_eq_true rfl) dX3_searchFrom_8 ?_
  refine lv_topi (fun z1 e2 => ?_)
  have f3 : z1.toInt ≥ (1 : Int) ∧ z1.toInt ≥ x2.toInt ∧ (z1.toInt = (1 : Int) ∨ z1.toInt = x2.toInt) := zmx e2 (show (1 : Int32).toInt = (1 : Int) from by decide) (rfl : x2.toInt = _)
  refine va_put (D := g.1) (ci := 3) (v := .int z1) (ty := .int) (C := RX3) (T := TX3) (N := 13) hx hb hG iX3 tyX3 tyX3_ok nmX3 hown hX.1 hP hD hS 0 rfl rfl 12 (by decide) (hG _ wf_X3_81) (fun _ h9 => h9) rfl (by decide +kernel) rfl rfl (Nat.le_of_ble_eq_true rfl) dX3_searchFrom_11 (fun H locs hP hD hS => ?_)
  have hP : va_P g.1 vwCl [(h0, .inr (3, [.ref h0_room, .ref h0_clashing, .ref h0_reach, .ref h0_ways, .ref h0_switches, .ref h0_kind, .ref h0_best, .ref h0_row, .int h0_rowLength, .int h0_bends, .int h0_full, .int x1, .int z1])), (h0_reach, .inl (g.2.1.2.1, 256, .inl f_h0_reach)), (h0_ways, .inl (g.2.1.1, 256, .inl f_h0_ways)), (h0_room, .inl (g.2.1.1, 2048, .inl f_h0_room))] H := hP
  have hD : va_D A [(h0, .inr (3, [.ref h0_room, .ref h0_clashing, .ref h0_reach, .ref h0_ways, .ref h0_switches, .ref h0_kind, .ref h0_best, .ref h0_row, .int h0_rowLength, .int h0_bends, .int h0_full, .int x1, .int z1])), (h0_reach, .inl (g.2.1.2.1, 256, .inl f_h0_reach)), (h0_ways, .inl (g.2.1.1, 256, .inl f_h0_ways)), (h0_room, .inl (g.2.1.1, 2048, .inl f_h0_room))] := hD
  refine lv_aload_n hx hb dX3_searchFrom_14 rfl (lv_at hl 0 rfl) ?_
  refine va_get (D := g.1) (ci := 3) (v := .ref h0_reach) (C := RX3) (T := TX3) (N := 13) hx hb hG iX3 hown hX.1 hP 0 rfl rfl 2 (by decide) (hG _ wf_X3_19) (fun _ h9 => h9) rfl dX3_searchFrom_15 ?_
  refine lv_iconst (v := 0) hx hb dX3_searchFrom_18 (by decide) ?_
  refine zfv (wr := [(h0, .inr (3, [.ref h0_room, .ref h0_clashing, .ref h0_reach, .ref h0_ways, .ref h0_switches, .ref h0_kind, .ref h0_best, .ref h0_row, .int h0_rowLength, .int h0_bends, .int h0_full, .int x1, .int z1])), (h0_ways, .inl (g.2.1.1, 256, .inl f_h0_ways)), (h0_room, .inl (g.2.1.1, 2048, .inl f_h0_room))]) (va_runS (As := [.ref h0_reach, .int 0]) (rest := []) ⟨hx, hb, hml, hown, hG⟩ (kJ7_fill_031fb_256 l g h0_reach (0 : Int32) f_h0_reach _) ⟨callB_of 2 hG (zGood wc_J7_fill_031fb) rfl rfl rfl (hG _ wini_J7) (hG _ wm_X3_92) hJ7_fill_031fb ⟨Nat.le_of_ble_eq_true rfl, Nat.le_of_ble_eq_true rfl⟩, hG _ ws_J7_fill_031fb⟩ (zpreS hX hP hD hS hA [1] rfl (by decide)) rfl rfl hl.1 rfl (lv_room (Nat.le_of_ble_eq_true rfl)) dX3_searchFrom_19 ⟨Nat.le_of_ble_eq_true rfl, Nat.le_of_ble_eq_true rfl⟩) hP hD hS hA [1] [0, 2, 3] rfl rfl (by decide) (by decide) (fun u5 H locs hp hP hD hS => ?_)
  refine W.cs (cells' := 0) (slots' := 0) rfl rfl ?_
  obtain ⟨f6, rfl⟩ : ∃ z9, z9 = u5 := ⟨_, rfl⟩
  have hP : va_P g.1 vwCl [(h0, .inr (3, [.ref h0_room, .ref h0_clashing, .ref h0_reach, .ref h0_ways, .ref h0_switches, .ref h0_kind, .ref h0_best, .ref h0_row, .int h0_rowLength, .int h0_bends, .int h0_full, .int x1, .int z1])), (h0_ways, .inl (g.2.1.1, 256, .inl f_h0_ways)), (h0_room, .inl (g.2.1.1, 2048, .inl f_h0_room)), (h0_reach, .inl (g.2.1.2.1, 256, .inl f6))] H := hP
  have hD : va_D A [(h0, .inr (3, [.ref h0_room, .ref h0_clashing, .ref h0_reach, .ref h0_ways, .ref h0_switches, .ref h0_kind, .ref h0_best, .ref h0_row, .int h0_rowLength, .int h0_bends, .int h0_full, .int x1, .int z1])), (h0_ways, .inl (g.2.1.1, 256, .inl f_h0_ways)), (h0_room, .inl (g.2.1.1, 2048, .inl f_h0_room)), (h0_reach, .inl (g.2.1.2.1, 256, .inl f6))] := hD
  refine lv_aload_n hx hb dX3_searchFrom_22 rfl (lv_at hl 0 rfl) ?_
  refine va_get (D := g.1) (ci := 3) (v := .ref h0_ways) (C := RX3) (T := TX3) (N := 13) hx hb hG iX3 hown hX.1 hP 0 rfl rfl 3 (by decide) (hG _ wf_X3_22) (fun _ h9 => h9) rfl dX3_searchFrom_23 ?_
  refine lv_iconst (v := 0) hx hb dX3_searchFrom_26 (by decide) ?_
  refine zfv (wr := [(h0, .inr (3, [.ref h0_room, .ref h0_clashing, .ref h0_reach, .ref h0_ways, .ref h0_switches, .ref h0_kind, .ref h0_best, .ref h0_row, .int h0_rowLength, .int h0_bends, .int h0_full, .int x1, .int z1])), (h0_room, .inl (g.2.1.1, 2048, .inl f_h0_room)), (h0_reach, .inl (g.2.1.2.1, 256, .inl f6))]) (va_runS (As := [.ref h0_ways, .int 0]) (rest := []) ⟨hx, hb, hml, hown, hG⟩ (kJ7_fill_53178_256 l g h0_ways (0 : Int32) f_h0_ways _) ⟨callB_of 2 hG (zGood wc_J7_fill_53178) rfl rfl rfl (hG _ wini_J7) (hG _ wm_X3_98) hJ7_fill_53178 ⟨Nat.le_of_ble_eq_true rfl, Nat.le_of_ble_eq_true rfl⟩, hG _ ws_J7_fill_53178⟩ (zpreS hX hP hD hS hA [1] rfl (by decide)) rfl rfl hl.1 rfl (lv_room (Nat.le_of_ble_eq_true rfl)) dX3_searchFrom_27 ⟨Nat.le_of_ble_eq_true rfl, Nat.le_of_ble_eq_true rfl⟩) hP hD hS hA [1] [0, 2, 3] rfl rfl (by decide) (by decide) (fun u8 H locs hp hP hD hS => ?_)
  refine W.cs (cells' := 0) (slots' := 0) rfl rfl ?_
  obtain ⟨f9, rfl⟩ : ∃ z9, z9 = u8 := ⟨_, rfl⟩
  have hP : va_P g.1 vwCl [(h0, .inr (3, [.ref h0_room, .ref h0_clashing, .ref h0_reach, .ref h0_ways, .ref h0_switches, .ref h0_kind, .ref h0_best, .ref h0_row, .int h0_rowLength, .int h0_bends, .int h0_full, .int x1, .int z1])), (h0_room, .inl (g.2.1.1, 2048, .inl f_h0_room)), (h0_reach, .inl (g.2.1.2.1, 256, .inl f6)), (h0_ways, .inl (g.2.1.1, 256, .inl f9))] H := hP
  have hD : va_D A [(h0, .inr (3, [.ref h0_room, .ref h0_clashing, .ref h0_reach, .ref h0_ways, .ref h0_switches, .ref h0_kind, .ref h0_best, .ref h0_row, .int h0_rowLength, .int h0_bends, .int h0_full, .int x1, .int z1])), (h0_room, .inl (g.2.1.1, 2048, .inl f_h0_room)), (h0_reach, .inl (g.2.1.2.1, 256, .inl f6)), (h0_ways, .inl (g.2.1.1, 256, .inl f9))] := hD
  refine lv_aload_n hx hb dX3_searchFrom_30 rfl (lv_at hl 0 rfl) ?_
  refine va_get (D := g.1) (ci := 3) (v := .ref h0_reach) (C := RX3) (T := TX3) (N := 13) hx hb hG iX3 hown hX.1 hP 0 rfl rfl 2 (by decide) (hG _ wf_X3_19) (fun _ h9 => h9) rfl dX3_searchFrom_31 ?_
  refine lv_aload_n hx hb dX3_searchFrom_34 rfl (lv_at hl 0 rfl) ?_
  refine va_get (D := g.1) (ci := 3) (v := .int x1) (C := RX3) (T := TX3) (N := 13) hx hb hG iX3 hown hX.1 hP 0 rfl rfl 11 (by decide) (hG _ wf_X3_84) (fun _ h9 => h9) rfl dX3_searchFrom_35 ?_
  refine lv_iconst (v := 1) hx hb dX3_searchFrom_38 (by decide) ?_
  refine va_bast hx hb hX.1 hP hD hS 2 1 rfl rfl (zin (rfl : x1.toInt = _) (ox_230 hy0)) dX3_searchFrom_39 (fun H locs hP hD hS => ?_)
  obtain ⟨f10, e11⟩ : ∃ z9 : Nat → Int32, z9 = upd f6 x1.toNatClampNeg (vp_nar .byte (1 : Int32)) := ⟨_, rfl⟩
  rw [← e11] at hP hD
  have hP : va_P g.1 vwCl [(h0, .inr (3, [.ref h0_room, .ref h0_clashing, .ref h0_reach, .ref h0_ways, .ref h0_switches, .ref h0_kind, .ref h0_best, .ref h0_row, .int h0_rowLength, .int h0_bends, .int h0_full, .int x1, .int z1])), (h0_room, .inl (g.2.1.1, 2048, .inl f_h0_room)), (h0_reach, .inl (g.2.1.2.1, 256, .inl f10)), (h0_ways, .inl (g.2.1.1, 256, .inl f9))] H := hP
  have hD : va_D A [(h0, .inr (3, [.ref h0_room, .ref h0_clashing, .ref h0_reach, .ref h0_ways, .ref h0_switches, .ref h0_kind, .ref h0_best, .ref h0_row, .int h0_rowLength, .int h0_bends, .int h0_full, .int x1, .int z1])), (h0_room, .inl (g.2.1.1, 2048, .inl f_h0_room)), (h0_reach, .inl (g.2.1.2.1, 256, .inl f10)), (h0_ways, .inl (g.2.1.1, 256, .inl f9))] := hD
  refine lv_aload_n hx hb dX3_searchFrom_40 rfl (lv_at hl 0 rfl) ?_
  refine va_get (D := g.1) (ci := 3) (v := .int x1) (C := RX3) (T := TX3) (N := 13) hx hb hG iX3 hown hX.1 hP 0 rfl rfl 11 (by decide) (hG _ wf_X3_84) (fun _ h9 => h9) rfl dX3_searchFrom_41 ?_
  refine lv_istore_n (lv' := [(3, .int x1), (0, .ref h0), (1, .int x1), (2, .int x2)]) hx hb dX3_searchFrom_44 rfl hl (by decide) rfl (fun ls hl => ?_)
  have L9036 : ∀ (n : Nat) (v6027 : Int32) (fn6028 : Nat → Int32) (H : Heap) (locs : List Loc) (ls : Array Slot), 0 ≤ v6027.toInt ∧ v6027.toInt ≤ 256 → (257 - v6027.toInt).toNat < n → va_P g.1 vwCl [(h0, .inr (3, [.ref h0_room, .ref h0_clashing, .ref h0_reach, .ref h0_ways, .ref h0_switches, .ref h0_kind, .ref h0_best, .ref h0_row, .int h0_rowLength, .int h0_bends, .int h0_full, .int x1, .int z1])), (h0_room, .inl (g.2.1.1, 2048, .inl f_h0_room)), (h0_reach, .inl (g.2.1.2.1, 256, .inl fn6028)), (h0_ways, .inl (g.2.1.1, 256, .inl f9))] H → va_D A [(h0, .inr (3, [.ref h0_room, .ref h0_clashing, .ref h0_reach, .ref h0_ways, .ref h0_switches, .ref h0_kind, .ref h0_best, .ref h0_row, .int h0_rowLength, .int h0_bends, .int h0_full, .int x1, .int z1])), (h0_room, .inl (g.2.1.1, 2048, .inl f_h0_room)), (h0_reach, .inl (g.2.1.2.1, 256, .inl fn6028)), (h0_ways, .inl (g.2.1.1, 256, .inl f9))] → va_S A s.heap H locs → lv_has ls 5 [(0, .ref h0), (1, .int x1), (2, .int x2), (3, .int v6027)] → W p l e rm_kX3_searchFrom s m args below meth c H locs 0 0 Q (F0 m 45 ls []) := by
    intro n9037
    induction n9037 with
    | zero => intro v6027 fn6028 H locs ls i9039 hm9040; exact absurd hm9040 (Nat.not_lt_zero _)
    | succ n9037 ih9038 =>
      intro v6027 fn6028 H locs ls i9039 hm9040 hP hD hS hl
      refine lv_iload_n hx hb dX3_searchFrom_45 rfl (lv_at hl 3 rfl) ?_
      refine lv_aload_n hx hb dX3_searchFrom_46 rfl (lv_at hl 0 rfl) ?_
      refine va_get (D := g.1) (ci := 3) (v := .int h0_full) (C := RX3) (T := TX3) (N := 13) hx hb hG iX3 hown hX.1 hP 0 rfl rfl 10 (by decide) (hG _ wf_X3_43) (fun _ h9 => h9) rfl dX3_searchFrom_47 ?_
      refine lv_icmp_gt (tgt := 108) hx hb dX3_searchFrom_50 (by decide) (fun c9041 => ?_) (fun c9041 => ?_)
      · skip
        have c9041i : h0_full.toInt < v6027.toInt := (zc_lt (rfl : h0_full.toInt = _) (rfl : v6027.toInt = _)).mp c9041
        refine lv_aload_n hx hb dX3_searchFrom_108 rfl (lv_at hl 0 rfl) ?_
        refine va_get (D := g.1) (ci := 3) (v := .ref h0_ways) (C := RX3) (T := TX3) (N := 13) hx hb hG iX3 hown hX.1 hP 0 rfl rfl 3 (by decide) (hG _ wf_X3_22) (fun _ h9 => h9) rfl dX3_searchFrom_109 ?_
        refine lv_aload_n hx hb dX3_searchFrom_112 rfl (lv_at hl 0 rfl) ?_
        refine va_get (D := g.1) (ci := 3) (v := .int h0_full) (C := RX3) (T := TX3) (N := 13) hx hb hG iX3 hown hX.1 hP 0 rfl rfl 10 (by decide) (hG _ wf_X3_43) (fun _ h9 => h9) rfl dX3_searchFrom_113 ?_
        refine lv_aload_n hx hb dX3_searchFrom_116 rfl (lv_at hl 0 rfl) ?_
        refine va_get (D := g.1) (ci := 3) (v := .ref h0_reach) (C := RX3) (T := TX3) (N := 13) hx hb hG iX3 hown hX.1 hP 0 rfl rfl 2 (by decide) (hG _ wf_X3_19) (fun _ h9 => h9) rfl dX3_searchFrom_117 ?_
        refine lv_aload_n hx hb dX3_searchFrom_120 rfl (lv_at hl 0 rfl) ?_
        refine va_get (D := g.1) (ci := 3) (v := .int h0_full) (C := RX3) (T := TX3) (N := 13) hx hb hG iX3 hown hX.1 hP 0 rfl rfl 10 (by decide) (hG _ wf_X3_43) (fun _ h9 => h9) rfl dX3_searchFrom_121 ?_
        refine va_bald hx hb hX.1 hP 2 1 rfl rfl (zin (rfl : h0_full.toInt = _) (ox_250 c9041i hy3 i9039)) dX3_searchFrom_124 ?_
        refine lv_topi (fun z9042 e9043 => ?_)
        refine va_iast hx hb hX.1 hP hD hS 3 0 rfl rfl (zin (rfl : h0_full.toInt = _) (ox_250 c9041i hy3 i9039)) dX3_searchFrom_125 (fun H locs hP hD hS => ?_)
        obtain ⟨f9044, e9045⟩ : ∃ z9 : Nat → Int32, z9 = upd f9 h0_full.toNatClampNeg z9042 := ⟨_, rfl⟩
        rw [← e9045] at hP hD
        have hP : va_P g.1 vwCl [(h0, .inr (3, [.ref h0_room, .ref h0_clashing, .ref h0_reach, .ref h0_ways, .ref h0_switches, .ref h0_kind, .ref h0_best, .ref h0_row, .int h0_rowLength, .int h0_bends, .int h0_full, .int x1, .int z1])), (h0_room, .inl (g.2.1.1, 2048, .inl f_h0_room)), (h0_reach, .inl (g.2.1.2.1, 256, .inl fn6028)), (h0_ways, .inl (g.2.1.1, 256, .inl f9044))] H := hP
        have hD : va_D A [(h0, .inr (3, [.ref h0_room, .ref h0_clashing, .ref h0_reach, .ref h0_ways, .ref h0_switches, .ref h0_kind, .ref h0_best, .ref h0_row, .int h0_rowLength, .int h0_bends, .int h0_full, .int x1, .int z1])), (h0_room, .inl (g.2.1.1, 2048, .inl f_h0_room)), (h0_reach, .inl (g.2.1.2.1, 256, .inl fn6028)), (h0_ways, .inl (g.2.1.1, 256, .inl f9044))] := hD
        refine lv_aload_n hx hb dX3_searchFrom_126 rfl (lv_at hl 0 rfl) ?_
        refine va_get (D := g.1) (ci := 3) (v := .int h0_full) (C := RX3) (T := TX3) (N := 13) hx hb hG iX3 hown hX.1 hP 0 rfl rfl 10 (by decide) (hG _ wf_X3_43) (fun _ h9 => h9) rfl dX3_searchFrom_127 ?_
        refine lv_iconst (v := 1) hx hb dX3_searchFrom_130 (by decide) ?_
        refine lv_isub hx hb dX3_searchFrom_131 ?_
        refine lv_topi (fun z9046 e9047 => ?_)
        have f9048 : z9046.toInt = h0_full.toInt - (1 : Int) := zs e9047 (rfl : h0_full.toInt = _) (show (1 : Int32).toInt = (1 : Int) from by decide) (ox_251 (zr h0_full) (zr v6027) c9041i hy3 i9039)
        refine lv_istore_n (lv' := [(3, .int z9046), (0, .ref h0), (1, .int x1), (2, .int x2)]) hx hb dX3_searchFrom_132 rfl hl (by decide) rfl (fun ls hl => ?_)
        have L10915 : ∀ (n : Nat) (v10292 : Int32) (fn10293 : Nat → Int32) (H : Heap) (locs : List Loc) (ls : Array Slot), (-1) ≤ v10292.toInt ∧ v10292.toInt ≤ 254 → (v10292.toInt - (-2)).toNat < n → va_P g.1 vwCl [(h0, .inr (3, [.ref h0_room, .ref h0_clashing, .ref h0_reach, .ref h0_ways, .ref h0_switches, .ref h0_kind, .ref h0_best, .ref h0_row, .int h0_rowLength, .int h0_bends, .int h0_full, .int x1, .int z1])), (h0_room, .inl (g.2.1.1, 2048, .inl f_h0_room)), (h0_reach, .inl (g.2.1.2.1, 256, .inl fn6028)), (h0_ways, .inl (g.2.1.1, 256, .inl fn10293))] H → va_D A [(h0, .inr (3, [.ref h0_room, .ref h0_clashing, .ref h0_reach, .ref h0_ways, .ref h0_switches, .ref h0_kind, .ref h0_best, .ref h0_row, .int h0_rowLength, .int h0_bends, .int h0_full, .int x1, .int z1])), (h0_room, .inl (g.2.1.1, 2048, .inl f_h0_room)), (h0_reach, .inl (g.2.1.2.1, 256, .inl fn6028)), (h0_ways, .inl (g.2.1.1, 256, .inl fn10293))] → va_S A s.heap H locs → lv_has ls 5 [(0, .ref h0), (1, .int x1), (2, .int x2), (3, .int v10292)] → W p l e rm_kX3_searchFrom s m args below meth c H locs 0 0 Q (F0 m 133 ls []) := by
          intro n10916
          induction n10916 with
          | zero => intro v10292 fn10293 H locs ls i10918 hm10919; exact absurd hm10919 (Nat.not_lt_zero _)
          | succ n10916 ih10917 =>
            intro v10292 fn10293 H locs ls i10918 hm10919 hP hD hS hl
            refine lv_iload_n hx hb dX3_searchFrom_133 rfl (lv_at hl 3 rfl) ?_
            refine lv_aload_n hx hb dX3_searchFrom_134 rfl (lv_at hl 0 rfl) ?_
            refine va_get (D := g.1) (ci := 3) (v := .int x1) (C := RX3) (T := TX3) (N := 13) hx hb hG iX3 hown hX.1 hP 0 rfl rfl 11 (by decide) (hG _ wf_X3_84) (fun _ h9 => h9) rfl dX3_searchFrom_135 ?_
            refine lv_icmp_lt (tgt := 208) hx hb dX3_searchFrom_138 (by decide) (fun c10920 => ?_) (fun c10920 => ?_)
            · skip
              have c10920i : v10292.toInt < x1.toInt := (zc_lt (rfl : v10292.toInt = _) (rfl : x1.toInt = _)).mp c10920
              exact hret (z1, fn6028, fn10293) (Nat.le_of_ble_eq_true rfl) (Nat.le_of_ble_eq_true rfl) (ox_252 (zr x2) (zr z1) f3) (hP.sub [0, 2, 3, 1] rfl) (hD.sub [0, 2, 3, 1] (by decide) rfl) hS dX3_searchFrom_208
            · skip
              have c10920i : ¬ (v10292.toInt < x1.toInt) := fun q => c10920 ((zc_lt (rfl : v10292.toInt = _) (rfl : x1.toInt = _)).mpr q)
              refine lv_iconst (v := 1) hx hb dX3_searchFrom_141 (by decide) ?_
              refine lv_istore (lv' := [(4, .int 1), (0, .ref h0), (1, .int x1), (2, .int x2), (3, .int v10292)]) hx hb dX3_searchFrom_142 hl (by decide) rfl (fun ls hl => ?_)
              have L11472 : ∀ (n : Nat) (v11402 : Int32) (fn11403 : Nat → Int32) (H : Heap) (locs : List Loc) (ls : Array Slot), 1 ≤ v11402.toInt ∧ v11402.toInt ≤ 9 → (10 - v11402.toInt).toNat < n → va_P g.1 vwCl [(h0, .inr (3, [.ref h0_room, .ref h0_clashing, .ref h0_reach, .ref h0_ways, .ref h0_switches, .ref h0_kind, .ref h0_best, .ref h0_row, .int h0_rowLength, .int h0_bends, .int h0_full, .int x1, .int z1])), (h0_room, .inl (g.2.1.1, 2048, .inl f_h0_room)), (h0_reach, .inl (g.2.1.2.1, 256, .inl fn6028)), (h0_ways, .inl (g.2.1.1, 256, .inl fn11403))] H → va_D A [(h0, .inr (3, [.ref h0_room, .ref h0_clashing, .ref h0_reach, .ref h0_ways, .ref h0_switches, .ref h0_kind, .ref h0_best, .ref h0_row, .int h0_rowLength, .int h0_bends, .int h0_full, .int x1, .int z1])), (h0_room, .inl (g.2.1.1, 2048, .inl f_h0_room)), (h0_reach, .inl (g.2.1.2.1, 256, .inl fn6028)), (h0_ways, .inl (g.2.1.1, 256, .inl fn11403))] → va_S A s.heap H locs → lv_has ls 5 [(0, .ref h0), (1, .int x1), (2, .int x2), (3, .int v10292), (4, .int v11402)] → W p l e rm_kX3_searchFrom s m args below meth c H locs 0 0 Q (F0 m 144 ls []) := by
                intro n11473
                induction n11473 with
                | zero => intro v11402 fn11403 H locs ls i11475 hm11476; exact absurd hm11476 (Nat.not_lt_zero _)
                | succ n11473 ih11474 =>
                  intro v11402 fn11403 H locs ls i11475 hm11476 hP hD hS hl
                  refine lv_iload hx hb dX3_searchFrom_144 (lv_at hl 4 rfl) ?_
                  refine lv_aload_n hx hb dX3_searchFrom_146 rfl (lv_at hl 0 rfl) ?_
                  refine va_get (D := g.1) (ci := 3) (v := .int h0_bends) (C := RX3) (T := TX3) (N := 13) hx hb hG iX3 hown hX.1 hP 0 rfl rfl 9 (by decide) (hG _ wf_X3_50) (fun _ h9 => h9) rfl dX3_searchFrom_147 ?_
                  have J11509 : ∀  (H : Heap) (locs : List Loc) (ls : Array Slot), va_P g.1 vwCl [(h0, .inr (3, [.ref h0_room, .ref h0_clashing, .ref h0_reach, .ref h0_ways, .ref h0_switches, .ref h0_kind, .ref h0_best, .ref h0_row, .int h0_rowLength, .int h0_bends, .int h0_full, .int x1, .int z1])), (h0_room, .inl (g.2.1.1, 2048, .inl f_h0_room)), (h0_reach, .inl (g.2.1.2.1, 256, .inl fn6028)), (h0_ways, .inl (g.2.1.1, 256, .inl fn11403))] H → va_D A [(h0, .inr (3, [.ref h0_room, .ref h0_clashing, .ref h0_reach, .ref h0_ways, .ref h0_switches, .ref h0_kind, .ref h0_best, .ref h0_row, .int h0_rowLength, .int h0_bends, .int h0_full, .int x1, .int z1])), (h0_room, .inl (g.2.1.1, 2048, .inl f_h0_room)), (h0_reach, .inl (g.2.1.2.1, 256, .inl fn6028)), (h0_ways, .inl (g.2.1.1, 256, .inl fn11403))] → va_S A s.heap H locs → lv_has ls 5 [(0, .ref h0), (1, .int x1), (2, .int x2), (3, .int v10292), (4, .int v11402)] → W p l e rm_kX3_searchFrom s m args below meth c H locs 0 0 Q (F0 m 202 ls []) := by
                    intro  H locs ls  hP hD hS hl
                    obtain ⟨z11510, e11511⟩ : ∃ y9 : Int32, y9 = v10292 + (-1) := ⟨_, rfl⟩
                    have f11512 : z11510.toInt = v10292.toInt + (-1) := za e11511 (rfl : v10292.toInt = _) (show (-1 : Int32).toInt = (-1 : Int) from by decide) (ox_253 (zr v10292) (zr x1) c10920i hy0 i10918)
                    refine lv_iinc (v := z11510) (lv' := [(3, .int z11510), (0, .ref h0), (1, .int x1), (2, .int x2), (4, .int v11402)]) hx hb dX3_searchFrom_202 hl (k := 3) rfl (by rw [e11511]; rfl) (by decide) rfl (fun ls hl => ?_)
                    refine lv_goto (tgt := 133) hx hb dX3_searchFrom_205 (by decide) ?_
                    exact ih10917 z11510 fn11403 H locs ls (ox_254 c10920i f11512 hy0 i10918) (zdec hm10919 (ox_255 c10920i f11512 hy0 i10918)) hP hD hS (lv_sub hl [1, 2, 3, 0] rfl)
                  refine lv_icmp_gt (tgt := 202) hx hb dX3_searchFrom_150 (by decide) (fun c11513 => ?_) (fun c11513 => ?_)
                  · skip
                    have c11513i : h0_bends.toInt < v11402.toInt := (zc_lt (rfl : h0_bends.toInt = _) (rfl : v11402.toInt = _)).mp c11513
                    exact J11509 H locs ls  hP hD hS (lv_sub hl [0, 1, 2, 3, 4] rfl)
                  · skip
                    have c11513i : ¬ (h0_bends.toInt < v11402.toInt) := fun q => c11513 ((zc_lt (rfl : h0_bends.toInt = _) (rfl : v11402.toInt = _)).mpr q)
                    refine lv_aload_n hx hb dX3_searchFrom_153 rfl (lv_at hl 0 rfl) ?_
                    refine lv_iload_n hx hb dX3_searchFrom_154 rfl (lv_at hl 3 rfl) ?_
                    refine zfi (wr := [(h0_room, .inl (g.2.1.1, 2048, .inl f_h0_room)), (h0_ways, .inl (g.2.1.1, 256, .inl fn11403))]) (va_runV (As := [.int v10292]) (rest := []) ⟨hx, hb, hml, hown, hG⟩ (kX3_isReached l g h0 v10292 h0_room h0_clashing h0_reach h0_ways h0_switches h0_kind h0_best h0_row h0_rowLength h0_bends h0_full x1 z1 fn6028 (ox_256 c10920i hy0 i10918) (ox_1 hy1) (ox_257 c11513i hy2 i11475) (ox_258 c9041i f9048 hy3 i9039) (ox_259 c10920i hy0 i10918) _) ⟨callB_of 1 hG (zGood wc_X3_isReached) rfl rfl rfl (hG _ wini_X3) (hG _ wm_X3_101) hX3_isReached ⟨Nat.le_of_ble_eq_true rfl, Nat.le_of_ble_eq_true rfl⟩, hG _ wi_X3_isReached, hG _ wse_X3_X3_isReached⟩ (zpreV (va_recv hX.1 hP (ci := 3) (q0 := 0) rfl rfl) hX hP hD hS hA [0, 2] rfl (by decide)) rfl rfl hl.1 rfl (lv_room (Nat.le_of_ble_eq_true rfl)) dX3_searchFrom_155 ⟨Nat.le_of_ble_eq_true rfl, Nat.le_of_ble_eq_true rfl⟩) hP hD hS hA [0, 2] [1, 3] rfl rfl (by decide) (by decide) (fun r11514 _ H locs hp hP hD hS => ?_)
                    refine W.cs (cells' := 0) (slots' := 0) rfl rfl ?_
                    have hq11515 : 0 ≤ r11514.toInt ∧ r11514.toInt ≤ 1 := hp
                    have hP : va_P g.1 vwCl [(h0_room, .inl (g.2.1.1, 2048, .inl f_h0_room)), (h0_ways, .inl (g.2.1.1, 256, .inl fn11403)), (h0, .inr (3, [.ref h0_room, .ref h0_clashing, .ref h0_reach, .ref h0_ways, .ref h0_switches, .ref h0_kind, .ref h0_best, .ref h0_row, .int h0_rowLength, .int h0_bends, .int h0_full, .int x1, .int z1])), (h0_reach, .inl (g.2.1.2.1, 256, .inl fn6028))] H := hP
                    have hD : va_D A [(h0_room, .inl (g.2.1.1, 2048, .inl f_h0_room)), (h0_ways, .inl (g.2.1.1, 256, .inl fn11403)), (h0, .inr (3, [.ref h0_room, .ref h0_clashing, .ref h0_reach, .ref h0_ways, .ref h0_switches, .ref h0_kind, .ref h0_best, .ref h0_row, .int h0_rowLength, .int h0_bends, .int h0_full, .int x1, .int z1])), (h0_reach, .inl (g.2.1.2.1, 256, .inl fn6028))] := hD
                    refine lv_if_eq (tgt := 202) hx hb dX3_searchFrom_158 (by decide) (fun c11516 => ?_) (fun c11516 => ?_)
                    · skip
                      have c11516i : r11514.toInt = (0 : Int) := (zc_eq (rfl : r11514.toInt = _) (show (0 : Int32).toInt = (0 : Int) from by decide)).mp c11516
                      exact J11509 H locs ls  (hP.sub [2, 0, 3, 1] rfl) (hD.sub [2, 0, 3, 1] (by decide) rfl) hS (lv_sub hl [0, 1, 2, 3, 4] rfl)
                    · skip
                      have c11516i : ¬ (r11514.toInt = (0 : Int)) := fun q => c11516 ((zc_eq (rfl : r11514.toInt = _) (show (0 : Int32).toInt = (0 : Int) from by decide)).mpr q)
                      refine lv_aload_n hx hb dX3_searchFrom_161 rfl (lv_at hl 0 rfl) ?_
                      refine va_get (D := g.1) (ci := 3) (v := .ref h0_ways) (C := RX3) (T := TX3) (N := 13) hx hb hG iX3 hown hX.1 hP 2 rfl rfl 3 (by decide) (hG _ wf_X3_22) (fun _ h9 => h9) rfl dX3_searchFrom_162 ?_
                      refine lv_iload_n hx hb dX3_searchFrom_165 rfl (lv_at hl 3 rfl) ?_
                      refine lv_dup2_11 hx hb dX3_searchFrom_166 rfl rfl ?_
                      refine va_iald hx hb hX.1 hP 1 0 rfl rfl (zin (rfl : v10292.toInt = _) (ox_260 c10920i hy0 i10918)) dX3_searchFrom_167 ?_
                      refine lv_topi (fun z11517 e11518 => ?_)
                      refine lv_aload_n hx hb dX3_searchFrom_168 rfl (lv_at hl 0 rfl) ?_
                      refine lv_iload_n hx hb dX3_searchFrom_169 rfl (lv_at hl 3 rfl) ?_
                      refine lv_iload hx hb dX3_searchFrom_170 (lv_at hl 4 rfl) ?_
                      refine zfi (wr := [(h0_ways, .inl (g.2.1.1, 256, .inl fn11403)), (h0_reach, .inl (g.2.1.2.1, 256, .inl fn6028))]) (va_runV (As := [.int v10292, .int v11402]) (rest := [.int z11517, .int v10292, .ref h0_ways]) ⟨hx, hb, hml, hown, hG⟩ (kX3_isClear l g h0 v10292 v11402 h0_room h0_clashing h0_reach h0_ways h0_switches h0_kind h0_best h0_row h0_rowLength h0_bends h0_full x1 z1 f_h0_room (ox_256 c10920i hy0 i10918) (ox_261 c11513i hy2 i11475) (ox_1 hy1) (ox_257 c11513i hy2 i11475) (ox_258 c9041i f9048 hy3 i9039) (ox_259 c10920i hy0 i10918) _) ⟨callB_of 2 hG (zGood wc_X3_isClear) rfl rfl rfl (hG _ wini_X3) (hG _ wm_X3_105) hX3_isClear ⟨Nat.le_of_ble_eq_true rfl, Nat.le_of_ble_eq_true rfl⟩, hG _ wi_X3_isClear, hG _ wse_X3_X3_isClear⟩ (zpreV (va_recv hX.1 hP (ci := 3) (q0 := 2) rfl rfl) hX hP hD hS hA [2, 0] rfl (by decide)) rfl rfl hl.1 rfl (lv_room (Nat.le_of_ble_eq_true rfl)) dX3_searchFrom_172 ⟨Nat.le_of_ble_eq_true rfl, Nat.le_of_ble_eq_true rfl⟩) hP hD hS hA [2, 0] [1, 3] rfl rfl (by decide) (by decide) (fun r11519 _ H locs hp hP hD hS => ?_)
                      refine W.cs (cells' := 0) (slots' := 0) rfl rfl ?_
                      have hq11520 : 0 ≤ r11519.toInt ∧ r11519.toInt ≤ 1 := hp
                      have hP : va_P g.1 vwCl [(h0_ways, .inl (g.2.1.1, 256, .inl fn11403)), (h0_reach, .inl (g.2.1.2.1, 256, .inl fn6028)), (h0, .inr (3, [.ref h0_room, .ref h0_clashing, .ref h0_reach, .ref h0_ways, .ref h0_switches, .ref h0_kind, .ref h0_best, .ref h0_row, .int h0_rowLength, .int h0_bends, .int h0_full, .int x1, .int z1])), (h0_room, .inl (g.2.1.1, 2048, .inl f_h0_room))] H := hP
                      have hD : va_D A [(h0_ways, .inl (g.2.1.1, 256, .inl fn11403)), (h0_reach, .inl (g.2.1.2.1, 256, .inl fn6028)), (h0, .inr (3, [.ref h0_room, .ref h0_clashing, .ref h0_reach, .ref h0_ways, .ref h0_switches, .ref h0_kind, .ref h0_best, .ref h0_row, .int h0_rowLength, .int h0_bends, .int h0_full, .int x1, .int z1])), (h0_room, .inl (g.2.1.1, 2048, .inl f_h0_room))] := hD
                      have J11530 : ∀  (v11529 : Int32) (H : Heap) (locs : List Loc) (ls : Array Slot), va_P g.1 vwCl [(h0_ways, .inl (g.2.1.1, 256, .inl fn11403)), (h0_reach, .inl (g.2.1.2.1, 256, .inl fn6028)), (h0, .inr (3, [.ref h0_room, .ref h0_clashing, .ref h0_reach, .ref h0_ways, .ref h0_switches, .ref h0_kind, .ref h0_best, .ref h0_row, .int h0_rowLength, .int h0_bends, .int h0_full, .int x1, .int z1])), (h0_room, .inl (g.2.1.1, 2048, .inl f_h0_room))] H → va_D A [(h0_ways, .inl (g.2.1.1, 256, .inl fn11403)), (h0_reach, .inl (g.2.1.2.1, 256, .inl fn6028)), (h0, .inr (3, [.ref h0_room, .ref h0_clashing, .ref h0_reach, .ref h0_ways, .ref h0_switches, .ref h0_kind, .ref h0_best, .ref h0_row, .int h0_rowLength, .int h0_bends, .int h0_full, .int x1, .int z1])), (h0_room, .inl (g.2.1.1, 2048, .inl f_h0_room))] → va_S A s.heap H locs → lv_has ls 5 [(0, .ref h0), (1, .int x1), (2, .int x2), (3, .int v10292), (4, .int v11402)] → W p l e rm_kX3_searchFrom s m args below meth c H locs 0 0 Q (F0 m 194 ls [.int v11529, .int z11517, .int v10292, .ref h0_ways]) := by
                        intro v11529 H locs ls  hP hD hS hl
                        refine lv_iadd hx hb dX3_searchFrom_194 ?_
                        refine lv_topi (fun z11531 e11532 => ?_)
                        refine va_iast hx hb hX.1 hP hD hS 0 0 rfl rfl (zin (rfl : v10292.toInt = _) (ox_260 c10920i hy0 i10918)) dX3_searchFrom_195 (fun H locs hP hD hS => ?_)
                        obtain ⟨f11533, e11534⟩ : ∃ z9 : Nat → Int32, z9 = upd fn11403 v10292.toNatClampNeg z11531 := ⟨_, rfl⟩
                        rw [← e11534] at hP hD
                        have hP : va_P g.1 vwCl [(h0_ways, .inl (g.2.1.1, 256, .inl f11533)), (h0_reach, .inl (g.2.1.2.1, 256, .inl fn6028)), (h0, .inr (3, [.ref h0_room, .ref h0_clashing, .ref h0_reach, .ref h0_ways, .ref h0_switches, .ref h0_kind, .ref h0_best, .ref h0_row, .int h0_rowLength, .int h0_bends, .int h0_full, .int x1, .int z1])), (h0_room, .inl (g.2.1.1, 2048, .inl f_h0_room))] H := hP
                        have hD : va_D A [(h0_ways, .inl (g.2.1.1, 256, .inl f11533)), (h0_reach, .inl (g.2.1.2.1, 256, .inl fn6028)), (h0, .inr (3, [.ref h0_room, .ref h0_clashing, .ref h0_reach, .ref h0_ways, .ref h0_switches, .ref h0_kind, .ref h0_best, .ref h0_row, .int h0_rowLength, .int h0_bends, .int h0_full, .int x1, .int z1])), (h0_room, .inl (g.2.1.1, 2048, .inl f_h0_room))] := hD
                        obtain ⟨z11535, e11536⟩ : ∃ y9 : Int32, y9 = v11402 + 1 := ⟨_, rfl⟩
                        have f11537 : z11535.toInt = v11402.toInt + 1 := za e11536 (rfl : v11402.toInt = _) (show (1 : Int32).toInt = (1 : Int) from by decide) (ox_262 (zr h0_bends) (zr v11402) c11513i hy2 i11475)
                        refine lv_iinc (v := z11535) (lv' := [(4, .int z11535), (0, .ref h0), (1, .int x1), (2, .int x2), (3, .int v10292)]) hx hb dX3_searchFrom_196 hl (k := 4) rfl (by rw [e11536]; rfl) (by decide) rfl (fun ls hl => ?_)
                        refine lv_goto (tgt := 144) hx hb dX3_searchFrom_199 (by decide) ?_
                        exact ih11474 z11535 f11533 H locs ls (ox_263 c11513i f11537 hy2 i11475) (zdec hm11476 (ox_264 c11513i f11537 hy2 i11475)) (hP.sub [2, 3, 1, 0] rfl) (hD.sub [2, 3, 1, 0] (by decide) rfl) hS (lv_sub hl [1, 2, 3, 4, 0] rfl)
                      refine lv_if_eq (tgt := 193) hx hb dX3_searchFrom_175 (by decide) (fun c11538 => ?_) (fun c11538 => ?_)
                      · skip
                        have c11538i : r11519.toInt = (0 : Int) := (zc_eq (rfl : r11519.toInt = _) (show (0 : Int32).toInt = (0 : Int) from by decide)).mp c11538
                        refine lv_iconst (v := 0) hx hb dX3_searchFrom_193 (by decide) ?_
                        exact J11530 (0 : Int32) H locs ls  hP hD hS (lv_sub hl [0, 1, 2, 3, 4] rfl)
                      · skip
                        have c11538i : ¬ (r11519.toInt = (0 : Int)) := fun q => c11538 ((zc_eq (rfl : r11519.toInt = _) (show (0 : Int32).toInt = (0 : Int) from by decide)).mpr q)
                        refine lv_aload_n hx hb dX3_searchFrom_178 rfl (lv_at hl 0 rfl) ?_
                        refine va_get (D := g.1) (ci := 3) (v := .ref h0_ways) (C := RX3) (T := TX3) (N := 13) hx hb hG iX3 hown hX.1 hP 2 rfl rfl 3 (by decide) (hG _ wf_X3_22) (fun _ h9 => h9) rfl dX3_searchFrom_179 ?_
                        refine lv_iload_n hx hb dX3_searchFrom_182 rfl (lv_at hl 3 rfl) ?_
                        refine lv_iload hx hb dX3_searchFrom_183 (lv_at hl 4 rfl) ?_
                        refine zfi (wr := [(h0_ways, .inl (g.2.1.1, 256, .inl fn11403)), (h0_reach, .inl (g.2.1.2.1, 256, .inl fn6028)), (h0, .inr (3, [.ref h0_room, .ref h0_clashing, .ref h0_reach, .ref h0_ways, .ref h0_switches, .ref h0_kind, .ref h0_best, .ref h0_row, .int h0_rowLength, .int h0_bends, .int h0_full, .int x1, .int z1])), (h0_room, .inl (g.2.1.1, 2048, .inl f_h0_room))]) (va_runSN (As := [.int v11402]) (rest := [.int v10292, .ref h0_ways, .int z11517, .int v10292, .ref h0_ways]) ⟨hx, hb, hml, hown, hG⟩ (kX8_bitb l g v11402 (ox_261 c11513i hy2 i11475) _) ⟨va_cnB 1 hG (zGood wc_X8_bit) rfl rfl rfl (hX.2.1.ml wmn_X3_70) (hG _ wini_X8) hX8_bit ⟨Nat.le_of_ble_eq_true rfl, Nat.le_of_ble_eq_true rfl⟩, hG _ ws_X8_bit, trivial⟩ (zpreS hX hP hD hS hA [] rfl (by decide)) rfl rfl hl.1 rfl (lv_room (Nat.le_of_ble_eq_true rfl)) dX3_searchFrom_185 ⟨Nat.le_of_ble_eq_true rfl, Nat.le_of_ble_eq_true rfl⟩) hP hD hS hA [] [0, 1, 2, 3] rfl rfl (by decide) (by decide) (fun r11539 _ H locs hp hP hD hS => ?_)
                        refine W.cs (cells' := 0) (slots' := 0) rfl rfl ?_
                        have hq11540 : 1 ≤ r11539.toInt ∧ r11539.toInt ≤ 128 := hp
                        have hP : va_P g.1 vwCl [(h0_ways, .inl (g.2.1.1, 256, .inl fn11403)), (h0_reach, .inl (g.2.1.2.1, 256, .inl fn6028)), (h0, .inr (3, [.ref h0_room, .ref h0_clashing, .ref h0_reach, .ref h0_ways, .ref h0_switches, .ref h0_kind, .ref h0_best, .ref h0_row, .int h0_rowLength, .int h0_bends, .int h0_full, .int x1, .int z1])), (h0_room, .inl (g.2.1.1, 2048, .inl f_h0_room))] H := hP
                        have hD : va_D A [(h0_ways, .inl (g.2.1.1, 256, .inl fn11403)), (h0_reach, .inl (g.2.1.2.1, 256, .inl fn6028)), (h0, .inr (3, [.ref h0_room, .ref h0_clashing, .ref h0_reach, .ref h0_ways, .ref h0_switches, .ref h0_kind, .ref h0_best, .ref h0_row, .int h0_rowLength, .int h0_bends, .int h0_full, .int x1, .int z1])), (h0_room, .inl (g.2.1.1, 2048, .inl f_h0_room))] := hD
                        refine lv_ior hx hb dX3_searchFrom_188 ?_
                        refine lv_topi (fun z11541 e11542 => ?_)
                        have f11543 : 0 ≤ z11541.toInt ∧ z11541.toInt < 256 := zor 8 e11542 (rfl : v10292.toInt = _) (rfl : r11539.toInt = _) (by decide) (ox_265 c10920i hq11540 hy0 i10918)
                        refine va_iald hx hb hX.1 hP 0 0 rfl rfl (zin (rfl : z11541.toInt = _) (ox_248 f11543)) dX3_searchFrom_189 ?_
                        refine lv_topi (fun z11544 e11545 => ?_)
                        refine lv_goto (tgt := 194) hx hb dX3_searchFrom_190 (by decide) ?_
                        exact J11530 z11544 H locs ls  hP hD hS (lv_sub hl [0, 1, 2, 3, 4] rfl)
              exact L11472 _ (1 : Int32) fn10293 H locs ls ((show 1 ≤ (1 : Int) ∧ (1 : Int) ≤ 9 from by decide)) (Nat.lt_succ_self _) hP hD hS (lv_sub hl [1, 2, 3, 4, 0] rfl)
        exact L10915 _ z9046 f9044 H locs ls (ox_266 c9041i f9048 hy3 i9039) (Nat.lt_succ_self _) hP hD hS (lv_sub hl [1, 2, 3, 0] rfl)
      · skip
        have c9041i : ¬ (h0_full.toInt < v6027.toInt) := fun q => c9041 ((zc_lt (rfl : h0_full.toInt = _) (rfl : v6027.toInt = _)).mpr q)
        refine lv_iconst (v := 1) hx hb dX3_searchFrom_53 (by decide) ?_
        refine lv_istore (lv' := [(4, .int 1), (0, .ref h0), (1, .int x1), (2, .int x2), (3, .int v6027)]) hx hb dX3_searchFrom_54 hl (by decide) rfl (fun ls hl => ?_)
        have L12001 : ∀ (n : Nat) (v11943 : Int32) (fn11944 : Nat → Int32) (H : Heap) (locs : List Loc) (ls : Array Slot), 1 ≤ v11943.toInt ∧ v11943.toInt ≤ 9 → (10 - v11943.toInt).toNat < n → va_P g.1 vwCl [(h0, .inr (3, [.ref h0_room, .ref h0_clashing, .ref h0_reach, .ref h0_ways, .ref h0_switches, .ref h0_kind, .ref h0_best, .ref h0_row, .int h0_rowLength, .int h0_bends, .int h0_full, .int x1, .int z1])), (h0_room, .inl (g.2.1.1, 2048, .inl f_h0_room)), (h0_reach, .inl (g.2.1.2.1, 256, .inl fn11944)), (h0_ways, .inl (g.2.1.1, 256, .inl f9))] H → va_D A [(h0, .inr (3, [.ref h0_room, .ref h0_clashing, .ref h0_reach, .ref h0_ways, .ref h0_switches, .ref h0_kind, .ref h0_best, .ref h0_row, .int h0_rowLength, .int h0_bends, .int h0_full, .int x1, .int z1])), (h0_room, .inl (g.2.1.1, 2048, .inl f_h0_room)), (h0_reach, .inl (g.2.1.2.1, 256, .inl fn11944)), (h0_ways, .inl (g.2.1.1, 256, .inl f9))] → va_S A s.heap H locs → lv_has ls 5 [(0, .ref h0), (1, .int x1), (2, .int x2), (3, .int v6027), (4, .int v11943)] → W p l e rm_kX3_searchFrom s m args below meth c H locs 0 0 Q (F0 m 56 ls []) := by
          intro n12002
          induction n12002 with
          | zero => intro v11943 fn11944 H locs ls i12004 hm12005; exact absurd hm12005 (Nat.not_lt_zero _)
          | succ n12002 ih12003 =>
            intro v11943 fn11944 H locs ls i12004 hm12005 hP hD hS hl
            refine lv_iload hx hb dX3_searchFrom_56 (lv_at hl 4 rfl) ?_
            refine lv_aload_n hx hb dX3_searchFrom_58 rfl (lv_at hl 0 rfl) ?_
            refine va_get (D := g.1) (ci := 3) (v := .int h0_bends) (C := RX3) (T := TX3) (N := 13) hx hb hG iX3 hown hX.1 hP 0 rfl rfl 9 (by decide) (hG _ wf_X3_50) (fun _ h9 => h9) rfl dX3_searchFrom_59 ?_
            have J12032 : ∀  (H : Heap) (locs : List Loc) (ls : Array Slot), va_P g.1 vwCl [(h0, .inr (3, [.ref h0_room, .ref h0_clashing, .ref h0_reach, .ref h0_ways, .ref h0_switches, .ref h0_kind, .ref h0_best, .ref h0_row, .int h0_rowLength, .int h0_bends, .int h0_full, .int x1, .int z1])), (h0_room, .inl (g.2.1.1, 2048, .inl f_h0_room)), (h0_reach, .inl (g.2.1.2.1, 256, .inl fn11944)), (h0_ways, .inl (g.2.1.1, 256, .inl f9))] H → va_D A [(h0, .inr (3, [.ref h0_room, .ref h0_clashing, .ref h0_reach, .ref h0_ways, .ref h0_switches, .ref h0_kind, .ref h0_best, .ref h0_row, .int h0_rowLength, .int h0_bends, .int h0_full, .int x1, .int z1])), (h0_room, .inl (g.2.1.1, 2048, .inl f_h0_room)), (h0_reach, .inl (g.2.1.2.1, 256, .inl fn11944)), (h0_ways, .inl (g.2.1.1, 256, .inl f9))] → va_S A s.heap H locs → lv_has ls 5 [(0, .ref h0), (1, .int x1), (2, .int x2), (3, .int v6027), (4, .int v11943)] → W p l e rm_kX3_searchFrom s m args below meth c H locs 0 0 Q (F0 m 102 ls []) := by
              intro  H locs ls  hP hD hS hl
              obtain ⟨z12033, e12034⟩ : ∃ y9 : Int32, y9 = v6027 + 1 := ⟨_, rfl⟩
              have f12035 : z12033.toInt = v6027.toInt + 1 := za e12034 (rfl : v6027.toInt = _) (show (1 : Int32).toInt = (1 : Int) from by decide) (ox_267 (zr h0_full) (zr v6027) c9041i hy3 i9039)
              refine lv_iinc (v := z12033) (lv' := [(3, .int z12033), (0, .ref h0), (1, .int x1), (2, .int x2), (4, .int v11943)]) hx hb dX3_searchFrom_102 hl (k := 3) rfl (by rw [e12034]; rfl) (by decide) rfl (fun ls hl => ?_)
              refine lv_goto (tgt := 45) hx hb dX3_searchFrom_105 (by decide) ?_
              exact ih9038 z12033 fn11944 H locs ls (ox_268 c9041i f12035 hy3 i9039) (zdec hm9040 (ox_269 c9041i f12035 hy3 i9039)) hP hD hS (lv_sub hl [1, 2, 3, 0] rfl)
            refine lv_icmp_gt (tgt := 102) hx hb dX3_searchFrom_62 (by decide) (fun c12036 => ?_) (fun c12036 => ?_)
            · skip
              have c12036i : h0_bends.toInt < v11943.toInt := (zc_lt (rfl : h0_bends.toInt = _) (rfl : v11943.toInt = _)).mp c12036
              exact J12032 H locs ls  hP hD hS (lv_sub hl [0, 1, 2, 3, 4] rfl)
            · skip
              have c12036i : ¬ (h0_bends.toInt < v11943.toInt) := fun q => c12036 ((zc_lt (rfl : h0_bends.toInt = _) (rfl : v11943.toInt = _)).mpr q)
              refine lv_aload_n hx hb dX3_searchFrom_65 rfl (lv_at hl 0 rfl) ?_
              refine lv_iload_n hx hb dX3_searchFrom_66 rfl (lv_at hl 3 rfl) ?_
              refine zfi (wr := [(h0_room, .inl (g.2.1.1, 2048, .inl f_h0_room)), (h0_ways, .inl (g.2.1.1, 256, .inl f9))]) (va_runV (As := [.int v6027]) (rest := []) ⟨hx, hb, hml, hown, hG⟩ (kX3_isReached l g h0 v6027 h0_room h0_clashing h0_reach h0_ways h0_switches h0_kind h0_best h0_row h0_rowLength h0_bends h0_full x1 z1 fn11944 (ox_270 c9041i hy3 i9039) (ox_1 hy1) (ox_257 c12036i hy2 i12004) (ox_271 c9041i hy3 i9039) (ox_228 hy0) _) ⟨callB_of 1 hG (zGood wc_X3_isReached) rfl rfl rfl (hG _ wini_X3) (hG _ wm_X3_101) hX3_isReached ⟨Nat.le_of_ble_eq_true rfl, Nat.le_of_ble_eq_true rfl⟩, hG _ wi_X3_isReached, hG _ wse_X3_X3_isReached⟩ (zpreV (va_recv hX.1 hP (ci := 3) (q0 := 0) rfl rfl) hX hP hD hS hA [0, 2] rfl (by decide)) rfl rfl hl.1 rfl (lv_room (Nat.le_of_ble_eq_true rfl)) dX3_searchFrom_67 ⟨Nat.le_of_ble_eq_true rfl, Nat.le_of_ble_eq_true rfl⟩) hP hD hS hA [0, 2] [1, 3] rfl rfl (by decide) (by decide) (fun r12037 _ H locs hp hP hD hS => ?_)
              refine W.cs (cells' := 0) (slots' := 0) rfl rfl ?_
              have hq12038 : 0 ≤ r12037.toInt ∧ r12037.toInt ≤ 1 := hp
              have hP : va_P g.1 vwCl [(h0_room, .inl (g.2.1.1, 2048, .inl f_h0_room)), (h0_ways, .inl (g.2.1.1, 256, .inl f9)), (h0, .inr (3, [.ref h0_room, .ref h0_clashing, .ref h0_reach, .ref h0_ways, .ref h0_switches, .ref h0_kind, .ref h0_best, .ref h0_row, .int h0_rowLength, .int h0_bends, .int h0_full, .int x1, .int z1])), (h0_reach, .inl (g.2.1.2.1, 256, .inl fn11944))] H := hP
              have hD : va_D A [(h0_room, .inl (g.2.1.1, 2048, .inl f_h0_room)), (h0_ways, .inl (g.2.1.1, 256, .inl f9)), (h0, .inr (3, [.ref h0_room, .ref h0_clashing, .ref h0_reach, .ref h0_ways, .ref h0_switches, .ref h0_kind, .ref h0_best, .ref h0_row, .int h0_rowLength, .int h0_bends, .int h0_full, .int x1, .int z1])), (h0_reach, .inl (g.2.1.2.1, 256, .inl fn11944))] := hD
              refine lv_if_eq (tgt := 102) hx hb dX3_searchFrom_70 (by decide) (fun c12039 => ?_) (fun c12039 => ?_)
              · skip
                have c12039i : r12037.toInt = (0 : Int) := (zc_eq (rfl : r12037.toInt = _) (show (0 : Int32).toInt = (0 : Int) from by decide)).mp c12039
                exact J12032 H locs ls  (hP.sub [2, 0, 3, 1] rfl) (hD.sub [2, 0, 3, 1] (by decide) rfl) hS (lv_sub hl [0, 1, 2, 3, 4] rfl)
              · skip
                have c12039i : ¬ (r12037.toInt = (0 : Int)) := fun q => c12039 ((zc_eq (rfl : r12037.toInt = _) (show (0 : Int32).toInt = (0 : Int) from by decide)).mpr q)
                refine lv_aload_n hx hb dX3_searchFrom_73 rfl (lv_at hl 0 rfl) ?_
                refine lv_iload_n hx hb dX3_searchFrom_74 rfl (lv_at hl 3 rfl) ?_
                refine lv_iload hx hb dX3_searchFrom_75 (lv_at hl 4 rfl) ?_
                refine zfi (wr := [(h0_ways, .inl (g.2.1.1, 256, .inl f9)), (h0_reach, .inl (g.2.1.2.1, 256, .inl fn11944))]) (va_runV (As := [.int v6027, .int v11943]) (rest := []) ⟨hx, hb, hml, hown, hG⟩ (kX3_isClear l g h0 v6027 v11943 h0_room h0_clashing h0_reach h0_ways h0_switches h0_kind h0_best h0_row h0_rowLength h0_bends h0_full x1 z1 f_h0_room (ox_270 c9041i hy3 i9039) (ox_261 c12036i hy2 i12004) (ox_1 hy1) (ox_257 c12036i hy2 i12004) (ox_271 c9041i hy3 i9039) (ox_228 hy0) _) ⟨callB_of 2 hG (zGood wc_X3_isClear) rfl rfl rfl (hG _ wini_X3) (hG _ wm_X3_105) hX3_isClear ⟨Nat.le_of_ble_eq_true rfl, Nat.le_of_ble_eq_true rfl⟩, hG _ wi_X3_isClear, hG _ wse_X3_X3_isClear⟩ (zpreV (va_recv hX.1 hP (ci := 3) (q0 := 2) rfl rfl) hX hP hD hS hA [2, 0] rfl (by decide)) rfl rfl hl.1 rfl (lv_room (Nat.le_of_ble_eq_true rfl)) dX3_searchFrom_77 ⟨Nat.le_of_ble_eq_true rfl, Nat.le_of_ble_eq_true rfl⟩) hP hD hS hA [2, 0] [1, 3] rfl rfl (by decide) (by decide) (fun r12040 _ H locs hp hP hD hS => ?_)
                refine W.cs (cells' := 0) (slots' := 0) rfl rfl ?_
                have hq12041 : 0 ≤ r12040.toInt ∧ r12040.toInt ≤ 1 := hp
                have hP : va_P g.1 vwCl [(h0_ways, .inl (g.2.1.1, 256, .inl f9)), (h0_reach, .inl (g.2.1.2.1, 256, .inl fn11944)), (h0, .inr (3, [.ref h0_room, .ref h0_clashing, .ref h0_reach, .ref h0_ways, .ref h0_switches, .ref h0_kind, .ref h0_best, .ref h0_row, .int h0_rowLength, .int h0_bends, .int h0_full, .int x1, .int z1])), (h0_room, .inl (g.2.1.1, 2048, .inl f_h0_room))] H := hP
                have hD : va_D A [(h0_ways, .inl (g.2.1.1, 256, .inl f9)), (h0_reach, .inl (g.2.1.2.1, 256, .inl fn11944)), (h0, .inr (3, [.ref h0_room, .ref h0_clashing, .ref h0_reach, .ref h0_ways, .ref h0_switches, .ref h0_kind, .ref h0_best, .ref h0_row, .int h0_rowLength, .int h0_bends, .int h0_full, .int x1, .int z1])), (h0_room, .inl (g.2.1.1, 2048, .inl f_h0_room))] := hD
                have J12051 : ∀  (fn12050 : Nat → Int32) (H : Heap) (locs : List Loc) (ls : Array Slot), va_P g.1 vwCl [(h0_ways, .inl (g.2.1.1, 256, .inl f9)), (h0_reach, .inl (g.2.1.2.1, 256, .inl fn12050)), (h0, .inr (3, [.ref h0_room, .ref h0_clashing, .ref h0_reach, .ref h0_ways, .ref h0_switches, .ref h0_kind, .ref h0_best, .ref h0_row, .int h0_rowLength, .int h0_bends, .int h0_full, .int x1, .int z1])), (h0_room, .inl (g.2.1.1, 2048, .inl f_h0_room))] H → va_D A [(h0_ways, .inl (g.2.1.1, 256, .inl f9)), (h0_reach, .inl (g.2.1.2.1, 256, .inl fn12050)), (h0, .inr (3, [.ref h0_room, .ref h0_clashing, .ref h0_reach, .ref h0_ways, .ref h0_switches, .ref h0_kind, .ref h0_best, .ref h0_row, .int h0_rowLength, .int h0_bends, .int h0_full, .int x1, .int z1])), (h0_room, .inl (g.2.1.1, 2048, .inl f_h0_room))] → va_S A s.heap H locs → lv_has ls 5 [(0, .ref h0), (1, .int x1), (2, .int x2), (3, .int v6027), (4, .int v11943)] → W p l e rm_kX3_searchFrom s m args below meth c H locs 0 0 Q (F0 m 96 ls []) := by
                  intro fn12050 H locs ls  hP hD hS hl
                  obtain ⟨z12052, e12053⟩ : ∃ y9 : Int32, y9 = v11943 + 1 := ⟨_, rfl⟩
                  have f12054 : z12052.toInt = v11943.toInt + 1 := za e12053 (rfl : v11943.toInt = _) (show (1 : Int32).toInt = (1 : Int) from by decide) (ox_262 (zr h0_bends) (zr v11943) c12036i hy2 i12004)
                  refine lv_iinc (v := z12052) (lv' := [(4, .int z12052), (0, .ref h0), (1, .int x1), (2, .int x2), (3, .int v6027)]) hx hb dX3_searchFrom_96 hl (k := 4) rfl (by rw [e12053]; rfl) (by decide) rfl (fun ls hl => ?_)
                  refine lv_goto (tgt := 56) hx hb dX3_searchFrom_99 (by decide) ?_
                  exact ih12003 z12052 fn12050 H locs ls (ox_263 c12036i f12054 hy2 i12004) (zdec hm12005 (ox_264 c12036i f12054 hy2 i12004)) (hP.sub [2, 3, 1, 0] rfl) (hD.sub [2, 3, 1, 0] (by decide) rfl) hS (lv_sub hl [1, 2, 3, 4, 0] rfl)
                refine lv_if_eq (tgt := 96) hx hb dX3_searchFrom_80 (by decide) (fun c12055 => ?_) (fun c12055 => ?_)
                · skip
                  have c12055i : r12040.toInt = (0 : Int) := (zc_eq (rfl : r12040.toInt = _) (show (0 : Int32).toInt = (0 : Int) from by decide)).mp c12055
                  exact J12051 fn11944 H locs ls  hP hD hS (lv_sub hl [0, 1, 2, 3, 4] rfl)
                · skip
                  have c12055i : ¬ (r12040.toInt = (0 : Int)) := fun q => c12055 ((zc_eq (rfl : r12040.toInt = _) (show (0 : Int32).toInt = (0 : Int) from by decide)).mpr q)
                  refine lv_aload_n hx hb dX3_searchFrom_83 rfl (lv_at hl 0 rfl) ?_
                  refine va_get (D := g.1) (ci := 3) (v := .ref h0_reach) (C := RX3) (T := TX3) (N := 13) hx hb hG iX3 hown hX.1 hP 2 rfl rfl 2 (by decide) (hG _ wf_X3_19) (fun _ h9 => h9) rfl dX3_searchFrom_84 ?_
                  refine lv_iload_n hx hb dX3_searchFrom_87 rfl (lv_at hl 3 rfl) ?_
                  refine lv_iload hx hb dX3_searchFrom_88 (lv_at hl 4 rfl) ?_
                  refine zfi (wr := [(h0_ways, .inl (g.2.1.1, 256, .inl f9)), (h0_reach, .inl (g.2.1.2.1, 256, .inl fn11944)), (h0, .inr (3, [.ref h0_room, .ref h0_clashing, .ref h0_reach, .ref h0_ways, .ref h0_switches, .ref h0_kind, .ref h0_best, .ref h0_row, .int h0_rowLength, .int h0_bends, .int h0_full, .int x1, .int z1])), (h0_room, .inl (g.2.1.1, 2048, .inl f_h0_room))]) (va_runSN (As := [.int v11943]) (rest := [.int v6027, .ref h0_reach]) ⟨hx, hb, hml, hown, hG⟩ (kX8_bitb l g v11943 (ox_261 c12036i hy2 i12004) _) ⟨va_cnB 1 hG (zGood wc_X8_bit) rfl rfl rfl (hX.2.1.ml wmn_X3_70) (hG _ wini_X8) hX8_bit ⟨Nat.le_of_ble_eq_true rfl, Nat.le_of_ble_eq_true rfl⟩, hG _ ws_X8_bit, trivial⟩ (zpreS hX hP hD hS hA [] rfl (by decide)) rfl rfl hl.1 rfl (lv_room (Nat.le_of_ble_eq_true rfl)) dX3_searchFrom_90 ⟨Nat.le_of_ble_eq_true rfl, Nat.le_of_ble_eq_true rfl⟩) hP hD hS hA [] [0, 1, 2, 3] rfl rfl (by decide) (by decide) (fun r12056 _ H locs hp hP hD hS => ?_)
                  refine W.cs (cells' := 0) (slots' := 0) rfl rfl ?_
                  have hq12057 : 1 ≤ r12056.toInt ∧ r12056.toInt ≤ 128 := hp
                  have hP : va_P g.1 vwCl [(h0_ways, .inl (g.2.1.1, 256, .inl f9)), (h0_reach, .inl (g.2.1.2.1, 256, .inl fn11944)), (h0, .inr (3, [.ref h0_room, .ref h0_clashing, .ref h0_reach, .ref h0_ways, .ref h0_switches, .ref h0_kind, .ref h0_best, .ref h0_row, .int h0_rowLength, .int h0_bends, .int h0_full, .int x1, .int z1])), (h0_room, .inl (g.2.1.1, 2048, .inl f_h0_room))] H := hP
                  have hD : va_D A [(h0_ways, .inl (g.2.1.1, 256, .inl f9)), (h0_reach, .inl (g.2.1.2.1, 256, .inl fn11944)), (h0, .inr (3, [.ref h0_room, .ref h0_clashing, .ref h0_reach, .ref h0_ways, .ref h0_switches, .ref h0_kind, .ref h0_best, .ref h0_row, .int h0_rowLength, .int h0_bends, .int h0_full, .int x1, .int z1])), (h0_room, .inl (g.2.1.1, 2048, .inl f_h0_room))] := hD
                  refine lv_ior hx hb dX3_searchFrom_93 ?_
                  refine lv_topi (fun z12058 e12059 => ?_)
                  have f12060 : 0 ≤ z12058.toInt ∧ z12058.toInt < 256 := zor 8 e12059 (rfl : v6027.toInt = _) (rfl : r12056.toInt = _) (by decide) (ox_272 c9041i hq12057 hy3 i9039)
                  refine lv_iconst (v := 1) hx hb dX3_searchFrom_94 (by decide) ?_
                  refine va_bast hx hb hX.1 hP hD hS 1 1 rfl rfl (zin (rfl : z12058.toInt = _) (ox_248 f12060)) dX3_searchFrom_95 (fun H locs hP hD hS => ?_)
                  obtain ⟨f12061, e12062⟩ : ∃ z9 : Nat → Int32, z9 = upd fn11944 z12058.toNatClampNeg (vp_nar .byte (1 : Int32)) := ⟨_, rfl⟩
                  rw [← e12062] at hP hD
                  have hP : va_P g.1 vwCl [(h0_ways, .inl (g.2.1.1, 256, .inl f9)), (h0_reach, .inl (g.2.1.2.1, 256, .inl f12061)), (h0, .inr (3, [.ref h0_room, .ref h0_clashing, .ref h0_reach, .ref h0_ways, .ref h0_switches, .ref h0_kind, .ref h0_best, .ref h0_row, .int h0_rowLength, .int h0_bends, .int h0_full, .int x1, .int z1])), (h0_room, .inl (g.2.1.1, 2048, .inl f_h0_room))] H := hP
                  have hD : va_D A [(h0_ways, .inl (g.2.1.1, 256, .inl f9)), (h0_reach, .inl (g.2.1.2.1, 256, .inl f12061)), (h0, .inr (3, [.ref h0_room, .ref h0_clashing, .ref h0_reach, .ref h0_ways, .ref h0_switches, .ref h0_kind, .ref h0_best, .ref h0_row, .int h0_rowLength, .int h0_bends, .int h0_full, .int x1, .int z1])), (h0_room, .inl (g.2.1.1, 2048, .inl f_h0_room))] := hD
                  exact J12051 f12061 H locs ls  hP hD hS (lv_sub hl [0, 1, 2, 3, 4] rfl)
        exact L12001 _ (1 : Int32) fn6028 H locs ls ((show 1 ≤ (1 : Int) ∧ (1 : Int) ≤ 9 from by decide)) (Nat.lt_succ_self _) hP hD hS (lv_sub hl [1, 2, 3, 4, 0] rfl)
  exact L9036 _ x1 f10 H locs ls (ox_273 hy0) (Nat.lt_succ_self _) hP hD hS (lv_sub hl [1, 2, 3, 0] rfl)
theorem dX3_goesOn_0 : decode cX3_goesOn 0 = .ok (.aload_n 0, 1) := by decide +kernel
theorem dX3_goesOn_1 : decode cX3_goesOn 1 = .ok (.iload_n 1, 1) := by decide +kernel
theorem dX3_goesOn_2 : decode cX3_goesOn 2 = .ok (.iload_n 2, 1) := by decide +kernel
theorem dX3_goesOn_3 : decode cX3_goesOn 3 = .ok (.invokevirtual 105, 3) := by decide +kernel
theorem dX3_goesOn_6 : decode cX3_goesOn 6 = .ok (.ifCond .eq 21, 3) := by decide +kernel
theorem dX3_goesOn_27 : decode cX3_goesOn 27 = .ok (.iconst 0, 1) := by decide +kernel
theorem dX3_goesOn_28 : decode cX3_goesOn 28 = .ok (.ireturn, 1) := by decide +kernel
theorem dX3_goesOn_9 : decode cX3_goesOn 9 = .ok (.aload_n 0, 1) := by decide +kernel
theorem dX3_goesOn_10 : decode cX3_goesOn 10 = .ok (.getfield 22, 3) := by decide +kernel
theorem dX3_goesOn_13 : decode cX3_goesOn 13 = .ok (.iload_n 1, 1) := by decide +kernel
theorem dX3_goesOn_14 : decode cX3_goesOn 14 = .ok (.iload_n 2, 1) := by decide +kernel
theorem dX3_goesOn_15 : decode cX3_goesOn 15 = .ok (.invokestatic 70, 3) := by decide +kernel
theorem dX3_goesOn_18 : decode cX3_goesOn 18 = .ok (.ior, 1) := by decide +kernel
theorem dX3_goesOn_19 : decode cX3_goesOn 19 = .ok (.iaload, 1) := by decide +kernel
theorem dX3_goesOn_20 : decode cX3_goesOn 20 = .ok (.ifCond .le 7, 3) := by decide +kernel
theorem dX3_goesOn_23 : decode cX3_goesOn 23 = .ok (.iconst 1, 1) := by decide +kernel
theorem dX3_goesOn_24 : decode cX3_goesOn 24 = .ok (.goto 4, 3) := by decide +kernel
abbrev rm_kX3_goesOn : Room := { frames := 2, cells := 0, slots := 0, locals := 43 }
set_option maxHeartbeats 4000000 in
set_option maxRecDepth 100000 in
theorem kX3_goesOn (l : Launch) (g : zL) (h0 : Nat) (x1 : Int32) (x2 : Int32) (h0_room : Nat) (h0_clashing : Nat) (h0_reach : Nat) (h0_ways : Nat) (h0_switches : Nat) (h0_kind : Nat) (h0_best : Nat) (h0_row : Nat) (h0_rowLength : Int32) (h0_bends : Int32) (h0_full : Int32) (h0_first : Int32) (h0_punch : Int32) (f_h0_room : Nat → Int32) (f_h0_ways : Nat → Int32) (hy0 : 0 ≤ x1.toInt ∧ x1.toInt ≤ 255) (hy1 : 1 ≤ x2.toInt ∧ x2.toInt ≤ 8) (hy2 : 0 ≤ h0_rowLength.toInt ∧ h0_rowLength.toInt ≤ 8) (hy3 : (-1) ≤ h0_bends.toInt ∧ h0_bends.toInt ≤ 8) (hy4 : 0 ≤ h0_full.toInt ∧ h0_full.toInt ≤ 255) (hy5 : 0 ≤ h0_first.toInt ∧ h0_first.toInt ≤ 255) : zCi l g yX3_goesOn cX3_goesOn 3 (some .boolean) rm_kX3_goesOn [.ref h0, .int x1, .int x2] [(h0, .inr (3, [.ref h0_room, .ref h0_clashing, .ref h0_reach, .ref h0_ways, .ref h0_switches, .ref h0_kind, .ref h0_best, .ref h0_row, .int h0_rowLength, .int h0_bends, .int h0_full, .int h0_first, .int h0_punch])), (h0_room, .inl (g.2.1.1, 2048, .inl f_h0_room)), (h0_ways, .inl (g.2.1.1, 256, .inl f_h0_ways))] (fun (r : Int32) (u : Unit) => (0 ≤ r.toInt ∧ r.toInt ≤ 1)) (fun (u : Unit) => [(h0, .inr (3, [.ref h0_room, .ref h0_clashing, .ref h0_reach, .ref h0_ways, .ref h0_switches, .ref h0_kind, .ref h0_best, .ref h0_row, .int h0_rowLength, .int h0_bends, .int h0_full, .int h0_first, .int h0_punch])), (h0_room, .inl (g.2.1.1, 2048, .inl f_h0_room)), (h0_ways, .inl (g.2.1.1, 256, .inl f_h0_ways))]) := by
  refine zCi.mk2 (by decide) (Nat.le_of_ble_eq_true rfl) ?_
  intro p e s m below meth c A args Q hE hret hP hD hS ls hl
  obtain ⟨hx, hb, hr, hml, hown, hG, hlocks, hnm, hX, hA⟩ := hE
  have hown : s.vm.findClass RX3 = some m.cls := hown
  have hl : lv_has ls 3 [(0, .ref h0), (1, .int x1), (2, .int x2)] := hl
  refine lv_aload_n hx hb dX3_goesOn_0 rfl (lv_at hl 0 rfl) ?_
  refine lv_iload_n hx hb dX3_goesOn_1 rfl (lv_at hl 1 rfl) ?_
  refine lv_iload_n hx hb dX3_goesOn_2 rfl (lv_at hl 2 rfl) ?_
  refine zfi (wr := [(h0_ways, .inl (g.2.1.1, 256, .inl f_h0_ways))]) (va_runV (As := [.int x1, .int x2]) (rest := []) ⟨hx, hb, hml, hown, hG⟩ (kX3_isClear l g h0 x1 x2 h0_room h0_clashing h0_reach h0_ways h0_switches h0_kind h0_best h0_row h0_rowLength h0_bends h0_full h0_first h0_punch f_h0_room (ox_228 hy0) (ox_209 hy1) (ox_1 hy2) (ox_274 hy3) (ox_228 hy4) (ox_228 hy5) _) ⟨callB_of 2 hG (zGood wc_X3_isClear) rfl rfl rfl (hG _ wini_X3) (hG _ wm_X3_105) hX3_isClear ⟨Nat.le_of_ble_eq_true rfl, Nat.le_of_ble_eq_true rfl⟩, hG _ wi_X3_isClear, hG _ wse_X3_X3_isClear⟩ (zpreV (va_recv hX.1 hP (ci := 3) (q0 := 0) rfl rfl) hX hP hD hS hA [0, 1] rfl (by decide)) rfl rfl hl.1 rfl (lv_room (Nat.le_of_ble_eq_true rfl)) dX3_goesOn_3 ⟨Nat.le_of_ble_eq_true rfl, Nat.le_of_ble_eq_true rfl⟩) hP hD hS hA [0, 1] [2] rfl rfl (by decide) (by decide) (fun r1 _ H locs hp hP hD hS => ?_)
  refine W.cs (cells' := 0) (slots' := 0) rfl rfl ?_
  have hq2 : 0 ≤ r1.toInt ∧ r1.toInt ≤ 1 := hp
  have hP : va_P g.1 vwCl [(h0_ways, .inl (g.2.1.1, 256, .inl f_h0_ways)), (h0, .inr (3, [.ref h0_room, .ref h0_clashing, .ref h0_reach, .ref h0_ways, .ref h0_switches, .ref h0_kind, .ref h0_best, .ref h0_row, .int h0_rowLength, .int h0_bends, .int h0_full, .int h0_first, .int h0_punch])), (h0_room, .inl (g.2.1.1, 2048, .inl f_h0_room))] H := hP
  have hD : va_D A [(h0_ways, .inl (g.2.1.1, 256, .inl f_h0_ways)), (h0, .inr (3, [.ref h0_room, .ref h0_clashing, .ref h0_reach, .ref h0_ways, .ref h0_switches, .ref h0_kind, .ref h0_best, .ref h0_row, .int h0_rowLength, .int h0_bends, .int h0_full, .int h0_first, .int h0_punch])), (h0_room, .inl (g.2.1.1, 2048, .inl f_h0_room))] := hD
  refine lv_if_eq (tgt := 27) hx hb dX3_goesOn_6 (by decide) (fun c3 => ?_) (fun c3 => ?_)
  · skip
    have c3i : r1.toInt = (0 : Int) := (zc_eq (rfl : r1.toInt = _) (show (0 : Int32).toInt = (0 : Int) from by decide)).mp c3
    refine lv_iconst (v := 0) hx hb dX3_goesOn_27 (by decide) ?_
    exact hret (0 : Int32) () (Nat.le_of_ble_eq_true rfl) (Nat.le_of_ble_eq_true rfl) rfl ((show 0 ≤ (0 : Int) ∧ (0 : Int) ≤ 1 from by decide)) (hP.sub [1, 2, 0] rfl) (hD.sub [1, 2, 0] (by decide) rfl) hS dX3_goesOn_28
  · skip
    have c3i : ¬ (r1.toInt = (0 : Int)) := fun q => c3 ((zc_eq (rfl : r1.toInt = _) (show (0 : Int32).toInt = (0 : Int) from by decide)).mpr q)
    refine lv_aload_n hx hb dX3_goesOn_9 rfl (lv_at hl 0 rfl) ?_
    refine va_get (D := g.1) (ci := 3) (v := .ref h0_ways) (C := RX3) (T := TX3) (N := 13) hx hb hG iX3 hown hX.1 hP 1 rfl rfl 3 (by decide) (hG _ wf_X3_22) (fun _ h9 => h9) rfl dX3_goesOn_10 ?_
    refine lv_iload_n hx hb dX3_goesOn_13 rfl (lv_at hl 1 rfl) ?_
    refine lv_iload_n hx hb dX3_goesOn_14 rfl (lv_at hl 2 rfl) ?_
    refine zfi (wr := [(h0_ways, .inl (g.2.1.1, 256, .inl f_h0_ways)), (h0, .inr (3, [.ref h0_room, .ref h0_clashing, .ref h0_reach, .ref h0_ways, .ref h0_switches, .ref h0_kind, .ref h0_best, .ref h0_row, .int h0_rowLength, .int h0_bends, .int h0_full, .int h0_first, .int h0_punch])), (h0_room, .inl (g.2.1.1, 2048, .inl f_h0_room))]) (va_runSN (As := [.int x2]) (rest := [.int x1, .ref h0_ways]) ⟨hx, hb, hml, hown, hG⟩ (kX8_bitb l g x2 (ox_209 hy1) _) ⟨va_cnB 1 hG (zGood wc_X8_bit) rfl rfl rfl (hX.2.1.ml wmn_X3_70) (hG _ wini_X8) hX8_bit ⟨Nat.le_of_ble_eq_true rfl, Nat.le_of_ble_eq_true rfl⟩, hG _ ws_X8_bit, trivial⟩ (zpreS hX hP hD hS hA [] rfl (by decide)) rfl rfl hl.1 rfl (lv_room (Nat.le_of_ble_eq_true rfl)) dX3_goesOn_15 ⟨Nat.le_of_ble_eq_true rfl, Nat.le_of_ble_eq_true rfl⟩) hP hD hS hA [] [0, 1, 2] rfl rfl (by decide) (by decide) (fun r4 _ H locs hp hP hD hS => ?_)
    refine W.cs (cells' := 0) (slots' := 0) rfl rfl ?_
    have hq5 : 1 ≤ r4.toInt ∧ r4.toInt ≤ 128 := hp
    have hP : va_P g.1 vwCl [(h0_ways, .inl (g.2.1.1, 256, .inl f_h0_ways)), (h0, .inr (3, [.ref h0_room, .ref h0_clashing, .ref h0_reach, .ref h0_ways, .ref h0_switches, .ref h0_kind, .ref h0_best, .ref h0_row, .int h0_rowLength, .int h0_bends, .int h0_full, .int h0_first, .int h0_punch])), (h0_room, .inl (g.2.1.1, 2048, .inl f_h0_room))] H := hP
    have hD : va_D A [(h0_ways, .inl (g.2.1.1, 256, .inl f_h0_ways)), (h0, .inr (3, [.ref h0_room, .ref h0_clashing, .ref h0_reach, .ref h0_ways, .ref h0_switches, .ref h0_kind, .ref h0_best, .ref h0_row, .int h0_rowLength, .int h0_bends, .int h0_full, .int h0_first, .int h0_punch])), (h0_room, .inl (g.2.1.1, 2048, .inl f_h0_room))] := hD
    refine lv_ior hx hb dX3_goesOn_18 ?_
    refine lv_topi (fun z6 e7 => ?_)
    have f8 : 0 ≤ z6.toInt ∧ z6.toInt < 256 := zor 8 e7 (rfl : x1.toInt = _) (rfl : r4.toInt = _) (by decide) (ox_275 hq5 hy0)
    refine va_iald hx hb hX.1 hP 0 0 rfl rfl (zin (rfl : z6.toInt = _) (ox_248 f8)) dX3_goesOn_19 ?_
    refine lv_topi (fun z9 e10 => ?_)
    refine lv_if_le (tgt := 27) hx hb dX3_goesOn_20 (by decide) (fun c11 => ?_) (fun c11 => ?_)
    · skip
      have c11i : z9.toInt ≤ (0 : Int) := (zc_le (rfl : z9.toInt = _) (show (0 : Int32).toInt = (0 : Int) from by decide)).mp c11
      refine lv_iconst (v := 0) hx hb dX3_goesOn_27 (by decide) ?_
      exact hret (0 : Int32) () (Nat.le_of_ble_eq_true rfl) (Nat.le_of_ble_eq_true rfl) rfl ((show 0 ≤ (0 : Int) ∧ (0 : Int) ≤ 1 from by decide)) (hP.sub [1, 2, 0] rfl) (hD.sub [1, 2, 0] (by decide) rfl) hS dX3_goesOn_28
    · skip
      have c11i : ¬ (z9.toInt ≤ (0 : Int)) := fun q => c11 ((zc_le (rfl : z9.toInt = _) (show (0 : Int32).toInt = (0 : Int) from by decide)).mpr q)
      refine lv_iconst (v := 1) hx hb dX3_goesOn_23 (by decide) ?_
      refine lv_goto (tgt := 28) hx hb dX3_goesOn_24 (by decide) ?_
      exact hret (1 : Int32) () (Nat.le_of_ble_eq_true rfl) (Nat.le_of_ble_eq_true rfl) rfl ((show 0 ≤ (1 : Int) ∧ (1 : Int) ≤ 1 from by decide)) (hP.sub [1, 2, 0] rfl) (hD.sub [1, 2, 0] (by decide) rfl) hS dX3_goesOn_28
theorem dX3_firstThatGoesOn_0 : decode cX3_firstThatGoesOn 0 = .ok (.iconst 1, 1) := by decide +kernel
theorem dX3_firstThatGoesOn_1 : decode cX3_firstThatGoesOn 1 = .ok (.istore_n 2, 1) := by decide +kernel
theorem dX3_firstThatGoesOn_2 : decode cX3_firstThatGoesOn 2 = .ok (.iload_n 2, 1) := by decide +kernel
theorem dX3_firstThatGoesOn_3 : decode cX3_firstThatGoesOn 3 = .ok (.aload_n 0, 1) := by decide +kernel
theorem dX3_firstThatGoesOn_4 : decode cX3_firstThatGoesOn 4 = .ok (.getfield 50, 3) := by decide +kernel
theorem dX3_firstThatGoesOn_7 : decode cX3_firstThatGoesOn 7 = .ok (.if_icmp .gt 20, 3) := by decide +kernel
theorem dX3_firstThatGoesOn_27 : decode cX3_firstThatGoesOn 27 = .ok (.iconst 0, 1) := by decide +kernel
theorem dX3_firstThatGoesOn_28 : decode cX3_firstThatGoesOn 28 = .ok (.ireturn, 1) := by decide +kernel
theorem dX3_firstThatGoesOn_10 : decode cX3_firstThatGoesOn 10 = .ok (.aload_n 0, 1) := by decide +kernel
theorem dX3_firstThatGoesOn_11 : decode cX3_firstThatGoesOn 11 = .ok (.iload_n 1, 1) := by decide +kernel
theorem dX3_firstThatGoesOn_12 : decode cX3_firstThatGoesOn 12 = .ok (.iload_n 2, 1) := by decide +kernel
theorem dX3_firstThatGoesOn_13 : decode cX3_firstThatGoesOn 13 = .ok (.invokevirtual 117, 3) := by decide +kernel
theorem dX3_firstThatGoesOn_16 : decode cX3_firstThatGoesOn 16 = .ok (.ifCond .eq 5, 3) := by decide +kernel
theorem dX3_firstThatGoesOn_21 : decode cX3_firstThatGoesOn 21 = .ok (.iinc 2 1, 3) := by decide +kernel
theorem dX3_firstThatGoesOn_24 : decode cX3_firstThatGoesOn 24 = .ok (.goto (-22), 3) := by decide +kernel
theorem dX3_firstThatGoesOn_19 : decode cX3_firstThatGoesOn 19 = .ok (.iload_n 2, 1) := by decide +kernel
theorem dX3_firstThatGoesOn_20 : decode cX3_firstThatGoesOn 20 = .ok (.ireturn, 1) := by decide +kernel
abbrev rm_kX3_firstThatGoesOn : Room := { frames := 3, cells := 0, slots := 0, locals := 65 }
set_option maxHeartbeats 4000000 in
set_option maxRecDepth 100000 in
theorem kX3_firstThatGoesOn (l : Launch) (g : zL) (h0 : Nat) (x1 : Int32) (h0_room : Nat) (h0_clashing : Nat) (h0_reach : Nat) (h0_ways : Nat) (h0_switches : Nat) (h0_kind : Nat) (h0_best : Nat) (h0_row : Nat) (h0_rowLength : Int32) (h0_bends : Int32) (h0_full : Int32) (h0_first : Int32) (h0_punch : Int32) (f_h0_room : Nat → Int32) (f_h0_ways : Nat → Int32) (hy0 : 0 ≤ x1.toInt ∧ x1.toInt ≤ 255) (hy1 : 0 ≤ h0_rowLength.toInt ∧ h0_rowLength.toInt ≤ 8) (hy2 : (-1) ≤ h0_bends.toInt ∧ h0_bends.toInt ≤ 8) (hy3 : 0 ≤ h0_full.toInt ∧ h0_full.toInt ≤ 255) (hy4 : 0 ≤ h0_first.toInt ∧ h0_first.toInt ≤ 255) : zCi l g yX3_firstThatGoesOn cX3_firstThatGoesOn 3 (some .int) rm_kX3_firstThatGoesOn [.ref h0, .int x1] [(h0, .inr (3, [.ref h0_room, .ref h0_clashing, .ref h0_reach, .ref h0_ways, .ref h0_switches, .ref h0_kind, .ref h0_best, .ref h0_row, .int h0_rowLength, .int h0_bends, .int h0_full, .int h0_first, .int h0_punch])), (h0_room, .inl (g.2.1.1, 2048, .inl f_h0_room)), (h0_ways, .inl (g.2.1.1, 256, .inl f_h0_ways))] (fun (r : Int32) (u : Unit) => (0 ≤ r.toInt ∧ r.toInt ≤ 8)) (fun (u : Unit) => [(h0, .inr (3, [.ref h0_room, .ref h0_clashing, .ref h0_reach, .ref h0_ways, .ref h0_switches, .ref h0_kind, .ref h0_best, .ref h0_row, .int h0_rowLength, .int h0_bends, .int h0_full, .int h0_first, .int h0_punch])), (h0_room, .inl (g.2.1.1, 2048, .inl f_h0_room)), (h0_ways, .inl (g.2.1.1, 256, .inl f_h0_ways))]) := by
  refine zCi.mk2 (by decide) (Nat.le_of_ble_eq_true rfl) ?_
  intro p e s m below meth c A args Q hE hret hP hD hS ls hl
  obtain ⟨hx, hb, hr, hml, hown, hG, hlocks, hnm, hX, hA⟩ := hE
  have hown : s.vm.findClass RX3 = some m.cls := hown
  have hl : lv_has ls 3 [(0, .ref h0), (1, .int x1)] := hl
  refine lv_iconst (v := 1) hx hb dX3_firstThatGoesOn_0 (by decide) ?_
  refine lv_istore_n (lv' := [(2, .int 1), (0, .ref h0), (1, .int x1)]) hx hb dX3_firstThatGoesOn_1 rfl hl (by decide) rfl (fun ls hl => ?_)
  have L68 : ∀ (n : Nat) (v59 : Int32) (H : Heap) (locs : List Loc) (ls : Array Slot), 1 ≤ v59.toInt ∧ v59.toInt ≤ 9 → (10 - v59.toInt).toNat < n → va_P g.1 vwCl [(h0, .inr (3, [.ref h0_room, .ref h0_clashing, .ref h0_reach, .ref h0_ways, .ref h0_switches, .ref h0_kind, .ref h0_best, .ref h0_row, .int h0_rowLength, .int h0_bends, .int h0_full, .int h0_first, .int h0_punch])), (h0_room, .inl (g.2.1.1, 2048, .inl f_h0_room)), (h0_ways, .inl (g.2.1.1, 256, .inl f_h0_ways))] H → va_D A [(h0, .inr (3, [.ref h0_room, .ref h0_clashing, .ref h0_reach, .ref h0_ways, .ref h0_switches, .ref h0_kind, .ref h0_best, .ref h0_row, .int h0_rowLength, .int h0_bends, .int h0_full, .int h0_first, .int h0_punch])), (h0_room, .inl (g.2.1.1, 2048, .inl f_h0_room)), (h0_ways, .inl (g.2.1.1, 256, .inl f_h0_ways))] → va_S A s.heap H locs → lv_has ls 3 [(0, .ref h0), (1, .int x1), (2, .int v59)] → W p l e rm_kX3_firstThatGoesOn s m args below meth c H locs 0 0 Q (F0 m 2 ls []) := by
    intro n69
    induction n69 with
    | zero => intro v59 H locs ls i71 hm72; exact absurd hm72 (Nat.not_lt_zero _)
    | succ n69 ih70 =>
      intro v59 H locs ls i71 hm72 hP hD hS hl
      refine lv_iload_n hx hb dX3_firstThatGoesOn_2 rfl (lv_at hl 2 rfl) ?_
      refine lv_aload_n hx hb dX3_firstThatGoesOn_3 rfl (lv_at hl 0 rfl) ?_
      refine va_get (D := g.1) (ci := 3) (v := .int h0_bends) (C := RX3) (T := TX3) (N := 13) hx hb hG iX3 hown hX.1 hP 0 rfl rfl 9 (by decide) (hG _ wf_X3_50) (fun _ h9 => h9) rfl dX3_firstThatGoesOn_4 ?_
      refine lv_icmp_gt (tgt := 27) hx hb dX3_firstThatGoesOn_7 (by decide) (fun c73 => ?_) (fun c73 => ?_)
      · skip
        have c73i : h0_bends.toInt < v59.toInt := (zc_lt (rfl : h0_bends.toInt = _) (rfl : v59.toInt = _)).mp c73
        refine lv_iconst (v := 0) hx hb dX3_firstThatGoesOn_27 (by decide) ?_
        exact hret (0 : Int32) () (Nat.le_of_ble_eq_true rfl) (Nat.le_of_ble_eq_true rfl) rfl ((show 0 ≤ (0 : Int) ∧ (0 : Int) ≤ 8 from by decide)) hP hD hS dX3_firstThatGoesOn_28
      · skip
        have c73i : ¬ (h0_bends.toInt < v59.toInt) := fun q => c73 ((zc_lt (rfl : h0_bends.toInt = _) (rfl : v59.toInt = _)).mpr q)
        refine lv_aload_n hx hb dX3_firstThatGoesOn_10 rfl (lv_at hl 0 rfl) ?_
        refine lv_iload_n hx hb dX3_firstThatGoesOn_11 rfl (lv_at hl 1 rfl) ?_
        refine lv_iload_n hx hb dX3_firstThatGoesOn_12 rfl (lv_at hl 2 rfl) ?_
        refine zfi (wr := []) (va_runV (As := [.int x1, .int v59]) (rest := []) ⟨hx, hb, hml, hown, hG⟩ (kX3_goesOn l g h0 x1 v59 h0_room h0_clashing h0_reach h0_ways h0_switches h0_kind h0_best h0_row h0_rowLength h0_bends h0_full h0_first h0_punch f_h0_room f_h0_ways (ox_228 hy0) (ox_261 c73i hy2 i71) (ox_1 hy1) (ox_257 c73i hy2 i71) (ox_228 hy3) (ox_228 hy4) _) ⟨callB_of 2 hG (zGood wc_X3_goesOn) rfl rfl rfl (hG _ wini_X3) (hG _ wm_X3_117) hX3_goesOn ⟨Nat.le_of_ble_eq_true rfl, Nat.le_of_ble_eq_true rfl⟩, hG _ wi_X3_goesOn, hG _ wse_X3_X3_goesOn⟩ (zpreV (va_recv hX.1 hP (ci := 3) (q0 := 0) rfl rfl) hX hP hD hS hA [0, 1, 2] rfl (by decide)) rfl rfl hl.1 rfl (lv_room (Nat.le_of_ble_eq_true rfl)) dX3_firstThatGoesOn_13 ⟨Nat.le_of_ble_eq_true rfl, Nat.le_of_ble_eq_true rfl⟩) hP hD hS hA [0, 1, 2] [] rfl rfl (by decide) (by decide) (fun r74 _ H locs hp hP hD hS => ?_)
        refine W.cs (cells' := 0) (slots' := 0) rfl rfl ?_
        have hq75 : 0 ≤ r74.toInt ∧ r74.toInt ≤ 1 := hp
        have hP : va_P g.1 vwCl [(h0, .inr (3, [.ref h0_room, .ref h0_clashing, .ref h0_reach, .ref h0_ways, .ref h0_switches, .ref h0_kind, .ref h0_best, .ref h0_row, .int h0_rowLength, .int h0_bends, .int h0_full, .int h0_first, .int h0_punch])), (h0_room, .inl (g.2.1.1, 2048, .inl f_h0_room)), (h0_ways, .inl (g.2.1.1, 256, .inl f_h0_ways))] H := hP
        have hD : va_D A [(h0, .inr (3, [.ref h0_room, .ref h0_clashing, .ref h0_reach, .ref h0_ways, .ref h0_switches, .ref h0_kind, .ref h0_best, .ref h0_row, .int h0_rowLength, .int h0_bends, .int h0_full, .int h0_first, .int h0_punch])), (h0_room, .inl (g.2.1.1, 2048, .inl f_h0_room)), (h0_ways, .inl (g.2.1.1, 256, .inl f_h0_ways))] := hD
        refine lv_if_eq (tgt := 21) hx hb dX3_firstThatGoesOn_16 (by decide) (fun c76 => ?_) (fun c76 => ?_)
        · skip
          have c76i : r74.toInt = (0 : Int) := (zc_eq (rfl : r74.toInt = _) (show (0 : Int32).toInt = (0 : Int) from by decide)).mp c76
          obtain ⟨z77, e78⟩ : ∃ y9 : Int32, y9 = v59 + 1 := ⟨_, rfl⟩
          have f79 : z77.toInt = v59.toInt + 1 := za e78 (rfl : v59.toInt = _) (show (1 : Int32).toInt = (1 : Int) from by decide) (ox_262 (zr h0_bends) (zr v59) c73i hy2 i71)
          refine lv_iinc (v := z77) (lv' := [(2, .int z77), (0, .ref h0), (1, .int x1)]) hx hb dX3_firstThatGoesOn_21 hl (k := 2) rfl (by rw [e78]; rfl) (by decide) rfl (fun ls hl => ?_)
          refine lv_goto (tgt := 2) hx hb dX3_firstThatGoesOn_24 (by decide) ?_
          exact ih70 z77 H locs ls (ox_263 c73i f79 hy2 i71) (zdec hm72 (ox_264 c73i f79 hy2 i71)) hP hD hS (lv_sub hl [1, 2, 0] rfl)
        · skip
          have c76i : ¬ (r74.toInt = (0 : Int)) := fun q => c76 ((zc_eq (rfl : r74.toInt = _) (show (0 : Int32).toInt = (0 : Int) from by decide)).mpr q)
          refine lv_iload_n hx hb dX3_firstThatGoesOn_19 rfl (lv_at hl 2 rfl) ?_
          exact hret v59 () (Nat.le_of_ble_eq_true rfl) (Nat.le_of_ble_eq_true rfl) rfl (ox_276 c73i hy2 i71) hP hD hS dX3_firstThatGoesOn_20
  exact L68 _ (1 : Int32) _ _ ls ((show 1 ≤ (1 : Int) ∧ (1 : Int) ≤ 9 from by decide)) (Nat.lt_succ_self _) hP hD hS (lv_sub hl [1, 2, 0] rfl)
theorem dX3_append_0 : decode cX3_append 0 = .ok (.aload_n 0, 1) := by decide +kernel
theorem dX3_append_1 : decode cX3_append 1 = .ok (.getfield 108, 3) := by decide +kernel
theorem dX3_append_4 : decode cX3_append 4 = .ok (.bipush 8, 2) := by decide +kernel
theorem dX3_append_29 : decode cX3_append 29 = .ok (.iload_n 1, 1) := by decide +kernel
theorem dX3_append_30 : decode cX3_append 30 = .ok (.iload_n 2, 1) := by decide +kernel
theorem dX3_append_31 : decode cX3_append 31 = .ok (.invokestatic 70, 3) := by decide +kernel
theorem dX3_append_34 : decode cX3_append 34 = .ok (.ior, 1) := by decide +kernel
theorem dX3_append_35 : decode cX3_append 35 = .ok (.ireturn, 1) := by decide +kernel
theorem dX3_append_6 : decode cX3_append 6 = .ok (.if_icmp .ge 23, 3) := by decide +kernel
theorem dX3_append_9 : decode cX3_append 9 = .ok (.aload_n 0, 1) := by decide +kernel
theorem dX3_append_10 : decode cX3_append 10 = .ok (.getfield 34, 3) := by decide +kernel
theorem dX3_append_13 : decode cX3_append 13 = .ok (.aload_n 0, 1) := by decide +kernel
theorem dX3_append_14 : decode cX3_append 14 = .ok (.getfield 108, 3) := by decide +kernel
theorem dX3_append_17 : decode cX3_append 17 = .ok (.iload_n 2, 1) := by decide +kernel
theorem dX3_append_18 : decode cX3_append 18 = .ok (.iastore, 1) := by decide +kernel
theorem dX3_append_19 : decode cX3_append 19 = .ok (.aload_n 0, 1) := by decide +kernel
theorem dX3_append_20 : decode cX3_append 20 = .ok (.dup, 1) := by decide +kernel
theorem dX3_append_21 : decode cX3_append 21 = .ok (.getfield 108, 3) := by decide +kernel
theorem dX3_append_24 : decode cX3_append 24 = .ok (.iconst 1, 1) := by decide +kernel
theorem dX3_append_25 : decode cX3_append 25 = .ok (.iadd, 1) := by decide +kernel
theorem dX3_append_26 : decode cX3_append 26 = .ok (.putfield 108, 3) := by decide +kernel
abbrev rm_kX3_append : Room := { frames := 1, cells := 0, slots := 0, locals := 20 }
set_option maxHeartbeats 4000000 in
set_option maxRecDepth 100000 in
theorem kX3_append (l : Launch) (g : zL) (h0 : Nat) (x1 : Int32) (x2 : Int32) (h0_room : Nat) (h0_clashing : Nat) (h0_reach : Nat) (h0_ways : Nat) (h0_switches : Nat) (h0_kind : Nat) (h0_best : Nat) (h0_row : Nat) (h0_rowLength : Int32) (h0_bends : Int32) (h0_full : Int32) (h0_first : Int32) (h0_punch : Int32) (f_h0_row : Nat → Int32) (hy0 : 0 ≤ x1.toInt ∧ x1.toInt ≤ 255) (hy1 : 1 ≤ x2.toInt ∧ x2.toInt ≤ 8) (hy2 : 0 ≤ h0_rowLength.toInt ∧ h0_rowLength.toInt ≤ 8) (hy3 : (-1) ≤ h0_bends.toInt ∧ h0_bends.toInt ≤ 8) (hy4 : 0 ≤ h0_full.toInt ∧ h0_full.toInt ≤ 255) (hy5 : 0 ≤ h0_first.toInt ∧ h0_first.toInt ≤ 255) (hy6 : True) (hy7 : pRow h0_rowLength f_h0_row) : zCi l g yX3_append cX3_append 3 (some .int) rm_kX3_append [.ref h0, .int x1, .int x2] [(h0, .inr (3, [.ref h0_room, .ref h0_clashing, .ref h0_reach, .ref h0_ways, .ref h0_switches, .ref h0_kind, .ref h0_best, .ref h0_row, .int h0_rowLength, .int h0_bends, .int h0_full, .int h0_first, .int h0_punch])), (h0_row, .inl (g.2.1.1, 8, .inl f_h0_row))] (fun (r : Int32) (u : Int32 × (Nat → Int32)) => (1 ≤ u.1.toInt ∧ u.1.toInt ≤ 8) ∧ (True) ∧ (0 ≤ r.toInt ∧ r.toInt ≤ 255) ∧ (pRow u.1 u.2)) (fun (u : Int32 × (Nat → Int32)) => [(h0, .inr (3, [.ref h0_room, .ref h0_clashing, .ref h0_reach, .ref h0_ways, .ref h0_switches, .ref h0_kind, .ref h0_best, .ref h0_row, .int u.1, .int h0_bends, .int h0_full, .int h0_first, .int h0_punch])), (h0_row, .inl (g.2.1.1, 8, .inl u.2))]) := by
  refine zCi.mk2 (by decide) (Nat.le_of_ble_eq_true rfl) ?_
  intro p e s m below meth c A args Q hE hret hP hD hS ls hl
  obtain ⟨hx, hb, hr, hml, hown, hG, hlocks, hnm, hX, hA⟩ := hE
  have hown : s.vm.findClass RX3 = some m.cls := hown
  have hl : lv_has ls 3 [(0, .ref h0), (1, .int x1), (2, .int x2)] := hl
  refine lv_aload_n hx hb dX3_append_0 rfl (lv_at hl 0 rfl) ?_
  refine va_get (D := g.1) (ci := 3) (v := .int h0_rowLength) (C := RX3) (T := TX3) (N := 13) hx hb hG iX3 hown hX.1 hP 0 rfl rfl 8 (by decide) (hG _ wf_X3_108) (fun _ h9 => h9) rfl dX3_append_1 ?_
  refine lv_bipush (v := 8) hx hb dX3_append_4 (by decide) ?_
  have J9 : ∀  (v7 : Int32) (fn8 : Nat → Int32) (H : Heap) (locs : List Loc) (ls : Array Slot), 1 ≤ v7.toInt ∧ v7.toInt ≤ 8 → True → pRow v7 fn8 → va_P g.1 vwCl [(h0, .inr (3, [.ref h0_room, .ref h0_clashing, .ref h0_reach, .ref h0_ways, .ref h0_switches, .ref h0_kind, .ref h0_best, .ref h0_row, .int v7, .int h0_bends, .int h0_full, .int h0_first, .int h0_punch])), (h0_row, .inl (g.2.1.1, 8, .inl fn8))] H → va_D A [(h0, .inr (3, [.ref h0_room, .ref h0_clashing, .ref h0_reach, .ref h0_ways, .ref h0_switches, .ref h0_kind, .ref h0_best, .ref h0_row, .int v7, .int h0_bends, .int h0_full, .int h0_first, .int h0_punch])), (h0_row, .inl (g.2.1.1, 8, .inl fn8))] → va_S A s.heap H locs → lv_has ls 3 [(0, .ref h0), (1, .int x1), (2, .int x2)] → W p l e rm_kX3_append s m args below meth c H locs 0 0 Q (F0 m 29 ls []) := by
    intro v7 fn8 H locs ls i10 hf11 hc12 hP hD hS hl
    refine lv_iload_n hx hb dX3_append_29 rfl (lv_at hl 1 rfl) ?_
    refine lv_iload_n hx hb dX3_append_30 rfl (lv_at hl 2 rfl) ?_
    refine zfi (wr := [(h0, .inr (3, [.ref h0_room, .ref h0_clashing, .ref h0_reach, .ref h0_ways, .ref h0_switches, .ref h0_kind, .ref h0_best, .ref h0_row, .int v7, .int h0_bends, .int h0_full, .int h0_first, .int h0_punch])), (h0_row, .inl (g.2.1.1, 8, .inl fn8))]) (va_runSN (As := [.int x2]) (rest := [.int x1]) ⟨hx, hb, hml, hown, hG⟩ (kX8_bitb l g x2 (ox_209 hy1) _) ⟨va_cnB 1 hG (zGood wc_X8_bit) rfl rfl rfl (hX.2.1.ml wmn_X3_70) (hG _ wini_X8) hX8_bit ⟨Nat.le_of_ble_eq_true rfl, Nat.le_of_ble_eq_true rfl⟩, hG _ ws_X8_bit, trivial⟩ (zpreS hX hP hD hS hA [] rfl (by decide)) rfl rfl hl.1 rfl (lv_room (Nat.le_of_ble_eq_true rfl)) dX3_append_31 ⟨Nat.le_of_ble_eq_true rfl, Nat.le_of_ble_eq_true rfl⟩) hP hD hS hA [] [0, 1] rfl rfl (by decide) (by decide) (fun r13 _ H locs hp hP hD hS => ?_)
    refine W.cs (cells' := 0) (slots' := 0) rfl rfl ?_
    have hq14 : 1 ≤ r13.toInt ∧ r13.toInt ≤ 128 := hp
    have hP : va_P g.1 vwCl [(h0, .inr (3, [.ref h0_room, .ref h0_clashing, .ref h0_reach, .ref h0_ways, .ref h0_switches, .ref h0_kind, .ref h0_best, .ref h0_row, .int v7, .int h0_bends, .int h0_full, .int h0_first, .int h0_punch])), (h0_row, .inl (g.2.1.1, 8, .inl fn8))] H := hP
    have hD : va_D A [(h0, .inr (3, [.ref h0_room, .ref h0_clashing, .ref h0_reach, .ref h0_ways, .ref h0_switches, .ref h0_kind, .ref h0_best, .ref h0_row, .int v7, .int h0_bends, .int h0_full, .int h0_first, .int h0_punch])), (h0_row, .inl (g.2.1.1, 8, .inl fn8))] := hD
    refine lv_ior hx hb dX3_append_34 ?_
    refine lv_topi (fun z15 e16 => ?_)
    have f17 : 0 ≤ z15.toInt ∧ z15.toInt < 256 := zor 8 e16 (rfl : x1.toInt = _) (rfl : r13.toInt = _) (by decide) (ox_275 hq14 hy0)
    exact hret z15 (v7, fn8) (Nat.le_of_ble_eq_true rfl) (Nat.le_of_ble_eq_true rfl) rfl ⟨ox_209 i10, trivial, ox_277 f17, hc12⟩ hP hD hS dX3_append_35
  refine lv_icmp_ge (tgt := 29) hx hb dX3_append_6 (by decide) (fun c18 => ?_) (fun c18 => ?_)
  · skip
    have c18i : (8 : Int) ≤ h0_rowLength.toInt := (zc_le (show (8 : Int32).toInt = (8 : Int) from by decide) (rfl : h0_rowLength.toInt = _)).mp c18
    exact J9 h0_rowLength f_h0_row _ _ ls (ox_278 c18i hy2) trivial hy7 hP hD hS (lv_sub hl [0, 1, 2] rfl)
  · skip
    have c18i : ¬ ((8 : Int) ≤ h0_rowLength.toInt) := fun q => c18 ((zc_le (show (8 : Int32).toInt = (8 : Int) from by decide) (rfl : h0_rowLength.toInt = _)).mpr q)
    refine lv_aload_n hx hb dX3_append_9 rfl (lv_at hl 0 rfl) ?_
    refine va_get (D := g.1) (ci := 3) (v := .ref h0_row) (C := RX3) (T := TX3) (N := 13) hx hb hG iX3 hown hX.1 hP 0 rfl rfl 7 (by decide) (hG _ wf_X3_34) (fun _ h9 => h9) rfl dX3_append_10 ?_
    refine lv_aload_n hx hb dX3_append_13 rfl (lv_at hl 0 rfl) ?_
    refine va_get (D := g.1) (ci := 3) (v := .int h0_rowLength) (C := RX3) (T := TX3) (N := 13) hx hb hG iX3 hown hX.1 hP 0 rfl rfl 8 (by decide) (hG _ wf_X3_108) (fun _ h9 => h9) rfl dX3_append_14 ?_
    refine lv_iload_n hx hb dX3_append_17 rfl (lv_at hl 2 rfl) ?_
    refine va_iast hx hb hX.1 hP hD hS 1 0 rfl rfl (zin (rfl : h0_rowLength.toInt = _) (ox_279 c18i hy2)) dX3_append_18 (fun H locs hP hD hS => ?_)
    obtain ⟨f19, e20⟩ : ∃ z9 : Nat → Int32, z9 = upd f_h0_row h0_rowLength.toNatClampNeg x2 := ⟨_, rfl⟩
    rw [← e20] at hP hD
    have hP : va_P g.1 vwCl [(h0, .inr (3, [.ref h0_room, .ref h0_clashing, .ref h0_reach, .ref h0_ways, .ref h0_switches, .ref h0_kind, .ref h0_best, .ref h0_row, .int h0_rowLength, .int h0_bends, .int h0_full, .int h0_first, .int h0_punch])), (h0_row, .inl (g.2.1.1, 8, .inl f19))] H := hP
    have hD : va_D A [(h0, .inr (3, [.ref h0_room, .ref h0_clashing, .ref h0_reach, .ref h0_ways, .ref h0_switches, .ref h0_kind, .ref h0_best, .ref h0_row, .int h0_rowLength, .int h0_bends, .int h0_full, .int h0_first, .int h0_punch])), (h0_row, .inl (g.2.1.1, 8, .inl f19))] := hD
    refine lv_aload_n hx hb dX3_append_19 rfl (lv_at hl 0 rfl) ?_
    refine lv_dup hx hb dX3_append_20 rfl ?_
    refine va_get (D := g.1) (ci := 3) (v := .int h0_rowLength) (C := RX3) (T := TX3) (N := 13) hx hb hG iX3 hown hX.1 hP 0 rfl rfl 8 (by decide) (hG _ wf_X3_108) (fun _ h9 => h9) rfl dX3_append_21 ?_
    refine lv_iconst (v := 1) hx hb dX3_append_24 (by decide) ?_
    refine lv_iadd hx hb dX3_append_25 ?_
    refine lv_topi (fun z21 e22 => ?_)
    have f23 : z21.toInt = h0_rowLength.toInt + (1 : Int) := za e22 (rfl : h0_rowLength.toInt = _) (show (1 : Int32).toInt = (1 : Int) from by decide) (ox_280 (zr h0_rowLength) c18i hy2)
    refine va_put (D := g.1) (ci := 3) (v := .int z21) (ty := .int) (C := RX3) (T := TX3) (N := 13) hx hb hG iX3 tyX3 tyX3_ok nmX3 hown hX.1 hP hD hS 0 rfl rfl 8 (by decide) (hG _ wf_X3_108) (fun _ h9 => h9) rfl (by decide +kernel) rfl rfl (Nat.le_of_ble_eq_true rfl) dX3_append_26 (fun H locs hP hD hS => ?_)
    have hP : va_P g.1 vwCl [(h0, .inr (3, [.ref h0_room, .ref h0_clashing, .ref h0_reach, .ref h0_ways, .ref h0_switches, .ref h0_kind, .ref h0_best, .ref h0_row, .int z21, .int h0_bends, .int h0_full, .int h0_first, .int h0_punch])), (h0_row, .inl (g.2.1.1, 8, .inl f19))] H := hP
    have hD : va_D A [(h0, .inr (3, [.ref h0_room, .ref h0_clashing, .ref h0_reach, .ref h0_ways, .ref h0_switches, .ref h0_kind, .ref h0_best, .ref h0_row, .int z21, .int h0_bends, .int h0_full, .int h0_first, .int h0_punch])), (h0_row, .inl (g.2.1.1, 8, .inl f19))] := hD
    exact J9 z21 f19 H locs ls (ox_281 c18i f23 hy2) trivial (pRow.app hy7 e20 (ox_282 c18i f23 hy2) (ox_283 c18i f23 hy2) (rfl : x2.toInt = _) (ox_209 hy1)) hP hD hS (lv_sub hl [0, 1, 2] rfl)
theorem dX3_walkFirst_0 : decode cX3_walkFirst 0 = .ok (.aload_n 0, 1) := by decide +kernel
theorem dX3_walkFirst_1 : decode cX3_walkFirst 1 = .ok (.getfield 84, 3) := by decide +kernel
theorem dX3_walkFirst_4 : decode cX3_walkFirst 4 = .ok (.istore_n 1, 1) := by decide +kernel
theorem dX3_walkFirst_5 : decode cX3_walkFirst 5 = .ok (.aload_n 0, 1) := by decide +kernel
theorem dX3_walkFirst_6 : decode cX3_walkFirst 6 = .ok (.iconst 0, 1) := by decide +kernel
theorem dX3_walkFirst_7 : decode cX3_walkFirst 7 = .ok (.putfield 108, 3) := by decide +kernel
theorem dX3_walkFirst_10 : decode cX3_walkFirst 10 = .ok (.iconst 0, 1) := by decide +kernel
theorem dX3_walkFirst_11 : decode cX3_walkFirst 11 = .ok (.istore_n 2, 1) := by decide +kernel
theorem dX3_walkFirst_12 : decode cX3_walkFirst 12 = .ok (.iload_n 2, 1) := by decide +kernel
theorem dX3_walkFirst_13 : decode cX3_walkFirst 13 = .ok (.bipush 8, 2) := by decide +kernel
theorem dX3_walkFirst_15 : decode cX3_walkFirst 15 = .ok (.if_icmp .ge 35, 3) := by decide +kernel
theorem dX3_walkFirst_50 : decode cX3_walkFirst 50 = .ok (.return_, 1) := by decide +kernel
theorem dX3_walkFirst_18 : decode cX3_walkFirst 18 = .ok (.iload_n 1, 1) := by decide +kernel
theorem dX3_walkFirst_19 : decode cX3_walkFirst 19 = .ok (.aload_n 0, 1) := by decide +kernel
theorem dX3_walkFirst_20 : decode cX3_walkFirst 20 = .ok (.getfield 43, 3) := by decide +kernel
theorem dX3_walkFirst_23 : decode cX3_walkFirst 23 = .ok (.if_icmp .eq 27, 3) := by decide +kernel
theorem dX3_walkFirst_26 : decode cX3_walkFirst 26 = .ok (.aload_n 0, 1) := by decide +kernel
theorem dX3_walkFirst_27 : decode cX3_walkFirst 27 = .ok (.iload_n 1, 1) := by decide +kernel
theorem dX3_walkFirst_28 : decode cX3_walkFirst 28 = .ok (.invokevirtual 111, 3) := by decide +kernel
theorem dX3_walkFirst_31 : decode cX3_walkFirst 31 = .ok (.istore_n 3, 1) := by decide +kernel
theorem dX3_walkFirst_32 : decode cX3_walkFirst 32 = .ok (.iload_n 3, 1) := by decide +kernel
theorem dX3_walkFirst_33 : decode cX3_walkFirst 33 = .ok (.ifCond .ne 4, 3) := by decide +kernel
theorem dX3_walkFirst_37 : decode cX3_walkFirst 37 = .ok (.aload_n 0, 1) := by decide +kernel
theorem dX3_walkFirst_38 : decode cX3_walkFirst 38 = .ok (.iload_n 1, 1) := by decide +kernel
theorem dX3_walkFirst_39 : decode cX3_walkFirst 39 = .ok (.iload_n 3, 1) := by decide +kernel
theorem dX3_walkFirst_40 : decode cX3_walkFirst 40 = .ok (.invokevirtual 114, 3) := by decide +kernel
theorem dX3_walkFirst_43 : decode cX3_walkFirst 43 = .ok (.istore_n 1, 1) := by decide +kernel
theorem dX3_walkFirst_44 : decode cX3_walkFirst 44 = .ok (.iinc 2 1, 3) := by decide +kernel
theorem dX3_walkFirst_47 : decode cX3_walkFirst 47 = .ok (.goto (-35), 3) := by decide +kernel
theorem dX3_walkFirst_36 : decode cX3_walkFirst 36 = .ok (.return_, 1) := by decide +kernel
abbrev rm_kX3_walkFirst : Room := { frames := 4, cells := 0, slots := 0, locals := 87 }
set_option maxHeartbeats 4000000 in
set_option maxRecDepth 100000 in
theorem kX3_walkFirst (l : Launch) (g : zL) (h0 : Nat) (h0_room : Nat) (h0_clashing : Nat) (h0_reach : Nat) (h0_ways : Nat) (h0_switches : Nat) (h0_kind : Nat) (h0_best : Nat) (h0_row : Nat) (h0_rowLength : Int32) (h0_bends : Int32) (h0_full : Int32) (h0_first : Int32) (h0_punch : Int32) (f_h0_room : Nat → Int32) (f_h0_ways : Nat → Int32) (f_h0_row : Nat → Int32) (hy0 : 0 ≤ h0_rowLength.toInt ∧ h0_rowLength.toInt ≤ 8) (hy1 : (-1) ≤ h0_bends.toInt ∧ h0_bends.toInt ≤ 8) (hy2 : 0 ≤ h0_full.toInt ∧ h0_full.toInt ≤ 255) (hy3 : 0 ≤ h0_first.toInt ∧ h0_first.toInt ≤ 255) (hy4 : True) : zCv l g yX3_walkFirst cX3_walkFirst 4 none rm_kX3_walkFirst [.ref h0] [(h0, .inr (3, [.ref h0_room, .ref h0_clashing, .ref h0_reach, .ref h0_ways, .ref h0_switches, .ref h0_kind, .ref h0_best, .ref h0_row, .int h0_rowLength, .int h0_bends, .int h0_full, .int h0_first, .int h0_punch])), (h0_room, .inl (g.2.1.1, 2048, .inl f_h0_room)), (h0_ways, .inl (g.2.1.1, 256, .inl f_h0_ways)), (h0_row, .inl (g.2.1.1, 8, .inl f_h0_row))] (fun (u : Int32 × (Nat → Int32)) => (0 ≤ u.1.toInt ∧ u.1.toInt ≤ 8) ∧ (True) ∧ (pRow u.1 u.2)) (fun (u : Int32 × (Nat → Int32)) => [(h0, .inr (3, [.ref h0_room, .ref h0_clashing, .ref h0_reach, .ref h0_ways, .ref h0_switches, .ref h0_kind, .ref h0_best, .ref h0_row, .int u.1, .int h0_bends, .int h0_full, .int h0_first, .int h0_punch])), (h0_room, .inl (g.2.1.1, 2048, .inl f_h0_room)), (h0_ways, .inl (g.2.1.1, 256, .inl f_h0_ways)), (h0_row, .inl (g.2.1.1, 8, .inl u.2))]) := by
  refine zCv.mk2 (by decide) (Nat.le_of_ble_eq_true rfl) ?_
  intro p e s m below meth c A args Q hE hret hP hD hS ls hl
  obtain ⟨hx, hb, hr, hml, hown, hG, hlocks, hnm, hX, hA⟩ := hE
  have hown : s.vm.findClass RX3 = some m.cls := hown
  have hl : lv_has ls 4 [(0, .ref h0)] := hl
  refine lv_aload_n hx hb dX3_walkFirst_0 rfl (lv_at hl 0 rfl) ?_
  refine va_get (D := g.1) (ci := 3) (v := .int h0_first) (C := RX3) (T := TX3) (N := 13) hx hb hG iX3 hown hX.1 hP 0 rfl rfl 11 (by decide) (hG _ wf_X3_84) (fun _ h9 => h9) rfl dX3_walkFirst_1 ?_
  refine lv_istore_n (lv' := [(1, .int h0_first), (0, .ref h0)]) hx hb dX3_walkFirst_4 rfl hl (by decide) rfl (fun ls hl => ?_)
  refine lv_aload_n hx hb dX3_walkFirst_5 rfl (lv_at hl 1 rfl) ?_
  refine lv_iconst (v := 0) hx hb dX3_walkFirst_6 (by decide) ?_
  refine va_put (D := g.1) (ci := 3) (v := .int 0) (ty := .int) (C := RX3) (T := TX3) (N := 13) hx hb hG iX3 tyX3 tyX3_ok nmX3 hown hX.1 hP hD hS 0 rfl rfl 8 (by decide) (hG _ wf_X3_108) (fun _ h9 => h9) rfl (by decide +kernel) rfl rfl (Nat.le_of_ble_eq_true rfl) dX3_walkFirst_7 (fun H locs hP hD hS => ?_)
  have hP : va_P g.1 vwCl [(h0, .inr (3, [.ref h0_room, .ref h0_clashing, .ref h0_reach, .ref h0_ways, .ref h0_switches, .ref h0_kind, .ref h0_best, .ref h0_row, .int 0, .int h0_bends, .int h0_full, .int h0_first, .int h0_punch])), (h0_room, .inl (g.2.1.1, 2048, .inl f_h0_room)), (h0_ways, .inl (g.2.1.1, 256, .inl f_h0_ways)), (h0_row, .inl (g.2.1.1, 8, .inl f_h0_row))] H := hP
  have hD : va_D A [(h0, .inr (3, [.ref h0_room, .ref h0_clashing, .ref h0_reach, .ref h0_ways, .ref h0_switches, .ref h0_kind, .ref h0_best, .ref h0_row, .int 0, .int h0_bends, .int h0_full, .int h0_first, .int h0_punch])), (h0_room, .inl (g.2.1.1, 2048, .inl f_h0_room)), (h0_ways, .inl (g.2.1.1, 256, .inl f_h0_ways)), (h0_row, .inl (g.2.1.1, 8, .inl f_h0_row))] := hD
  refine lv_iconst (v := 0) hx hb dX3_walkFirst_10 (by decide) ?_
  refine lv_istore_n (lv' := [(2, .int 0), (1, .int h0_first), (0, .ref h0)]) hx hb dX3_walkFirst_11 rfl hl (by decide) rfl (fun ls hl => ?_)
  have L182 : ∀ (n : Nat) (v158 : Int32) (v159 : Int32) (v160 : Int32) (fn161 : Nat → Int32) (H : Heap) (locs : List Loc) (ls : Array Slot), 0 ≤ v158.toInt ∧ v158.toInt ≤ 255 → 0 ≤ v159.toInt ∧ v159.toInt ≤ 8 → 0 ≤ v160.toInt ∧ v160.toInt ≤ 8 → True → pRow v160 fn161 → (9 - v159.toInt).toNat < n → va_P g.1 vwCl [(h0, .inr (3, [.ref h0_room, .ref h0_clashing, .ref h0_reach, .ref h0_ways, .ref h0_switches, .ref h0_kind, .ref h0_best, .ref h0_row, .int v160, .int h0_bends, .int h0_full, .int h0_first, .int h0_punch])), (h0_room, .inl (g.2.1.1, 2048, .inl f_h0_room)), (h0_ways, .inl (g.2.1.1, 256, .inl f_h0_ways)), (h0_row, .inl (g.2.1.1, 8, .inl fn161))] H → va_D A [(h0, .inr (3, [.ref h0_room, .ref h0_clashing, .ref h0_reach, .ref h0_ways, .ref h0_switches, .ref h0_kind, .ref h0_best, .ref h0_row, .int v160, .int h0_bends, .int h0_full, .int h0_first, .int h0_punch])), (h0_room, .inl (g.2.1.1, 2048, .inl f_h0_room)), (h0_ways, .inl (g.2.1.1, 256, .inl f_h0_ways)), (h0_row, .inl (g.2.1.1, 8, .inl fn161))] → va_S A s.heap H locs → lv_has ls 4 [(0, .ref h0), (1, .int v158), (2, .int v159)] → W p l e rm_kX3_walkFirst s m args below meth c H locs 0 0 Q (F0 m 12 ls []) := by
    intro n183
    induction n183 with
    | zero => intro v158 v159 v160 fn161 H locs ls i185 i186 i187 hf188 hc189 hm190; exact absurd hm190 (Nat.not_lt_zero _)
    | succ n183 ih184 =>
      intro v158 v159 v160 fn161 H locs ls i185 i186 i187 hf188 hc189 hm190 hP hD hS hl
      refine lv_iload_n hx hb dX3_walkFirst_12 rfl (lv_at hl 2 rfl) ?_
      refine lv_bipush (v := 8) hx hb dX3_walkFirst_13 (by decide) ?_
      refine lv_icmp_ge (tgt := 50) hx hb dX3_walkFirst_15 (by decide) (fun c191 => ?_) (fun c191 => ?_)
      · skip
        have c191i : (8 : Int) ≤ v159.toInt := (zc_le (show (8 : Int32).toInt = (8 : Int) from by decide) (rfl : v159.toInt = _)).mp c191
        exact hret (v160, fn161) (Nat.le_of_ble_eq_true rfl) (Nat.le_of_ble_eq_true rfl) ⟨ox_1 i187, trivial, hc189⟩ hP hD hS dX3_walkFirst_50
      · skip
        have c191i : ¬ ((8 : Int) ≤ v159.toInt) := fun q => c191 ((zc_le (show (8 : Int32).toInt = (8 : Int) from by decide) (rfl : v159.toInt = _)).mpr q)
        refine lv_iload_n hx hb dX3_walkFirst_18 rfl (lv_at hl 1 rfl) ?_
        refine lv_aload_n hx hb dX3_walkFirst_19 rfl (lv_at hl 0 rfl) ?_
        refine va_get (D := g.1) (ci := 3) (v := .int h0_full) (C := RX3) (T := TX3) (N := 13) hx hb hG iX3 hown hX.1 hP 0 rfl rfl 10 (by decide) (hG _ wf_X3_43) (fun _ h9 => h9) rfl dX3_walkFirst_20 ?_
        refine lv_icmp_eq (tgt := 50) hx hb dX3_walkFirst_23 (by decide) (fun c192 => ?_) (fun c192 => ?_)
        · skip
          have c192i : v158.toInt = h0_full.toInt := (zc_eq (rfl : v158.toInt = _) (rfl : h0_full.toInt = _)).mp c192
          exact hret (v160, fn161) (Nat.le_of_ble_eq_true rfl) (Nat.le_of_ble_eq_true rfl) ⟨ox_1 i187, trivial, hc189⟩ hP hD hS dX3_walkFirst_50
        · skip
          have c192i : ¬ (v158.toInt = h0_full.toInt) := fun q => c192 ((zc_eq (rfl : v158.toInt = _) (rfl : h0_full.toInt = _)).mpr q)
          refine lv_aload_n hx hb dX3_walkFirst_26 rfl (lv_at hl 0 rfl) ?_
          refine lv_iload_n hx hb dX3_walkFirst_27 rfl (lv_at hl 1 rfl) ?_
          refine zfi (wr := [(h0_row, .inl (g.2.1.1, 8, .inl fn161))]) (va_runV (As := [.int v158]) (rest := []) ⟨hx, hb, hml, hown, hG⟩ (kX3_firstThatGoesOn l g h0 v158 h0_room h0_clashing h0_reach h0_ways h0_switches h0_kind h0_best h0_row v160 h0_bends h0_full h0_first h0_punch f_h0_room f_h0_ways (ox_284 c192i hy2 i185) (ox_1 i187) (ox_274 hy1) (ox_285 c192i hy2 i185) (ox_228 hy3) _) ⟨callB_of 1 hG (zGood wc_X3_firstThatGoesOn) rfl rfl rfl (hG _ wini_X3) (hG _ wm_X3_111) hX3_firstThatGoesOn ⟨Nat.le_of_ble_eq_true rfl, Nat.le_of_ble_eq_true rfl⟩, hG _ wi_X3_firstThatGoesOn, hG _ wse_X3_X3_firstThatGoesOn⟩ (zpreV (va_recv hX.1 hP (ci := 3) (q0 := 0) rfl rfl) hX hP hD hS hA [0, 1, 2] rfl (by decide)) rfl rfl hl.1 rfl (lv_room (Nat.le_of_ble_eq_true rfl)) dX3_walkFirst_28 ⟨Nat.le_of_ble_eq_true rfl, Nat.le_of_ble_eq_true rfl⟩) hP hD hS hA [0, 1, 2] [3] rfl rfl (by decide) (by decide) (fun r193 _ H locs hp hP hD hS => ?_)
          refine W.cs (cells' := 0) (slots' := 0) rfl rfl ?_
          have hq194 : 0 ≤ r193.toInt ∧ r193.toInt ≤ 8 := hp
          have hP : va_P g.1 vwCl [(h0_row, .inl (g.2.1.1, 8, .inl fn161)), (h0, .inr (3, [.ref h0_room, .ref h0_clashing, .ref h0_reach, .ref h0_ways, .ref h0_switches, .ref h0_kind, .ref h0_best, .ref h0_row, .int v160, .int h0_bends, .int h0_full, .int h0_first, .int h0_punch])), (h0_room, .inl (g.2.1.1, 2048, .inl f_h0_room)), (h0_ways, .inl (g.2.1.1, 256, .inl f_h0_ways))] H := hP
          have hD : va_D A [(h0_row, .inl (g.2.1.1, 8, .inl fn161)), (h0, .inr (3, [.ref h0_room, .ref h0_clashing, .ref h0_reach, .ref h0_ways, .ref h0_switches, .ref h0_kind, .ref h0_best, .ref h0_row, .int v160, .int h0_bends, .int h0_full, .int h0_first, .int h0_punch])), (h0_room, .inl (g.2.1.1, 2048, .inl f_h0_room)), (h0_ways, .inl (g.2.1.1, 256, .inl f_h0_ways))] := hD
          refine lv_istore_n (lv' := [(3, .int r193), (0, .ref h0), (1, .int v158), (2, .int v159)]) hx hb dX3_walkFirst_31 rfl hl (by decide) rfl (fun ls hl => ?_)
          refine lv_iload_n hx hb dX3_walkFirst_32 rfl (lv_at hl 0 rfl) ?_
          refine lv_if_ne (tgt := 37) hx hb dX3_walkFirst_33 (by decide) (fun c195 => ?_) (fun c195 => ?_)
          · skip
            have c195i : ¬ (r193.toInt = (0 : Int)) := fun q => c195 ((zc_eq (rfl : r193.toInt = _) (show (0 : Int32).toInt = (0 : Int) from by decide)).mpr q)
            refine lv_aload_n hx hb dX3_walkFirst_37 rfl (lv_at hl 1 rfl) ?_
            refine lv_iload_n hx hb dX3_walkFirst_38 rfl (lv_at hl 2 rfl) ?_
            refine lv_iload_n hx hb dX3_walkFirst_39 rfl (lv_at hl 0 rfl) ?_
            refine zfi (wr := [(h0_room, .inl (g.2.1.1, 2048, .inl f_h0_room)), (h0_ways, .inl (g.2.1.1, 256, .inl f_h0_ways))]) (va_runV (As := [.int v158, .int r193]) (rest := []) ⟨hx, hb, hml, hown, hG⟩ (kX3_append l g h0 v158 r193 h0_room h0_clashing h0_reach h0_ways h0_switches h0_kind h0_best h0_row v160 h0_bends h0_full h0_first h0_punch fn161 (ox_284 c192i hy2 i185) (ox_286 c195i hq194) (ox_1 i187) (ox_274 hy1) (ox_285 c192i hy2 i185) (ox_228 hy3) trivial hc189 _) ⟨callB_of 2 hG (zGood wc_X3_append) rfl rfl rfl (hG _ wini_X3) (hG _ wm_X3_114) hX3_append ⟨Nat.le_of_ble_eq_true rfl, Nat.le_of_ble_eq_true rfl⟩, hG _ wi_X3_append, hG _ wse_X3_X3_append⟩ (zpreV (va_recv hX.1 hP (ci := 3) (q0 := 1) rfl rfl) hX hP hD hS hA [1, 0] rfl (by decide)) rfl rfl hl.1 rfl (lv_room (Nat.le_of_ble_eq_true rfl)) dX3_walkFirst_40 ⟨Nat.le_of_ble_eq_true rfl, Nat.le_of_ble_eq_true rfl⟩) hP hD hS hA [1, 0] [2, 3] rfl rfl (by decide) (by decide) (fun r196 u197 H locs hp hP hD hS => ?_)
            refine W.cs (cells' := 0) (slots' := 0) rfl rfl ?_
            obtain ⟨v198, f199⟩ := u197
            obtain ⟨hq200, hq201, hq202, hq203⟩ : (1 ≤ v198.toInt ∧ v198.toInt ≤ 8) ∧ (True) ∧ (0 ≤ r196.toInt ∧ r196.toInt ≤ 255) ∧ (pRow v198 f199) := hp
            have hP : va_P g.1 vwCl [(h0_room, .inl (g.2.1.1, 2048, .inl f_h0_room)), (h0_ways, .inl (g.2.1.1, 256, .inl f_h0_ways)), (h0, .inr (3, [.ref h0_room, .ref h0_clashing, .ref h0_reach, .ref h0_ways, .ref h0_switches, .ref h0_kind, .ref h0_best, .ref h0_row, .int v198, .int h0_bends, .int h0_full, .int h0_first, .int h0_punch])), (h0_row, .inl (g.2.1.1, 8, .inl f199))] H := hP
            have hD : va_D A [(h0_room, .inl (g.2.1.1, 2048, .inl f_h0_room)), (h0_ways, .inl (g.2.1.1, 256, .inl f_h0_ways)), (h0, .inr (3, [.ref h0_room, .ref h0_clashing, .ref h0_reach, .ref h0_ways, .ref h0_switches, .ref h0_kind, .ref h0_best, .ref h0_row, .int v198, .int h0_bends, .int h0_full, .int h0_first, .int h0_punch])), (h0_row, .inl (g.2.1.1, 8, .inl f199))] := hD
            refine lv_istore_n (lv' := [(1, .int r196), (3, .int r193), (0, .ref h0), (2, .int v159)]) hx hb dX3_walkFirst_43 rfl hl (by decide) rfl (fun ls hl => ?_)
            obtain ⟨z204, e205⟩ : ∃ y9 : Int32, y9 = v159 + 1 := ⟨_, rfl⟩
            have f206 : z204.toInt = v159.toInt + 1 := za e205 (rfl : v159.toInt = _) (show (1 : Int32).toInt = (1 : Int) from by decide) (ox_287 (zr v159) c191i i186)
            refine lv_iinc (v := z204) (lv' := [(2, .int z204), (1, .int r196), (3, .int r193), (0, .ref h0)]) hx hb dX3_walkFirst_44 hl (k := 3) rfl (by rw [e205]; rfl) (by decide) rfl (fun ls hl => ?_)
            refine lv_goto (tgt := 12) hx hb dX3_walkFirst_47 (by decide) ?_
            exact ih184 r196 z204 v198 f199 H locs ls (ox_228 hq202) (ox_288 c191i f206 i186) (ox_207 hq200) trivial hq203 (zdec hm190 (ox_289 c191i f206 i186)) (hP.sub [2, 0, 1, 3] rfl) (hD.sub [2, 0, 1, 3] (by decide) rfl) hS (lv_sub hl [3, 1, 0] rfl)
          · skip
            have c195i : r193.toInt = (0 : Int) := (zc_eq (rfl : r193.toInt = _) (show (0 : Int32).toInt = (0 : Int) from by decide)).mp c195
            exact hret (v160, fn161) (Nat.le_of_ble_eq_true rfl) (Nat.le_of_ble_eq_true rfl) ⟨ox_1 i187, trivial, hc189⟩ (hP.sub [1, 2, 3, 0] rfl) (hD.sub [1, 2, 3, 0] (by decide) rfl) hS dX3_walkFirst_36
  exact L182 _ h0_first (0 : Int32) (0 : Int32) f_h0_row H locs ls (ox_228 hy3) ((show 0 ≤ (0 : Int) ∧ (0 : Int) ≤ 8 from by decide)) ((show 0 ≤ (0 : Int) ∧ (0 : Int) ≤ 8 from by decide)) trivial (pRow.zero (by decide)) (Nat.lt_succ_self _) hP hD hS (lv_sub hl [2, 1, 0] rfl)
theorem dX3_rowAt_0 : decode cX3_rowAt 0 = .ok (.iload_n 1, 1) := by decide +kernel
theorem dX3_rowAt_1 : decode cX3_rowAt 1 = .ok (.ifCond .lt 17, 3) := by decide +kernel
theorem dX3_rowAt_18 : decode cX3_rowAt 18 = .ok (.iconst (-1), 1) := by decide +kernel
theorem dX3_rowAt_19 : decode cX3_rowAt 19 = .ok (.goto 9, 3) := by decide +kernel
theorem dX3_rowAt_28 : decode cX3_rowAt 28 = .ok (.ireturn, 1) := by decide +kernel
theorem dX3_rowAt_4 : decode cX3_rowAt 4 = .ok (.iload_n 1, 1) := by decide +kernel
theorem dX3_rowAt_5 : decode cX3_rowAt 5 = .ok (.aload_n 0, 1) := by decide +kernel
theorem dX3_rowAt_6 : decode cX3_rowAt 6 = .ok (.getfield 108, 3) := by decide +kernel
theorem dX3_rowAt_9 : decode cX3_rowAt 9 = .ok (.if_icmp .ge 9, 3) := by decide +kernel
theorem dX3_rowAt_12 : decode cX3_rowAt 12 = .ok (.iload_n 1, 1) := by decide +kernel
theorem dX3_rowAt_13 : decode cX3_rowAt 13 = .ok (.bipush 8, 2) := by decide +kernel
theorem dX3_rowAt_15 : decode cX3_rowAt 15 = .ok (.if_icmp .lt 7, 3) := by decide +kernel
theorem dX3_rowAt_22 : decode cX3_rowAt 22 = .ok (.aload_n 0, 1) := by decide +kernel
theorem dX3_rowAt_23 : decode cX3_rowAt 23 = .ok (.getfield 34, 3) := by decide +kernel
theorem dX3_rowAt_26 : decode cX3_rowAt 26 = .ok (.iload_n 1, 1) := by decide +kernel
theorem dX3_rowAt_27 : decode cX3_rowAt 27 = .ok (.iaload, 1) := by decide +kernel
abbrev rm_kX3_rowAt : Room := { frames := 0, cells := 0, slots := 0, locals := 0 }
set_option maxHeartbeats 4000000 in
set_option maxRecDepth 100000 in
theorem kX3_rowAt (l : Launch) (g : zL) (h0 : Nat) (x1 : Int32) (h0_room : Nat) (h0_clashing : Nat) (h0_reach : Nat) (h0_ways : Nat) (h0_switches : Nat) (h0_kind : Nat) (h0_best : Nat) (h0_row : Nat) (h0_rowLength : Int32) (h0_bends : Int32) (h0_full : Int32) (h0_first : Int32) (h0_punch : Int32) (f_h0_row : Nat → Int32) (hy0 : 0 ≤ h0_rowLength.toInt ∧ h0_rowLength.toInt ≤ 8) (hy1 : (-1) ≤ h0_bends.toInt ∧ h0_bends.toInt ≤ 8) (hy2 : 0 ≤ h0_full.toInt ∧ h0_full.toInt ≤ 255) (hy3 : 0 ≤ h0_first.toInt ∧ h0_first.toInt ≤ 255) (hy4 : True) : zCi l g yX3_rowAt cX3_rowAt 2 (some .int) rm_kX3_rowAt [.ref h0, .int x1] [(h0, .inr (3, [.ref h0_room, .ref h0_clashing, .ref h0_reach, .ref h0_ways, .ref h0_switches, .ref h0_kind, .ref h0_best, .ref h0_row, .int h0_rowLength, .int h0_bends, .int h0_full, .int h0_first, .int h0_punch])), (h0_row, .inl (g.2.1.1, 8, .inl f_h0_row))] (fun (r : Int32) (u : Unit) => True) (fun (u : Unit) => [(h0, .inr (3, [.ref h0_room, .ref h0_clashing, .ref h0_reach, .ref h0_ways, .ref h0_switches, .ref h0_kind, .ref h0_best, .ref h0_row, .int h0_rowLength, .int h0_bends, .int h0_full, .int h0_first, .int h0_punch])), (h0_row, .inl (g.2.1.1, 8, .inl f_h0_row))]) := by
  refine zCi.mk2 (by decide) (Nat.le_of_ble_eq_true rfl) ?_
  intro p e s m below meth c A args Q hE hret hP hD hS ls hl
  obtain ⟨hx, hb, hr, hml, hown, hG, hlocks, hnm, hX, hA⟩ := hE
  have hown : s.vm.findClass RX3 = some m.cls := hown
  have hl : lv_has ls 2 [(0, .ref h0), (1, .int x1)] := hl
  refine lv_iload_n hx hb dX3_rowAt_0 rfl (lv_at hl 1 rfl) ?_
  refine lv_if_lt (tgt := 18) hx hb dX3_rowAt_1 (by decide) (fun c1 => ?_) (fun c1 => ?_)
  · skip
    have c1i : x1.toInt < (0 : Int) := (zc_lt (rfl : x1.toInt = _) (show (0 : Int32).toInt = (0 : Int) from by decide)).mp c1
    refine lv_iconst (v := (-1)) hx hb dX3_rowAt_18 (by decide) ?_
    refine lv_goto (tgt := 28) hx hb dX3_rowAt_19 (by decide) ?_
    exact hret (-1 : Int32) () (Nat.le_of_ble_eq_true rfl) (Nat.le_of_ble_eq_true rfl) rfl trivial hP hD hS dX3_rowAt_28
  · skip
    have c1i : ¬ (x1.toInt < (0 : Int)) := fun q => c1 ((zc_lt (rfl : x1.toInt = _) (show (0 : Int32).toInt = (0 : Int) from by decide)).mpr q)
    refine lv_iload_n hx hb dX3_rowAt_4 rfl (lv_at hl 1 rfl) ?_
    refine lv_aload_n hx hb dX3_rowAt_5 rfl (lv_at hl 0 rfl) ?_
    refine va_get (D := g.1) (ci := 3) (v := .int h0_rowLength) (C := RX3) (T := TX3) (N := 13) hx hb hG iX3 hown hX.1 hP 0 rfl rfl 8 (by decide) (hG _ wf_X3_108) (fun _ h9 => h9) rfl dX3_rowAt_6 ?_
    refine lv_icmp_ge (tgt := 18) hx hb dX3_rowAt_9 (by decide) (fun c2 => ?_) (fun c2 => ?_)
    · skip
      have c2i : h0_rowLength.toInt ≤ x1.toInt := (zc_le (rfl : h0_rowLength.toInt = _) (rfl : x1.toInt = _)).mp c2
      refine lv_iconst (v := (-1)) hx hb dX3_rowAt_18 (by decide) ?_
      refine lv_goto (tgt := 28) hx hb dX3_rowAt_19 (by decide) ?_
      exact hret (-1 : Int32) () (Nat.le_of_ble_eq_true rfl) (Nat.le_of_ble_eq_true rfl) rfl trivial hP hD hS dX3_rowAt_28
    · skip
      have c2i : ¬ (h0_rowLength.toInt ≤ x1.toInt) := fun q => c2 ((zc_le (rfl : h0_rowLength.toInt = _) (rfl : x1.toInt = _)).mpr q)
      refine lv_iload_n hx hb dX3_rowAt_12 rfl (lv_at hl 1 rfl) ?_
      refine lv_bipush (v := 8) hx hb dX3_rowAt_13 (by decide) ?_
      refine lv_icmp_lt (tgt := 22) hx hb dX3_rowAt_15 (by decide) (fun c3 => ?_) (fun c3 => (c3 ((zc_lt (rfl : x1.toInt = _) (show (8 : Int32).toInt = (8 : Int) from by decide)).mpr (ox_290 c1i c2i hy0))).elim)
      refine lv_aload_n hx hb dX3_rowAt_22 rfl (lv_at hl 0 rfl) ?_
      refine va_get (D := g.1) (ci := 3) (v := .ref h0_row) (C := RX3) (T := TX3) (N := 13) hx hb hG iX3 hown hX.1 hP 0 rfl rfl 7 (by decide) (hG _ wf_X3_34) (fun _ h9 => h9) rfl dX3_rowAt_23 ?_
      refine lv_iload_n hx hb dX3_rowAt_26 rfl (lv_at hl 1 rfl) ?_
      refine va_iald hx hb hX.1 hP 1 0 rfl rfl (zin (rfl : x1.toInt = _) (ox_291 c1i c2i hy0)) dX3_rowAt_27 ?_
      refine lv_topi (fun z4 e5 => ?_)
      exact hret z4 () (Nat.le_of_ble_eq_true rfl) (Nat.le_of_ble_eq_true rfl) rfl trivial hP hD hS dX3_rowAt_28
theorem dX3_firstOfRow_0 : decode cX3_firstOfRow 0 = .ok (.iconst 0, 1) := by decide +kernel
theorem dX3_firstOfRow_1 : decode cX3_firstOfRow 1 = .ok (.istore_n 2, 1) := by decide +kernel
theorem dX3_firstOfRow_2 : decode cX3_firstOfRow 2 = .ok (.iconst 0, 1) := by decide +kernel
theorem dX3_firstOfRow_3 : decode cX3_firstOfRow 3 = .ok (.istore_n 3, 1) := by decide +kernel
theorem dX3_firstOfRow_4 : decode cX3_firstOfRow 4 = .ok (.iload_n 3, 1) := by decide +kernel
theorem dX3_firstOfRow_5 : decode cX3_firstOfRow 5 = .ok (.iload_n 1, 1) := by decide +kernel
theorem dX3_firstOfRow_6 : decode cX3_firstOfRow 6 = .ok (.if_icmp .ge 29, 3) := by decide +kernel
theorem dX3_firstOfRow_35 : decode cX3_firstOfRow 35 = .ok (.iload_n 2, 1) := by decide +kernel
theorem dX3_firstOfRow_36 : decode cX3_firstOfRow 36 = .ok (.ireturn, 1) := by decide +kernel
theorem dX3_firstOfRow_9 : decode cX3_firstOfRow 9 = .ok (.iload_n 3, 1) := by decide +kernel
theorem dX3_firstOfRow_10 : decode cX3_firstOfRow 10 = .ok (.aload_n 0, 1) := by decide +kernel
theorem dX3_firstOfRow_11 : decode cX3_firstOfRow 11 = .ok (.getfield 108, 3) := by decide +kernel
theorem dX3_firstOfRow_14 : decode cX3_firstOfRow 14 = .ok (.if_icmp .ge 21, 3) := by decide +kernel
theorem dX3_firstOfRow_17 : decode cX3_firstOfRow 17 = .ok (.iload_n 2, 1) := by decide +kernel
theorem dX3_firstOfRow_18 : decode cX3_firstOfRow 18 = .ok (.aload_n 0, 1) := by decide +kernel
theorem dX3_firstOfRow_19 : decode cX3_firstOfRow 19 = .ok (.getfield 34, 3) := by decide +kernel
theorem dX3_firstOfRow_22 : decode cX3_firstOfRow 22 = .ok (.iload_n 3, 1) := by decide +kernel
theorem dX3_firstOfRow_23 : decode cX3_firstOfRow 23 = .ok (.iaload, 1) := by decide +kernel
theorem dX3_firstOfRow_24 : decode cX3_firstOfRow 24 = .ok (.invokestatic 70, 3) := by decide +kernel
theorem dX3_firstOfRow_27 : decode cX3_firstOfRow 27 = .ok (.ior, 1) := by decide +kernel
theorem dX3_firstOfRow_28 : decode cX3_firstOfRow 28 = .ok (.istore_n 2, 1) := by decide +kernel
theorem dX3_firstOfRow_29 : decode cX3_firstOfRow 29 = .ok (.iinc 3 1, 3) := by decide +kernel
theorem dX3_firstOfRow_32 : decode cX3_firstOfRow 32 = .ok (.goto (-28), 3) := by decide +kernel
abbrev rm_kX3_firstOfRow : Room := { frames := 1, cells := 0, slots := 0, locals := 20 }
set_option maxHeartbeats 4000000 in
set_option maxRecDepth 100000 in
theorem kX3_firstOfRow (l : Launch) (g : zL) (h0 : Nat) (x1 : Int32) (h0_room : Nat) (h0_clashing : Nat) (h0_reach : Nat) (h0_ways : Nat) (h0_switches : Nat) (h0_kind : Nat) (h0_best : Nat) (h0_row : Nat) (h0_rowLength : Int32) (h0_bends : Int32) (h0_full : Int32) (h0_first : Int32) (h0_punch : Int32) (f_h0_row : Nat → Int32) (hy0 : 0 ≤ h0_rowLength.toInt ∧ h0_rowLength.toInt ≤ 8) (hy1 : (-1) ≤ h0_bends.toInt ∧ h0_bends.toInt ≤ 8) (hy2 : 0 ≤ h0_full.toInt ∧ h0_full.toInt ≤ 255) (hy3 : 0 ≤ h0_first.toInt ∧ h0_first.toInt ≤ 255) (hy4 : True) (hy5 : pRow h0_rowLength f_h0_row) : zCi l g yX3_firstOfRow cX3_firstOfRow 4 (some .int) rm_kX3_firstOfRow [.ref h0, .int x1] [(h0, .inr (3, [.ref h0_room, .ref h0_clashing, .ref h0_reach, .ref h0_ways, .ref h0_switches, .ref h0_kind, .ref h0_best, .ref h0_row, .int h0_rowLength, .int h0_bends, .int h0_full, .int h0_first, .int h0_punch])), (h0_row, .inl (g.2.1.1, 8, .inl f_h0_row))] (fun (r : Int32) (u : Unit) => (0 ≤ r.toInt ∧ r.toInt ≤ 255)) (fun (u : Unit) => [(h0, .inr (3, [.ref h0_room, .ref h0_clashing, .ref h0_reach, .ref h0_ways, .ref h0_switches, .ref h0_kind, .ref h0_best, .ref h0_row, .int h0_rowLength, .int h0_bends, .int h0_full, .int h0_first, .int h0_punch])), (h0_row, .inl (g.2.1.1, 8, .inl f_h0_row))]) := by
  refine zCi.mk2 (by decide) (Nat.le_of_ble_eq_true rfl) ?_
  intro p e s m below meth c A args Q hE hret hP hD hS ls hl
  obtain ⟨hx, hb, hr, hml, hown, hG, hlocks, hnm, hX, hA⟩ := hE
  have hown : s.vm.findClass RX3 = some m.cls := hown
  have hl : lv_has ls 4 [(0, .ref h0), (1, .int x1)] := hl
  refine lv_iconst (v := 0) hx hb dX3_firstOfRow_0 (by decide) ?_
  refine lv_istore_n (lv' := [(2, .int 0), (0, .ref h0), (1, .int x1)]) hx hb dX3_firstOfRow_1 rfl hl (by decide) rfl (fun ls hl => ?_)
  refine lv_iconst (v := 0) hx hb dX3_firstOfRow_2 (by decide) ?_
  refine lv_istore_n (lv' := [(3, .int 0), (2, .int 0), (0, .ref h0), (1, .int x1)]) hx hb dX3_firstOfRow_3 rfl hl (by decide) rfl (fun ls hl => ?_)
  have L130 : ∀ (n : Nat) (v113 : Int32) (v114 : Int32) (H : Heap) (locs : List Loc) (ls : Array Slot), 0 ≤ v113.toInt ∧ v113.toInt ≤ 255 → 0 ≤ v114.toInt ∧ v114.toInt ≤ 8 → (9 - v114.toInt).toNat < n → va_P g.1 vwCl [(h0, .inr (3, [.ref h0_room, .ref h0_clashing, .ref h0_reach, .ref h0_ways, .ref h0_switches, .ref h0_kind, .ref h0_best, .ref h0_row, .int h0_rowLength, .int h0_bends, .int h0_full, .int h0_first, .int h0_punch])), (h0_row, .inl (g.2.1.1, 8, .inl f_h0_row))] H → va_D A [(h0, .inr (3, [.ref h0_room, .ref h0_clashing, .ref h0_reach, .ref h0_ways, .ref h0_switches, .ref h0_kind, .ref h0_best, .ref h0_row, .int h0_rowLength, .int h0_bends, .int h0_full, .int h0_first, .int h0_punch])), (h0_row, .inl (g.2.1.1, 8, .inl f_h0_row))] → va_S A s.heap H locs → lv_has ls 4 [(0, .ref h0), (1, .int x1), (2, .int v113), (3, .int v114)] → W p l e rm_kX3_firstOfRow s m args below meth c H locs 0 0 Q (F0 m 4 ls []) := by
    intro n131
    induction n131 with
    | zero => intro v113 v114 H locs ls i133 i134 hm135; exact absurd hm135 (Nat.not_lt_zero _)
    | succ n131 ih132 =>
      intro v113 v114 H locs ls i133 i134 hm135 hP hD hS hl
      refine lv_iload_n hx hb dX3_firstOfRow_4 rfl (lv_at hl 3 rfl) ?_
      refine lv_iload_n hx hb dX3_firstOfRow_5 rfl (lv_at hl 1 rfl) ?_
      refine lv_icmp_ge (tgt := 35) hx hb dX3_firstOfRow_6 (by decide) (fun c136 => ?_) (fun c136 => ?_)
      · skip
        have c136i : x1.toInt ≤ v114.toInt := (zc_le (rfl : x1.toInt = _) (rfl : v114.toInt = _)).mp c136
        refine lv_iload_n hx hb dX3_firstOfRow_35 rfl (lv_at hl 2 rfl) ?_
        exact hret v113 () (Nat.le_of_ble_eq_true rfl) (Nat.le_of_ble_eq_true rfl) rfl (ox_228 i133) hP hD hS dX3_firstOfRow_36
      · skip
        have c136i : ¬ (x1.toInt ≤ v114.toInt) := fun q => c136 ((zc_le (rfl : x1.toInt = _) (rfl : v114.toInt = _)).mpr q)
        refine lv_iload_n hx hb dX3_firstOfRow_9 rfl (lv_at hl 3 rfl) ?_
        refine lv_aload_n hx hb dX3_firstOfRow_10 rfl (lv_at hl 0 rfl) ?_
        refine va_get (D := g.1) (ci := 3) (v := .int h0_rowLength) (C := RX3) (T := TX3) (N := 13) hx hb hG iX3 hown hX.1 hP 0 rfl rfl 8 (by decide) (hG _ wf_X3_108) (fun _ h9 => h9) rfl dX3_firstOfRow_11 ?_
        refine lv_icmp_ge (tgt := 35) hx hb dX3_firstOfRow_14 (by decide) (fun c137 => ?_) (fun c137 => ?_)
        · skip
          have c137i : h0_rowLength.toInt ≤ v114.toInt := (zc_le (rfl : h0_rowLength.toInt = _) (rfl : v114.toInt = _)).mp c137
          refine lv_iload_n hx hb dX3_firstOfRow_35 rfl (lv_at hl 2 rfl) ?_
          exact hret v113 () (Nat.le_of_ble_eq_true rfl) (Nat.le_of_ble_eq_true rfl) rfl (ox_228 i133) hP hD hS dX3_firstOfRow_36
        · skip
          have c137i : ¬ (h0_rowLength.toInt ≤ v114.toInt) := fun q => c137 ((zc_le (rfl : h0_rowLength.toInt = _) (rfl : v114.toInt = _)).mpr q)
          refine lv_iload_n hx hb dX3_firstOfRow_17 rfl (lv_at hl 2 rfl) ?_
          refine lv_aload_n hx hb dX3_firstOfRow_18 rfl (lv_at hl 0 rfl) ?_
          refine va_get (D := g.1) (ci := 3) (v := .ref h0_row) (C := RX3) (T := TX3) (N := 13) hx hb hG iX3 hown hX.1 hP 0 rfl rfl 7 (by decide) (hG _ wf_X3_34) (fun _ h9 => h9) rfl dX3_firstOfRow_19 ?_
          refine lv_iload_n hx hb dX3_firstOfRow_22 rfl (lv_at hl 3 rfl) ?_
          refine va_iald hx hb hX.1 hP 1 0 rfl rfl (zin (rfl : v114.toInt = _) (ox_292 c136i c137i hy0 i134)) dX3_firstOfRow_23 ?_
          refine lv_topi (fun z138 e139 => ?_)
          have f140 : 1 ≤ z138.toInt ∧ z138.toInt ≤ 8 := by rw [e139]; exact hy5.at (rfl : v114.toInt = _) (rfl : h0_rowLength.toInt = _) (ox_293 c136i c137i hy0 i134)
          refine zfi (wr := [(h0, .inr (3, [.ref h0_room, .ref h0_clashing, .ref h0_reach, .ref h0_ways, .ref h0_switches, .ref h0_kind, .ref h0_best, .ref h0_row, .int h0_rowLength, .int h0_bends, .int h0_full, .int h0_first, .int h0_punch])), (h0_row, .inl (g.2.1.1, 8, .inl f_h0_row))]) (va_runSN (As := [.int z138]) (rest := [.int v113]) ⟨hx, hb, hml, hown, hG⟩ (kX8_bitb l g z138 (ox_209 f140) _) ⟨va_cnB 1 hG (zGood wc_X8_bit) rfl rfl rfl (hX.2.1.ml wmn_X3_70) (hG _ wini_X8) hX8_bit ⟨Nat.le_of_ble_eq_true rfl, Nat.le_of_ble_eq_true rfl⟩, hG _ ws_X8_bit, trivial⟩ (zpreS hX hP hD hS hA [] rfl (by decide)) rfl rfl hl.1 rfl (lv_room (Nat.le_of_ble_eq_true rfl)) dX3_firstOfRow_24 ⟨Nat.le_of_ble_eq_true rfl, Nat.le_of_ble_eq_true rfl⟩) hP hD hS hA [] [0, 1] rfl rfl (by decide) (by decide) (fun r141 _ H locs hp hP hD hS => ?_)
          refine W.cs (cells' := 0) (slots' := 0) rfl rfl ?_
          have hq142 : 1 ≤ r141.toInt ∧ r141.toInt ≤ 128 := hp
          have hP : va_P g.1 vwCl [(h0, .inr (3, [.ref h0_room, .ref h0_clashing, .ref h0_reach, .ref h0_ways, .ref h0_switches, .ref h0_kind, .ref h0_best, .ref h0_row, .int h0_rowLength, .int h0_bends, .int h0_full, .int h0_first, .int h0_punch])), (h0_row, .inl (g.2.1.1, 8, .inl f_h0_row))] H := hP
          have hD : va_D A [(h0, .inr (3, [.ref h0_room, .ref h0_clashing, .ref h0_reach, .ref h0_ways, .ref h0_switches, .ref h0_kind, .ref h0_best, .ref h0_row, .int h0_rowLength, .int h0_bends, .int h0_full, .int h0_first, .int h0_punch])), (h0_row, .inl (g.2.1.1, 8, .inl f_h0_row))] := hD
          refine lv_ior hx hb dX3_firstOfRow_27 ?_
          refine lv_topi (fun z143 e144 => ?_)
          have f145 : 0 ≤ z143.toInt ∧ z143.toInt < 256 := zor 8 e144 (rfl : v113.toInt = _) (rfl : r141.toInt = _) (by decide) (ox_275 hq142 i133)
          refine lv_istore_n (lv' := [(2, .int z143), (0, .ref h0), (1, .int x1), (3, .int v114)]) hx hb dX3_firstOfRow_28 rfl hl (by decide) rfl (fun ls hl => ?_)
          obtain ⟨z146, e147⟩ : ∃ y9 : Int32, y9 = v114 + 1 := ⟨_, rfl⟩
          have f148 : z146.toInt = v114.toInt + 1 := za e147 (rfl : v114.toInt = _) (show (1 : Int32).toInt = (1 : Int) from by decide) (ox_294 (zr h0_rowLength) (zr v114) (zr x1) c136i c137i hy0 i134)
          refine lv_iinc (v := z146) (lv' := [(3, .int z146), (2, .int z143), (0, .ref h0), (1, .int x1)]) hx hb dX3_firstOfRow_29 hl (k := 3) rfl (by rw [e147]; rfl) (by decide) rfl (fun ls hl => ?_)
          refine lv_goto (tgt := 4) hx hb dX3_firstOfRow_32 (by decide) ?_
          exact ih132 z143 z146 H locs ls (ox_277 f145) (ox_295 c136i c137i f148 hy0 i134) (zdec hm135 (ox_296 c136i c137i f148 hy0 i134)) hP hD hS (lv_sub hl [2, 3, 1, 0] rfl)
  exact L130 _ (0 : Int32) (0 : Int32) _ _ ls ((show 0 ≤ (0 : Int) ∧ (0 : Int) ≤ 255 from by decide)) ((show 0 ≤ (0 : Int) ∧ (0 : Int) ≤ 8 from by decide)) (Nat.lt_succ_self _) hP hD hS (lv_sub hl [2, 3, 1, 0] rfl)
theorem dX3_canEndWith_0 : decode cX3_canEndWith 0 = .ok (.aload_n 0, 1) := by decide +kernel
theorem dX3_canEndWith_1 : decode cX3_canEndWith 1 = .ok (.getfield 43, 3) := by decide +kernel
theorem dX3_canEndWith_4 : decode cX3_canEndWith 4 = .ok (.iload_n 1, 1) := by decide +kernel
theorem dX3_canEndWith_5 : decode cX3_canEndWith 5 = .ok (.invokestatic 70, 3) := by decide +kernel
theorem dX3_canEndWith_8 : decode cX3_canEndWith 8 = .ok (.iconst (-1), 1) := by decide +kernel
theorem dX3_canEndWith_9 : decode cX3_canEndWith 9 = .ok (.ixor, 1) := by decide +kernel
theorem dX3_canEndWith_10 : decode cX3_canEndWith 10 = .ok (.iand, 1) := by decide +kernel
theorem dX3_canEndWith_11 : decode cX3_canEndWith 11 = .ok (.istore_n 2, 1) := by decide +kernel
theorem dX3_canEndWith_12 : decode cX3_canEndWith 12 = .ok (.aload_n 0, 1) := by decide +kernel
theorem dX3_canEndWith_13 : decode cX3_canEndWith 13 = .ok (.iload_n 2, 1) := by decide +kernel
theorem dX3_canEndWith_14 : decode cX3_canEndWith 14 = .ok (.invokevirtual 101, 3) := by decide +kernel
theorem dX3_canEndWith_17 : decode cX3_canEndWith 17 = .ok (.ifCond .eq 16, 3) := by decide +kernel
theorem dX3_canEndWith_33 : decode cX3_canEndWith 33 = .ok (.iconst 0, 1) := by decide +kernel
theorem dX3_canEndWith_34 : decode cX3_canEndWith 34 = .ok (.ireturn, 1) := by decide +kernel
theorem dX3_canEndWith_20 : decode cX3_canEndWith 20 = .ok (.aload_n 0, 1) := by decide +kernel
theorem dX3_canEndWith_21 : decode cX3_canEndWith 21 = .ok (.iload_n 2, 1) := by decide +kernel
theorem dX3_canEndWith_22 : decode cX3_canEndWith 22 = .ok (.iload_n 1, 1) := by decide +kernel
theorem dX3_canEndWith_23 : decode cX3_canEndWith 23 = .ok (.invokevirtual 105, 3) := by decide +kernel
theorem dX3_canEndWith_26 : decode cX3_canEndWith 26 = .ok (.ifCond .eq 7, 3) := by decide +kernel
theorem dX3_canEndWith_29 : decode cX3_canEndWith 29 = .ok (.iconst 1, 1) := by decide +kernel
theorem dX3_canEndWith_30 : decode cX3_canEndWith 30 = .ok (.goto 4, 3) := by decide +kernel
abbrev rm_kX3_canEndWith : Room := { frames := 2, cells := 0, slots := 0, locals := 43 }
set_option maxHeartbeats 4000000 in
set_option maxRecDepth 100000 in
theorem kX3_canEndWith (l : Launch) (g : zL) (h0 : Nat) (x1 : Int32) (h0_room : Nat) (h0_clashing : Nat) (h0_reach : Nat) (h0_ways : Nat) (h0_switches : Nat) (h0_kind : Nat) (h0_best : Nat) (h0_row : Nat) (h0_rowLength : Int32) (h0_bends : Int32) (h0_full : Int32) (h0_first : Int32) (h0_punch : Int32) (f_h0_reach : Nat → Int32) (f_h0_room : Nat → Int32) (hy0 : 1 ≤ x1.toInt ∧ x1.toInt ≤ 8) (hy1 : 0 ≤ h0_rowLength.toInt ∧ h0_rowLength.toInt ≤ 8) (hy2 : (-1) ≤ h0_bends.toInt ∧ h0_bends.toInt ≤ 8) (hy3 : 0 ≤ h0_full.toInt ∧ h0_full.toInt ≤ 255) (hy4 : 0 ≤ h0_first.toInt ∧ h0_first.toInt ≤ 255) : zCi l g yX3_canEndWith cX3_canEndWith 3 (some .boolean) rm_kX3_canEndWith [.ref h0, .int x1] [(h0, .inr (3, [.ref h0_room, .ref h0_clashing, .ref h0_reach, .ref h0_ways, .ref h0_switches, .ref h0_kind, .ref h0_best, .ref h0_row, .int h0_rowLength, .int h0_bends, .int h0_full, .int h0_first, .int h0_punch])), (h0_reach, .inl (g.2.1.2.1, 256, .inl f_h0_reach)), (h0_room, .inl (g.2.1.1, 2048, .inl f_h0_room))] (fun (r : Int32) (u : Unit) => (0 ≤ r.toInt ∧ r.toInt ≤ 1)) (fun (u : Unit) => [(h0, .inr (3, [.ref h0_room, .ref h0_clashing, .ref h0_reach, .ref h0_ways, .ref h0_switches, .ref h0_kind, .ref h0_best, .ref h0_row, .int h0_rowLength, .int h0_bends, .int h0_full, .int h0_first, .int h0_punch])), (h0_reach, .inl (g.2.1.2.1, 256, .inl f_h0_reach)), (h0_room, .inl (g.2.1.1, 2048, .inl f_h0_room))]) := by
  refine zCi.mk2 (by decide) (Nat.le_of_ble_eq_true rfl) ?_
  intro p e s m below meth c A args Q hE hret hP hD hS ls hl
  obtain ⟨hx, hb, hr, hml, hown, hG, hlocks, hnm, hX, hA⟩ := hE
  have hown : s.vm.findClass RX3 = some m.cls := hown
  have hl : lv_has ls 3 [(0, .ref h0), (1, .int x1)] := hl
  refine lv_aload_n hx hb dX3_canEndWith_0 rfl (lv_at hl 0 rfl) ?_
  refine va_get (D := g.1) (ci := 3) (v := .int h0_full) (C := RX3) (T := TX3) (N := 13) hx hb hG iX3 hown hX.1 hP 0 rfl rfl 10 (by decide) (hG _ wf_X3_43) (fun _ h9 => h9) rfl dX3_canEndWith_1 ?_
  refine lv_iload_n hx hb dX3_canEndWith_4 rfl (lv_at hl 1 rfl) ?_
  refine zfi (wr := [(h0, .inr (3, [.ref h0_room, .ref h0_clashing, .ref h0_reach, .ref h0_ways, .ref h0_switches, .ref h0_kind, .ref h0_best, .ref h0_row, .int h0_rowLength, .int h0_bends, .int h0_full, .int h0_first, .int h0_punch])), (h0_reach, .inl (g.2.1.2.1, 256, .inl f_h0_reach)), (h0_room, .inl (g.2.1.1, 2048, .inl f_h0_room))]) (va_runSN (As := [.int x1]) (rest := [.int h0_full]) ⟨hx, hb, hml, hown, hG⟩ (kX8_bitb l g x1 (ox_209 hy0) _) ⟨va_cnB 1 hG (zGood wc_X8_bit) rfl rfl rfl (hX.2.1.ml wmn_X3_70) (hG _ wini_X8) hX8_bit ⟨Nat.le_of_ble_eq_true rfl, Nat.le_of_ble_eq_true rfl⟩, hG _ ws_X8_bit, trivial⟩ (zpreS hX hP hD hS hA [] rfl (by decide)) rfl rfl hl.1 rfl (lv_room (Nat.le_of_ble_eq_true rfl)) dX3_canEndWith_5 ⟨Nat.le_of_ble_eq_true rfl, Nat.le_of_ble_eq_true rfl⟩) hP hD hS hA [] [0, 1, 2] rfl rfl (by decide) (by decide) (fun r1 _ H locs hp hP hD hS => ?_)
  refine W.cs (cells' := 0) (slots' := 0) rfl rfl ?_
  have hq2 : 1 ≤ r1.toInt ∧ r1.toInt ≤ 128 := hp
  have hP : va_P g.1 vwCl [(h0, .inr (3, [.ref h0_room, .ref h0_clashing, .ref h0_reach, .ref h0_ways, .ref h0_switches, .ref h0_kind, .ref h0_best, .ref h0_row, .int h0_rowLength, .int h0_bends, .int h0_full, .int h0_first, .int h0_punch])), (h0_reach, .inl (g.2.1.2.1, 256, .inl f_h0_reach)), (h0_room, .inl (g.2.1.1, 2048, .inl f_h0_room))] H := hP
  have hD : va_D A [(h0, .inr (3, [.ref h0_room, .ref h0_clashing, .ref h0_reach, .ref h0_ways, .ref h0_switches, .ref h0_kind, .ref h0_best, .ref h0_row, .int h0_rowLength, .int h0_bends, .int h0_full, .int h0_first, .int h0_punch])), (h0_reach, .inl (g.2.1.2.1, 256, .inl f_h0_reach)), (h0_room, .inl (g.2.1.1, 2048, .inl f_h0_room))] := hD
  refine lv_iconst (v := (-1)) hx hb dX3_canEndWith_8 (by decide) ?_
  refine lv_ixor hx hb dX3_canEndWith_9 ?_
  refine lv_topi (fun z3 e4 => ?_)
  refine lv_iand hx hb dX3_canEndWith_10 ?_
  refine lv_topi (fun z5 e6 => ?_)
  have f7 : 0 ≤ z5.toInt ∧ z5.toInt ≤ h0_full.toInt := zand' e6 (rfl : h0_full.toInt = _) (ox_297 hy3)
  refine lv_istore_n (lv' := [(2, .int z5), (0, .ref h0), (1, .int x1)]) hx hb dX3_canEndWith_11 rfl hl (by decide) rfl (fun ls hl => ?_)
  refine lv_aload_n hx hb dX3_canEndWith_12 rfl (lv_at hl 1 rfl) ?_
  refine lv_iload_n hx hb dX3_canEndWith_13 rfl (lv_at hl 0 rfl) ?_
  refine zfi (wr := [(h0_room, .inl (g.2.1.1, 2048, .inl f_h0_room))]) (va_runV (As := [.int z5]) (rest := []) ⟨hx, hb, hml, hown, hG⟩ (kX3_isReached l g h0 z5 h0_room h0_clashing h0_reach h0_ways h0_switches h0_kind h0_best h0_row h0_rowLength h0_bends h0_full h0_first h0_punch f_h0_reach (ox_298 f7 hy3) (ox_1 hy1) (ox_274 hy2) (ox_299 f7 hy3) (ox_228 hy4) _) ⟨callB_of 1 hG (zGood wc_X3_isReached) rfl rfl rfl (hG _ wini_X3) (hG _ wm_X3_101) hX3_isReached ⟨Nat.le_of_ble_eq_true rfl, Nat.le_of_ble_eq_true rfl⟩, hG _ wi_X3_isReached, hG _ wse_X3_X3_isReached⟩ (zpreV (va_recv hX.1 hP (ci := 3) (q0 := 0) rfl rfl) hX hP hD hS hA [0, 1] rfl (by decide)) rfl rfl hl.1 rfl (lv_room (Nat.le_of_ble_eq_true rfl)) dX3_canEndWith_14 ⟨Nat.le_of_ble_eq_true rfl, Nat.le_of_ble_eq_true rfl⟩) hP hD hS hA [0, 1] [2] rfl rfl (by decide) (by decide) (fun r8 _ H locs hp hP hD hS => ?_)
  refine W.cs (cells' := 0) (slots' := 0) rfl rfl ?_
  have hq9 : 0 ≤ r8.toInt ∧ r8.toInt ≤ 1 := hp
  have hP : va_P g.1 vwCl [(h0_room, .inl (g.2.1.1, 2048, .inl f_h0_room)), (h0, .inr (3, [.ref h0_room, .ref h0_clashing, .ref h0_reach, .ref h0_ways, .ref h0_switches, .ref h0_kind, .ref h0_best, .ref h0_row, .int h0_rowLength, .int h0_bends, .int h0_full, .int h0_first, .int h0_punch])), (h0_reach, .inl (g.2.1.2.1, 256, .inl f_h0_reach))] H := hP
  have hD : va_D A [(h0_room, .inl (g.2.1.1, 2048, .inl f_h0_room)), (h0, .inr (3, [.ref h0_room, .ref h0_clashing, .ref h0_reach, .ref h0_ways, .ref h0_switches, .ref h0_kind, .ref h0_best, .ref h0_row, .int h0_rowLength, .int h0_bends, .int h0_full, .int h0_first, .int h0_punch])), (h0_reach, .inl (g.2.1.2.1, 256, .inl f_h0_reach))] := hD
  refine lv_if_eq (tgt := 33) hx hb dX3_canEndWith_17 (by decide) (fun c10 => ?_) (fun c10 => ?_)
  · skip
    have c10i : r8.toInt = (0 : Int) := (zc_eq (rfl : r8.toInt = _) (show (0 : Int32).toInt = (0 : Int) from by decide)).mp c10
    refine lv_iconst (v := 0) hx hb dX3_canEndWith_33 (by decide) ?_
    exact hret (0 : Int32) () (Nat.le_of_ble_eq_true rfl) (Nat.le_of_ble_eq_true rfl) rfl ((show 0 ≤ (0 : Int) ∧ (0 : Int) ≤ 1 from by decide)) (hP.sub [1, 2, 0] rfl) (hD.sub [1, 2, 0] (by decide) rfl) hS dX3_canEndWith_34
  · skip
    have c10i : ¬ (r8.toInt = (0 : Int)) := fun q => c10 ((zc_eq (rfl : r8.toInt = _) (show (0 : Int32).toInt = (0 : Int) from by decide)).mpr q)
    refine lv_aload_n hx hb dX3_canEndWith_20 rfl (lv_at hl 1 rfl) ?_
    refine lv_iload_n hx hb dX3_canEndWith_21 rfl (lv_at hl 0 rfl) ?_
    refine lv_iload_n hx hb dX3_canEndWith_22 rfl (lv_at hl 2 rfl) ?_
    refine zfi (wr := [(h0_reach, .inl (g.2.1.2.1, 256, .inl f_h0_reach))]) (va_runV (As := [.int z5, .int x1]) (rest := []) ⟨hx, hb, hml, hown, hG⟩ (kX3_isClear l g h0 z5 x1 h0_room h0_clashing h0_reach h0_ways h0_switches h0_kind h0_best h0_row h0_rowLength h0_bends h0_full h0_first h0_punch f_h0_room (ox_298 f7 hy3) (ox_209 hy0) (ox_1 hy1) (ox_274 hy2) (ox_299 f7 hy3) (ox_228 hy4) _) ⟨callB_of 2 hG (zGood wc_X3_isClear) rfl rfl rfl (hG _ wini_X3) (hG _ wm_X3_105) hX3_isClear ⟨Nat.le_of_ble_eq_true rfl, Nat.le_of_ble_eq_true rfl⟩, hG _ wi_X3_isClear, hG _ wse_X3_X3_isClear⟩ (zpreV (va_recv hX.1 hP (ci := 3) (q0 := 1) rfl rfl) hX hP hD hS hA [1, 0] rfl (by decide)) rfl rfl hl.1 rfl (lv_room (Nat.le_of_ble_eq_true rfl)) dX3_canEndWith_23 ⟨Nat.le_of_ble_eq_true rfl, Nat.le_of_ble_eq_true rfl⟩) hP hD hS hA [1, 0] [2] rfl rfl (by decide) (by decide) (fun r11 _ H locs hp hP hD hS => ?_)
    refine W.cs (cells' := 0) (slots' := 0) rfl rfl ?_
    have hq12 : 0 ≤ r11.toInt ∧ r11.toInt ≤ 1 := hp
    have hP : va_P g.1 vwCl [(h0_reach, .inl (g.2.1.2.1, 256, .inl f_h0_reach)), (h0, .inr (3, [.ref h0_room, .ref h0_clashing, .ref h0_reach, .ref h0_ways, .ref h0_switches, .ref h0_kind, .ref h0_best, .ref h0_row, .int h0_rowLength, .int h0_bends, .int h0_full, .int h0_first, .int h0_punch])), (h0_room, .inl (g.2.1.1, 2048, .inl f_h0_room))] H := hP
    have hD : va_D A [(h0_reach, .inl (g.2.1.2.1, 256, .inl f_h0_reach)), (h0, .inr (3, [.ref h0_room, .ref h0_clashing, .ref h0_reach, .ref h0_ways, .ref h0_switches, .ref h0_kind, .ref h0_best, .ref h0_row, .int h0_rowLength, .int h0_bends, .int h0_full, .int h0_first, .int h0_punch])), (h0_room, .inl (g.2.1.1, 2048, .inl f_h0_room))] := hD
    refine lv_if_eq (tgt := 33) hx hb dX3_canEndWith_26 (by decide) (fun c13 => ?_) (fun c13 => ?_)
    · skip
      have c13i : r11.toInt = (0 : Int) := (zc_eq (rfl : r11.toInt = _) (show (0 : Int32).toInt = (0 : Int) from by decide)).mp c13
      refine lv_iconst (v := 0) hx hb dX3_canEndWith_33 (by decide) ?_
      exact hret (0 : Int32) () (Nat.le_of_ble_eq_true rfl) (Nat.le_of_ble_eq_true rfl) rfl ((show 0 ≤ (0 : Int) ∧ (0 : Int) ≤ 1 from by decide)) (hP.sub [1, 0, 2] rfl) (hD.sub [1, 0, 2] (by decide) rfl) hS dX3_canEndWith_34
    · skip
      have c13i : ¬ (r11.toInt = (0 : Int)) := fun q => c13 ((zc_eq (rfl : r11.toInt = _) (show (0 : Int32).toInt = (0 : Int) from by decide)).mpr q)
      refine lv_iconst (v := 1) hx hb dX3_canEndWith_29 (by decide) ?_
      refine lv_goto (tgt := 34) hx hb dX3_canEndWith_30 (by decide) ?_
      exact hret (1 : Int32) () (Nat.le_of_ble_eq_true rfl) (Nat.le_of_ble_eq_true rfl) rfl ((show 0 ≤ (1 : Int) ∧ (1 : Int) ≤ 1 from by decide)) (hP.sub [1, 0, 2] rfl) (hD.sub [1, 0, 2] (by decide) rfl) hS dX3_canEndWith_34
theorem dX3_passesWithout_0 : decode cX3_passesWithout 0 = .ok (.aload_n 0, 1) := by decide +kernel
theorem dX3_passesWithout_1 : decode cX3_passesWithout 1 = .ok (.getfield 84, 3) := by decide +kernel
theorem dX3_passesWithout_4 : decode cX3_passesWithout 4 = .ok (.istore_n 3, 1) := by decide +kernel
theorem dX3_passesWithout_5 : decode cX3_passesWithout 5 = .ok (.iload_n 3, 1) := by decide +kernel
theorem dX3_passesWithout_6 : decode cX3_passesWithout 6 = .ok (.aload_n 0, 1) := by decide +kernel
theorem dX3_passesWithout_7 : decode cX3_passesWithout 7 = .ok (.getfield 43, 3) := by decide +kernel
theorem dX3_passesWithout_10 : decode cX3_passesWithout 10 = .ok (.if_icmp .gt 44, 3) := by decide +kernel
theorem dX3_passesWithout_54 : decode cX3_passesWithout 54 = .ok (.iconst 0, 1) := by decide +kernel
theorem dX3_passesWithout_55 : decode cX3_passesWithout 55 = .ok (.ireturn, 1) := by decide +kernel
theorem dX3_passesWithout_13 : decode cX3_passesWithout 13 = .ok (.aload_n 0, 1) := by decide +kernel
theorem dX3_passesWithout_14 : decode cX3_passesWithout 14 = .ok (.iload_n 3, 1) := by decide +kernel
theorem dX3_passesWithout_15 : decode cX3_passesWithout 15 = .ok (.invokevirtual 101, 3) := by decide +kernel
theorem dX3_passesWithout_48 : decode cX3_passesWithout 48 = .ok (.iinc 3 1, 3) := by decide +kernel
theorem dX3_passesWithout_51 : decode cX3_passesWithout 51 = .ok (.goto (-46), 3) := by decide +kernel
theorem dX3_passesWithout_18 : decode cX3_passesWithout 18 = .ok (.ifCond .eq 30, 3) := by decide +kernel
theorem dX3_passesWithout_21 : decode cX3_passesWithout 21 = .ok (.aload_n 0, 1) := by decide +kernel
theorem dX3_passesWithout_22 : decode cX3_passesWithout 22 = .ok (.getfield 22, 3) := by decide +kernel
theorem dX3_passesWithout_25 : decode cX3_passesWithout 25 = .ok (.iload_n 3, 1) := by decide +kernel
theorem dX3_passesWithout_26 : decode cX3_passesWithout 26 = .ok (.iaload, 1) := by decide +kernel
theorem dX3_passesWithout_27 : decode cX3_passesWithout 27 = .ok (.ifCond .le 21, 3) := by decide +kernel
theorem dX3_passesWithout_30 : decode cX3_passesWithout 30 = .ok (.iload_n 1, 1) := by decide +kernel
theorem dX3_passesWithout_31 : decode cX3_passesWithout 31 = .ok (.iload_n 3, 1) := by decide +kernel
theorem dX3_passesWithout_32 : decode cX3_passesWithout 32 = .ok (.invokestatic 63, 3) := by decide +kernel
theorem dX3_passesWithout_35 : decode cX3_passesWithout 35 = .ok (.ifCond .eq 13, 3) := by decide +kernel
theorem dX3_passesWithout_38 : decode cX3_passesWithout 38 = .ok (.iload_n 2, 1) := by decide +kernel
theorem dX3_passesWithout_39 : decode cX3_passesWithout 39 = .ok (.iload_n 3, 1) := by decide +kernel
theorem dX3_passesWithout_40 : decode cX3_passesWithout 40 = .ok (.invokestatic 63, 3) := by decide +kernel
theorem dX3_passesWithout_43 : decode cX3_passesWithout 43 = .ok (.ifCond .ne 5, 3) := by decide +kernel
theorem dX3_passesWithout_46 : decode cX3_passesWithout 46 = .ok (.iconst 1, 1) := by decide +kernel
theorem dX3_passesWithout_47 : decode cX3_passesWithout 47 = .ok (.ireturn, 1) := by decide +kernel
abbrev rm_kX3_passesWithout : Room := { frames := 2, cells := 0, slots := 0, locals := 41 }
set_option maxHeartbeats 4000000 in
set_option maxRecDepth 100000 in
theorem kX3_passesWithout (l : Launch) (g : zL) (h0 : Nat) (x1 : Int32) (x2 : Int32) (h0_room : Nat) (h0_clashing : Nat) (h0_reach : Nat) (h0_ways : Nat) (h0_switches : Nat) (h0_kind : Nat) (h0_best : Nat) (h0_row : Nat) (h0_rowLength : Int32) (h0_bends : Int32) (h0_full : Int32) (h0_first : Int32) (h0_punch : Int32) (f_h0_reach : Nat → Int32) (f_h0_ways : Nat → Int32) (hy0 : 0 ≤ h0_rowLength.toInt ∧ h0_rowLength.toInt ≤ 8) (hy1 : (-1) ≤ h0_bends.toInt ∧ h0_bends.toInt ≤ 8) (hy2 : 0 ≤ h0_full.toInt ∧ h0_full.toInt ≤ 255) (hy3 : 0 ≤ h0_first.toInt ∧ h0_first.toInt ≤ 255) : zCi l g yX3_passesWithout cX3_passesWithout 4 (some .boolean) rm_kX3_passesWithout [.ref h0, .int x1, .int x2] [(h0, .inr (3, [.ref h0_room, .ref h0_clashing, .ref h0_reach, .ref h0_ways, .ref h0_switches, .ref h0_kind, .ref h0_best, .ref h0_row, .int h0_rowLength, .int h0_bends, .int h0_full, .int h0_first, .int h0_punch])), (h0_reach, .inl (g.2.1.2.1, 256, .inl f_h0_reach)), (h0_ways, .inl (g.2.1.1, 256, .inl f_h0_ways))] (fun (r : Int32) (u : Unit) => (0 ≤ r.toInt ∧ r.toInt ≤ 1)) (fun (u : Unit) => [(h0, .inr (3, [.ref h0_room, .ref h0_clashing, .ref h0_reach, .ref h0_ways, .ref h0_switches, .ref h0_kind, .ref h0_best, .ref h0_row, .int h0_rowLength, .int h0_bends, .int h0_full, .int h0_first, .int h0_punch])), (h0_reach, .inl (g.2.1.2.1, 256, .inl f_h0_reach)), (h0_ways, .inl (g.2.1.1, 256, .inl f_h0_ways))]) := by
  refine zCi.mk2 (by decide) (Nat.le_of_ble_eq_true rfl) ?_
  intro p e s m below meth c A args Q hE hret hP hD hS ls hl
  obtain ⟨hx, hb, hr, hml, hown, hG, hlocks, hnm, hX, hA⟩ := hE
  have hown : s.vm.findClass RX3 = some m.cls := hown
  have hl : lv_has ls 4 [(0, .ref h0), (1, .int x1), (2, .int x2)] := hl
  refine lv_aload_n hx hb dX3_passesWithout_0 rfl (lv_at hl 0 rfl) ?_
  refine va_get (D := g.1) (ci := 3) (v := .int h0_first) (C := RX3) (T := TX3) (N := 13) hx hb hG iX3 hown hX.1 hP 0 rfl rfl 11 (by decide) (hG _ wf_X3_84) (fun _ h9 => h9) rfl dX3_passesWithout_1 ?_
  refine lv_istore_n (lv' := [(3, .int h0_first), (0, .ref h0), (1, .int x1), (2, .int x2)]) hx hb dX3_passesWithout_4 rfl hl (by decide) rfl (fun ls hl => ?_)
  have L83 : ∀ (n : Nat) (v55 : Int32) (H : Heap) (locs : List Loc) (ls : Array Slot), 0 ≤ v55.toInt ∧ v55.toInt ≤ 256 → (257 - v55.toInt).toNat < n → va_P g.1 vwCl [(h0, .inr (3, [.ref h0_room, .ref h0_clashing, .ref h0_reach, .ref h0_ways, .ref h0_switches, .ref h0_kind, .ref h0_best, .ref h0_row, .int h0_rowLength, .int h0_bends, .int h0_full, .int h0_first, .int h0_punch])), (h0_reach, .inl (g.2.1.2.1, 256, .inl f_h0_reach)), (h0_ways, .inl (g.2.1.1, 256, .inl f_h0_ways))] H → va_D A [(h0, .inr (3, [.ref h0_room, .ref h0_clashing, .ref h0_reach, .ref h0_ways, .ref h0_switches, .ref h0_kind, .ref h0_best, .ref h0_row, .int h0_rowLength, .int h0_bends, .int h0_full, .int h0_first, .int h0_punch])), (h0_reach, .inl (g.2.1.2.1, 256, .inl f_h0_reach)), (h0_ways, .inl (g.2.1.1, 256, .inl f_h0_ways))] → va_S A s.heap H locs → lv_has ls 4 [(0, .ref h0), (1, .int x1), (2, .int x2), (3, .int v55)] → W p l e rm_kX3_passesWithout s m args below meth c H locs 0 0 Q (F0 m 5 ls []) := by
    intro n84
    induction n84 with
    | zero => intro v55 H locs ls i86 hm87; exact absurd hm87 (Nat.not_lt_zero _)
    | succ n84 ih85 =>
      intro v55 H locs ls i86 hm87 hP hD hS hl
      refine lv_iload_n hx hb dX3_passesWithout_5 rfl (lv_at hl 3 rfl) ?_
      refine lv_aload_n hx hb dX3_passesWithout_6 rfl (lv_at hl 0 rfl) ?_
      refine va_get (D := g.1) (ci := 3) (v := .int h0_full) (C := RX3) (T := TX3) (N := 13) hx hb hG iX3 hown hX.1 hP 0 rfl rfl 10 (by decide) (hG _ wf_X3_43) (fun _ h9 => h9) rfl dX3_passesWithout_7 ?_
      refine lv_icmp_gt (tgt := 54) hx hb dX3_passesWithout_10 (by decide) (fun c88 => ?_) (fun c88 => ?_)
      · skip
        have c88i : h0_full.toInt < v55.toInt := (zc_lt (rfl : h0_full.toInt = _) (rfl : v55.toInt = _)).mp c88
        refine lv_iconst (v := 0) hx hb dX3_passesWithout_54 (by decide) ?_
        exact hret (0 : Int32) () (Nat.le_of_ble_eq_true rfl) (Nat.le_of_ble_eq_true rfl) rfl ((show 0 ≤ (0 : Int) ∧ (0 : Int) ≤ 1 from by decide)) hP hD hS dX3_passesWithout_55
      · skip
        have c88i : ¬ (h0_full.toInt < v55.toInt) := fun q => c88 ((zc_lt (rfl : h0_full.toInt = _) (rfl : v55.toInt = _)).mpr q)
        refine lv_aload_n hx hb dX3_passesWithout_13 rfl (lv_at hl 0 rfl) ?_
        refine lv_iload_n hx hb dX3_passesWithout_14 rfl (lv_at hl 3 rfl) ?_
        refine zfi (wr := [(h0_ways, .inl (g.2.1.1, 256, .inl f_h0_ways))]) (va_runV (As := [.int v55]) (rest := []) ⟨hx, hb, hml, hown, hG⟩ (kX3_isReached l g h0 v55 h0_room h0_clashing h0_reach h0_ways h0_switches h0_kind h0_best h0_row h0_rowLength h0_bends h0_full h0_first h0_punch f_h0_reach (ox_270 c88i hy2 i86) (ox_1 hy0) (ox_274 hy1) (ox_271 c88i hy2 i86) (ox_228 hy3) _) ⟨callB_of 1 hG (zGood wc_X3_isReached) rfl rfl rfl (hG _ wini_X3) (hG _ wm_X3_101) hX3_isReached ⟨Nat.le_of_ble_eq_true rfl, Nat.le_of_ble_eq_true rfl⟩, hG _ wi_X3_isReached, hG _ wse_X3_X3_isReached⟩ (zpreV (va_recv hX.1 hP (ci := 3) (q0 := 0) rfl rfl) hX hP hD hS hA [0, 1] rfl (by decide)) rfl rfl hl.1 rfl (lv_room (Nat.le_of_ble_eq_true rfl)) dX3_passesWithout_15 ⟨Nat.le_of_ble_eq_true rfl, Nat.le_of_ble_eq_true rfl⟩) hP hD hS hA [0, 1] [2] rfl rfl (by decide) (by decide) (fun r89 _ H locs hp hP hD hS => ?_)
        refine W.cs (cells' := 0) (slots' := 0) rfl rfl ?_
        have hq90 : 0 ≤ r89.toInt ∧ r89.toInt ≤ 1 := hp
        have hP : va_P g.1 vwCl [(h0_ways, .inl (g.2.1.1, 256, .inl f_h0_ways)), (h0, .inr (3, [.ref h0_room, .ref h0_clashing, .ref h0_reach, .ref h0_ways, .ref h0_switches, .ref h0_kind, .ref h0_best, .ref h0_row, .int h0_rowLength, .int h0_bends, .int h0_full, .int h0_first, .int h0_punch])), (h0_reach, .inl (g.2.1.2.1, 256, .inl f_h0_reach))] H := hP
        have hD : va_D A [(h0_ways, .inl (g.2.1.1, 256, .inl f_h0_ways)), (h0, .inr (3, [.ref h0_room, .ref h0_clashing, .ref h0_reach, .ref h0_ways, .ref h0_switches, .ref h0_kind, .ref h0_best, .ref h0_row, .int h0_rowLength, .int h0_bends, .int h0_full, .int h0_first, .int h0_punch])), (h0_reach, .inl (g.2.1.2.1, 256, .inl f_h0_reach))] := hD
        have J101 : ∀  (H : Heap) (locs : List Loc) (ls : Array Slot), va_P g.1 vwCl [(h0_ways, .inl (g.2.1.1, 256, .inl f_h0_ways)), (h0, .inr (3, [.ref h0_room, .ref h0_clashing, .ref h0_reach, .ref h0_ways, .ref h0_switches, .ref h0_kind, .ref h0_best, .ref h0_row, .int h0_rowLength, .int h0_bends, .int h0_full, .int h0_first, .int h0_punch])), (h0_reach, .inl (g.2.1.2.1, 256, .inl f_h0_reach))] H → va_D A [(h0_ways, .inl (g.2.1.1, 256, .inl f_h0_ways)), (h0, .inr (3, [.ref h0_room, .ref h0_clashing, .ref h0_reach, .ref h0_ways, .ref h0_switches, .ref h0_kind, .ref h0_best, .ref h0_row, .int h0_rowLength, .int h0_bends, .int h0_full, .int h0_first, .int h0_punch])), (h0_reach, .inl (g.2.1.2.1, 256, .inl f_h0_reach))] → va_S A s.heap H locs → lv_has ls 4 [(0, .ref h0), (1, .int x1), (2, .int x2), (3, .int v55)] → W p l e rm_kX3_passesWithout s m args below meth c H locs 0 0 Q (F0 m 48 ls []) := by
          intro  H locs ls  hP hD hS hl
          obtain ⟨z102, e103⟩ : ∃ y9 : Int32, y9 = v55 + 1 := ⟨_, rfl⟩
          have f104 : z102.toInt = v55.toInt + 1 := za e103 (rfl : v55.toInt = _) (show (1 : Int32).toInt = (1 : Int) from by decide) (ox_267 (zr h0_full) (zr v55) c88i hy2 i86)
          refine lv_iinc (v := z102) (lv' := [(3, .int z102), (0, .ref h0), (1, .int x1), (2, .int x2)]) hx hb dX3_passesWithout_48 hl (k := 3) rfl (by rw [e103]; rfl) (by decide) rfl (fun ls hl => ?_)
          refine lv_goto (tgt := 5) hx hb dX3_passesWithout_51 (by decide) ?_
          exact ih85 z102 H locs ls (ox_268 c88i f104 hy2 i86) (zdec hm87 (ox_269 c88i f104 hy2 i86)) (hP.sub [1, 2, 0] rfl) (hD.sub [1, 2, 0] (by decide) rfl) hS (lv_sub hl [1, 2, 3, 0] rfl)
        refine lv_if_eq (tgt := 48) hx hb dX3_passesWithout_18 (by decide) (fun c105 => ?_) (fun c105 => ?_)
        · skip
          have c105i : r89.toInt = (0 : Int) := (zc_eq (rfl : r89.toInt = _) (show (0 : Int32).toInt = (0 : Int) from by decide)).mp c105
          exact J101 H locs ls  hP hD hS (lv_sub hl [0, 1, 2, 3] rfl)
        · skip
          have c105i : ¬ (r89.toInt = (0 : Int)) := fun q => c105 ((zc_eq (rfl : r89.toInt = _) (show (0 : Int32).toInt = (0 : Int) from by decide)).mpr q)
          refine lv_aload_n hx hb dX3_passesWithout_21 rfl (lv_at hl 0 rfl) ?_
          refine va_get (D := g.1) (ci := 3) (v := .ref h0_ways) (C := RX3) (T := TX3) (N := 13) hx hb hG iX3 hown hX.1 hP 1 rfl rfl 3 (by decide) (hG _ wf_X3_22) (fun _ h9 => h9) rfl dX3_passesWithout_22 ?_
          refine lv_iload_n hx hb dX3_passesWithout_25 rfl (lv_at hl 3 rfl) ?_
          refine va_iald hx hb hX.1 hP 0 0 rfl rfl (zin (rfl : v55.toInt = _) (ox_300 c88i hy2 i86)) dX3_passesWithout_26 ?_
          refine lv_topi (fun z106 e107 => ?_)
          refine lv_if_le (tgt := 48) hx hb dX3_passesWithout_27 (by decide) (fun c108 => ?_) (fun c108 => ?_)
          · skip
            have c108i : z106.toInt ≤ (0 : Int) := (zc_le (rfl : z106.toInt = _) (show (0 : Int32).toInt = (0 : Int) from by decide)).mp c108
            exact J101 H locs ls  hP hD hS (lv_sub hl [0, 1, 2, 3] rfl)
          · skip
            have c108i : ¬ (z106.toInt ≤ (0 : Int)) := fun q => c108 ((zc_le (rfl : z106.toInt = _) (show (0 : Int32).toInt = (0 : Int) from by decide)).mpr q)
            refine lv_iload_n hx hb dX3_passesWithout_30 rfl (lv_at hl 1 rfl) ?_
            refine lv_iload_n hx hb dX3_passesWithout_31 rfl (lv_at hl 3 rfl) ?_
            refine zfi (wr := [(h0_ways, .inl (g.2.1.1, 256, .inl f_h0_ways)), (h0, .inr (3, [.ref h0_room, .ref h0_clashing, .ref h0_reach, .ref h0_ways, .ref h0_switches, .ref h0_kind, .ref h0_best, .ref h0_row, .int h0_rowLength, .int h0_bends, .int h0_full, .int h0_first, .int h0_punch])), (h0_reach, .inl (g.2.1.2.1, 256, .inl f_h0_reach))]) (va_runSN (As := [.int x1, .int v55]) (rest := []) ⟨hx, hb, hml, hown, hG⟩ (kX8_isIn l g x1 v55 _) ⟨va_cnB 2 hG (zGood wc_X8_isIn) rfl rfl rfl (hX.2.1.ml wmn_X3_63) (hG _ wini_X8) hX8_isIn ⟨Nat.le_of_ble_eq_true rfl, Nat.le_of_ble_eq_true rfl⟩, hG _ ws_X8_isIn, trivial⟩ (zpreS hX hP hD hS hA [] rfl (by decide)) rfl rfl hl.1 rfl (lv_room (Nat.le_of_ble_eq_true rfl)) dX3_passesWithout_32 ⟨Nat.le_of_ble_eq_true rfl, Nat.le_of_ble_eq_true rfl⟩) hP hD hS hA [] [0, 1, 2] rfl rfl (by decide) (by decide) (fun r109 _ H locs hp hP hD hS => ?_)
            refine W.cs (cells' := 0) (slots' := 0) rfl rfl ?_
            have hq110 : 0 ≤ r109.toInt ∧ r109.toInt ≤ 1 := hp
            have hP : va_P g.1 vwCl [(h0_ways, .inl (g.2.1.1, 256, .inl f_h0_ways)), (h0, .inr (3, [.ref h0_room, .ref h0_clashing, .ref h0_reach, .ref h0_ways, .ref h0_switches, .ref h0_kind, .ref h0_best, .ref h0_row, .int h0_rowLength, .int h0_bends, .int h0_full, .int h0_first, .int h0_punch])), (h0_reach, .inl (g.2.1.2.1, 256, .inl f_h0_reach))] H := hP
            have hD : va_D A [(h0_ways, .inl (g.2.1.1, 256, .inl f_h0_ways)), (h0, .inr (3, [.ref h0_room, .ref h0_clashing, .ref h0_reach, .ref h0_ways, .ref h0_switches, .ref h0_kind, .ref h0_best, .ref h0_row, .int h0_rowLength, .int h0_bends, .int h0_full, .int h0_first, .int h0_punch])), (h0_reach, .inl (g.2.1.2.1, 256, .inl f_h0_reach))] := hD
            refine lv_if_eq (tgt := 48) hx hb dX3_passesWithout_35 (by decide) (fun c111 => ?_) (fun c111 => ?_)
            · skip
              have c111i : r109.toInt = (0 : Int) := (zc_eq (rfl : r109.toInt = _) (show (0 : Int32).toInt = (0 : Int) from by decide)).mp c111
              exact J101 H locs ls  hP hD hS (lv_sub hl [0, 1, 2, 3] rfl)
            · skip
              have c111i : ¬ (r109.toInt = (0 : Int)) := fun q => c111 ((zc_eq (rfl : r109.toInt = _) (show (0 : Int32).toInt = (0 : Int) from by decide)).mpr q)
              refine lv_iload_n hx hb dX3_passesWithout_38 rfl (lv_at hl 2 rfl) ?_
              refine lv_iload_n hx hb dX3_passesWithout_39 rfl (lv_at hl 3 rfl) ?_
              refine zfi (wr := [(h0_ways, .inl (g.2.1.1, 256, .inl f_h0_ways)), (h0, .inr (3, [.ref h0_room, .ref h0_clashing, .ref h0_reach, .ref h0_ways, .ref h0_switches, .ref h0_kind, .ref h0_best, .ref h0_row, .int h0_rowLength, .int h0_bends, .int h0_full, .int h0_first, .int h0_punch])), (h0_reach, .inl (g.2.1.2.1, 256, .inl f_h0_reach))]) (va_runSN (As := [.int x2, .int v55]) (rest := []) ⟨hx, hb, hml, hown, hG⟩ (kX8_isIn l g x2 v55 _) ⟨va_cnB 2 hG (zGood wc_X8_isIn) rfl rfl rfl (hX.2.1.ml wmn_X3_63) (hG _ wini_X8) hX8_isIn ⟨Nat.le_of_ble_eq_true rfl, Nat.le_of_ble_eq_true rfl⟩, hG _ ws_X8_isIn, trivial⟩ (zpreS hX hP hD hS hA [] rfl (by decide)) rfl rfl hl.1 rfl (lv_room (Nat.le_of_ble_eq_true rfl)) dX3_passesWithout_40 ⟨Nat.le_of_ble_eq_true rfl, Nat.le_of_ble_eq_true rfl⟩) hP hD hS hA [] [0, 1, 2] rfl rfl (by decide) (by decide) (fun r112 _ H locs hp hP hD hS => ?_)
              refine W.cs (cells' := 0) (slots' := 0) rfl rfl ?_
              have hq113 : 0 ≤ r112.toInt ∧ r112.toInt ≤ 1 := hp
              have hP : va_P g.1 vwCl [(h0_ways, .inl (g.2.1.1, 256, .inl f_h0_ways)), (h0, .inr (3, [.ref h0_room, .ref h0_clashing, .ref h0_reach, .ref h0_ways, .ref h0_switches, .ref h0_kind, .ref h0_best, .ref h0_row, .int h0_rowLength, .int h0_bends, .int h0_full, .int h0_first, .int h0_punch])), (h0_reach, .inl (g.2.1.2.1, 256, .inl f_h0_reach))] H := hP
              have hD : va_D A [(h0_ways, .inl (g.2.1.1, 256, .inl f_h0_ways)), (h0, .inr (3, [.ref h0_room, .ref h0_clashing, .ref h0_reach, .ref h0_ways, .ref h0_switches, .ref h0_kind, .ref h0_best, .ref h0_row, .int h0_rowLength, .int h0_bends, .int h0_full, .int h0_first, .int h0_punch])), (h0_reach, .inl (g.2.1.2.1, 256, .inl f_h0_reach))] := hD
              refine lv_if_ne (tgt := 48) hx hb dX3_passesWithout_43 (by decide) (fun c114 => ?_) (fun c114 => ?_)
              · skip
                have c114i : ¬ (r112.toInt = (0 : Int)) := fun q => c114 ((zc_eq (rfl : r112.toInt = _) (show (0 : Int32).toInt = (0 : Int) from by decide)).mpr q)
                exact J101 H locs ls  hP hD hS (lv_sub hl [0, 1, 2, 3] rfl)
              · skip
                have c114i : r112.toInt = (0 : Int) := (zc_eq (rfl : r112.toInt = _) (show (0 : Int32).toInt = (0 : Int) from by decide)).mp c114
                refine lv_iconst (v := 1) hx hb dX3_passesWithout_46 (by decide) ?_
                exact hret (1 : Int32) () (Nat.le_of_ble_eq_true rfl) (Nat.le_of_ble_eq_true rfl) rfl ((show 0 ≤ (1 : Int) ∧ (1 : Int) ≤ 1 from by decide)) (hP.sub [1, 2, 0] rfl) (hD.sub [1, 2, 0] (by decide) rfl) hS dX3_passesWithout_47
  exact L83 _ h0_first _ _ ls (ox_273 hy3) (Nat.lt_succ_self _) hP hD hS (lv_sub hl [1, 2, 3, 0] rfl)
theorem dX3_countReached_0 : decode cX3_countReached 0 = .ok (.iconst 0, 1) := by decide +kernel
theorem dX3_countReached_1 : decode cX3_countReached 1 = .ok (.istore_n 1, 1) := by decide +kernel
theorem dX3_countReached_2 : decode cX3_countReached 2 = .ok (.aload_n 0, 1) := by decide +kernel
theorem dX3_countReached_3 : decode cX3_countReached 3 = .ok (.getfield 84, 3) := by decide +kernel
theorem dX3_countReached_6 : decode cX3_countReached 6 = .ok (.istore_n 2, 1) := by decide +kernel
theorem dX3_countReached_7 : decode cX3_countReached 7 = .ok (.iload_n 2, 1) := by decide +kernel
theorem dX3_countReached_8 : decode cX3_countReached 8 = .ok (.aload_n 0, 1) := by decide +kernel
theorem dX3_countReached_9 : decode cX3_countReached 9 = .ok (.getfield 43, 3) := by decide +kernel
theorem dX3_countReached_12 : decode cX3_countReached 12 = .ok (.if_icmp .gt 18, 3) := by decide +kernel
theorem dX3_countReached_30 : decode cX3_countReached 30 = .ok (.iload_n 1, 1) := by decide +kernel
theorem dX3_countReached_31 : decode cX3_countReached 31 = .ok (.ireturn, 1) := by decide +kernel
theorem dX3_countReached_15 : decode cX3_countReached 15 = .ok (.iload_n 1, 1) := by decide +kernel
theorem dX3_countReached_16 : decode cX3_countReached 16 = .ok (.aload_n 0, 1) := by decide +kernel
theorem dX3_countReached_17 : decode cX3_countReached 17 = .ok (.getfield 19, 3) := by decide +kernel
theorem dX3_countReached_20 : decode cX3_countReached 20 = .ok (.iload_n 2, 1) := by decide +kernel
theorem dX3_countReached_21 : decode cX3_countReached 21 = .ok (.baload, 1) := by decide +kernel
theorem dX3_countReached_22 : decode cX3_countReached 22 = .ok (.iadd, 1) := by decide +kernel
theorem dX3_countReached_23 : decode cX3_countReached 23 = .ok (.istore_n 1, 1) := by decide +kernel
theorem dX3_countReached_24 : decode cX3_countReached 24 = .ok (.iinc 2 1, 3) := by decide +kernel
theorem dX3_countReached_27 : decode cX3_countReached 27 = .ok (.goto (-20), 3) := by decide +kernel
abbrev rm_kX3_countReached : Room := { frames := 0, cells := 0, slots := 0, locals := 0 }
set_option maxHeartbeats 4000000 in
set_option maxRecDepth 100000 in
theorem kX3_countReached (l : Launch) (g : zL) (h0 : Nat) (h0_room : Nat) (h0_clashing : Nat) (h0_reach : Nat) (h0_ways : Nat) (h0_switches : Nat) (h0_kind : Nat) (h0_best : Nat) (h0_row : Nat) (h0_rowLength : Int32) (h0_bends : Int32) (h0_full : Int32) (h0_first : Int32) (h0_punch : Int32) (f_h0_reach : Nat → Int32) (hy0 : 0 ≤ h0_rowLength.toInt ∧ h0_rowLength.toInt ≤ 8) (hy1 : (-1) ≤ h0_bends.toInt ∧ h0_bends.toInt ≤ 8) (hy2 : 0 ≤ h0_full.toInt ∧ h0_full.toInt ≤ 255) (hy3 : 0 ≤ h0_first.toInt ∧ h0_first.toInt ≤ 255) : zCi l g yX3_countReached cX3_countReached 3 (some .int) rm_kX3_countReached [.ref h0] [(h0, .inr (3, [.ref h0_room, .ref h0_clashing, .ref h0_reach, .ref h0_ways, .ref h0_switches, .ref h0_kind, .ref h0_best, .ref h0_row, .int h0_rowLength, .int h0_bends, .int h0_full, .int h0_first, .int h0_punch])), (h0_reach, .inl (g.2.1.2.1, 256, .inl f_h0_reach))] (fun (r : Int32) (u : Unit) => True) (fun (u : Unit) => [(h0, .inr (3, [.ref h0_room, .ref h0_clashing, .ref h0_reach, .ref h0_ways, .ref h0_switches, .ref h0_kind, .ref h0_best, .ref h0_row, .int h0_rowLength, .int h0_bends, .int h0_full, .int h0_first, .int h0_punch])), (h0_reach, .inl (g.2.1.2.1, 256, .inl f_h0_reach))]) := by
  refine zCi.mk2 (by decide) (Nat.le_of_ble_eq_true rfl) ?_
  intro p e s m below meth c A args Q hE hret hP hD hS ls hl
  obtain ⟨hx, hb, hr, hml, hown, hG, hlocks, hnm, hX, hA⟩ := hE
  have hown : s.vm.findClass RX3 = some m.cls := hown
  have hl : lv_has ls 3 [(0, .ref h0)] := hl
  refine lv_iconst (v := 0) hx hb dX3_countReached_0 (by decide) ?_
  refine lv_istore_n (lv' := [(1, .int 0), (0, .ref h0)]) hx hb dX3_countReached_1 rfl hl (by decide) rfl (fun ls hl => ?_)
  refine lv_aload_n hx hb dX3_countReached_2 rfl (lv_at hl 1 rfl) ?_
  refine va_get (D := g.1) (ci := 3) (v := .int h0_first) (C := RX3) (T := TX3) (N := 13) hx hb hG iX3 hown hX.1 hP 0 rfl rfl 11 (by decide) (hG _ wf_X3_84) (fun _ h9 => h9) rfl dX3_countReached_3 ?_
  refine lv_istore_n (lv' := [(2, .int h0_first), (1, .int 0), (0, .ref h0)]) hx hb dX3_countReached_6 rfl hl (by decide) rfl (fun ls hl => ?_)
  have L32 : ∀ (n : Nat) (v21 : Int32) (v22 : Int32) (H : Heap) (locs : List Loc) (ls : Array Slot), 0 ≤ v22.toInt ∧ v22.toInt ≤ 256 → (257 - v22.toInt).toNat < n → va_P g.1 vwCl [(h0, .inr (3, [.ref h0_room, .ref h0_clashing, .ref h0_reach, .ref h0_ways, .ref h0_switches, .ref h0_kind, .ref h0_best, .ref h0_row, .int h0_rowLength, .int h0_bends, .int h0_full, .int h0_first, .int h0_punch])), (h0_reach, .inl (g.2.1.2.1, 256, .inl f_h0_reach))] H → va_D A [(h0, .inr (3, [.ref h0_room, .ref h0_clashing, .ref h0_reach, .ref h0_ways, .ref h0_switches, .ref h0_kind, .ref h0_best, .ref h0_row, .int h0_rowLength, .int h0_bends, .int h0_full, .int h0_first, .int h0_punch])), (h0_reach, .inl (g.2.1.2.1, 256, .inl f_h0_reach))] → va_S A s.heap H locs → lv_has ls 3 [(0, .ref h0), (1, .int v21), (2, .int v22)] → W p l e rm_kX3_countReached s m args below meth c H locs 0 0 Q (F0 m 7 ls []) := by
    intro n33
    induction n33 with
    | zero => intro v21 v22 H locs ls i35 hm36; exact absurd hm36 (Nat.not_lt_zero _)
    | succ n33 ih34 =>
      intro v21 v22 H locs ls i35 hm36 hP hD hS hl
      refine lv_iload_n hx hb dX3_countReached_7 rfl (lv_at hl 2 rfl) ?_
      refine lv_aload_n hx hb dX3_countReached_8 rfl (lv_at hl 0 rfl) ?_
      refine va_get (D := g.1) (ci := 3) (v := .int h0_full) (C := RX3) (T := TX3) (N := 13) hx hb hG iX3 hown hX.1 hP 0 rfl rfl 10 (by decide) (hG _ wf_X3_43) (fun _ h9 => h9) rfl dX3_countReached_9 ?_
      refine lv_icmp_gt (tgt := 30) hx hb dX3_countReached_12 (by decide) (fun c37 => ?_) (fun c37 => ?_)
      · skip
        have c37i : h0_full.toInt < v22.toInt := (zc_lt (rfl : h0_full.toInt = _) (rfl : v22.toInt = _)).mp c37
        refine lv_iload_n hx hb dX3_countReached_30 rfl (lv_at hl 1 rfl) ?_
        exact hret v21 () (Nat.le_of_ble_eq_true rfl) (Nat.le_of_ble_eq_true rfl) rfl trivial hP hD hS dX3_countReached_31
      · skip
        have c37i : ¬ (h0_full.toInt < v22.toInt) := fun q => c37 ((zc_lt (rfl : h0_full.toInt = _) (rfl : v22.toInt = _)).mpr q)
        refine lv_iload_n hx hb dX3_countReached_15 rfl (lv_at hl 1 rfl) ?_
        refine lv_aload_n hx hb dX3_countReached_16 rfl (lv_at hl 0 rfl) ?_
        refine va_get (D := g.1) (ci := 3) (v := .ref h0_reach) (C := RX3) (T := TX3) (N := 13) hx hb hG iX3 hown hX.1 hP 0 rfl rfl 2 (by decide) (hG _ wf_X3_19) (fun _ h9 => h9) rfl dX3_countReached_17 ?_
        refine lv_iload_n hx hb dX3_countReached_20 rfl (lv_at hl 2 rfl) ?_
        refine va_bald hx hb hX.1 hP 1 1 rfl rfl (zin (rfl : v22.toInt = _) (ox_300 c37i hy2 i35)) dX3_countReached_21 ?_
        refine lv_topi (fun z38 e39 => ?_)
        refine lv_iadd hx hb dX3_countReached_22 ?_
        refine lv_topi (fun z40 e41 => ?_)
        refine lv_istore_n (lv' := [(1, .int z40), (0, .ref h0), (2, .int v22)]) hx hb dX3_countReached_23 rfl hl (by decide) rfl (fun ls hl => ?_)
        obtain ⟨z42, e43⟩ : ∃ y9 : Int32, y9 = v22 + 1 := ⟨_, rfl⟩
        have f44 : z42.toInt = v22.toInt + 1 := za e43 (rfl : v22.toInt = _) (show (1 : Int32).toInt = (1 : Int) from by decide) (ox_267 (zr h0_full) (zr v22) c37i hy2 i35)
        refine lv_iinc (v := z42) (lv' := [(2, .int z42), (1, .int z40), (0, .ref h0)]) hx hb dX3_countReached_24 hl (k := 2) rfl (by rw [e43]; rfl) (by decide) rfl (fun ls hl => ?_)
        refine lv_goto (tgt := 7) hx hb dX3_countReached_27 (by decide) ?_
        exact ih34 z40 z42 H locs ls (ox_268 c37i f44 hy2 i35) (zdec hm36 (ox_269 c37i f44 hy2 i35)) hP hD hS (lv_sub hl [2, 1, 0] rfl)
  exact L32 _ (0 : Int32) h0_first _ _ ls (ox_273 hy3) (Nat.lt_succ_self _) hP hD hS (lv_sub hl [2, 1, 0] rfl)
theorem dX3_clearBends_0 : decode cX3_clearBends 0 = .ok (.iconst 0, 1) := by decide +kernel
theorem dX3_clearBends_1 : decode cX3_clearBends 1 = .ok (.istore_n 2, 1) := by decide +kernel
theorem dX3_clearBends_2 : decode cX3_clearBends 2 = .ok (.iconst 1, 1) := by decide +kernel
theorem dX3_clearBends_3 : decode cX3_clearBends 3 = .ok (.istore_n 3, 1) := by decide +kernel
theorem dX3_clearBends_4 : decode cX3_clearBends 4 = .ok (.iload_n 3, 1) := by decide +kernel
theorem dX3_clearBends_5 : decode cX3_clearBends 5 = .ok (.aload_n 0, 1) := by decide +kernel
theorem dX3_clearBends_6 : decode cX3_clearBends 6 = .ok (.getfield 50, 3) := by decide +kernel
theorem dX3_clearBends_9 : decode cX3_clearBends 9 = .ok (.if_icmp .gt 25, 3) := by decide +kernel
theorem dX3_clearBends_34 : decode cX3_clearBends 34 = .ok (.iload_n 2, 1) := by decide +kernel
theorem dX3_clearBends_35 : decode cX3_clearBends 35 = .ok (.ireturn, 1) := by decide +kernel
theorem dX3_clearBends_12 : decode cX3_clearBends 12 = .ok (.aload_n 0, 1) := by decide +kernel
theorem dX3_clearBends_13 : decode cX3_clearBends 13 = .ok (.iload_n 1, 1) := by decide +kernel
theorem dX3_clearBends_14 : decode cX3_clearBends 14 = .ok (.iload_n 3, 1) := by decide +kernel
theorem dX3_clearBends_15 : decode cX3_clearBends 15 = .ok (.invokevirtual 105, 3) := by decide +kernel
theorem dX3_clearBends_28 : decode cX3_clearBends 28 = .ok (.iinc 3 1, 3) := by decide +kernel
theorem dX3_clearBends_31 : decode cX3_clearBends 31 = .ok (.goto (-27), 3) := by decide +kernel
theorem dX3_clearBends_18 : decode cX3_clearBends 18 = .ok (.ifCond .eq 10, 3) := by decide +kernel
theorem dX3_clearBends_21 : decode cX3_clearBends 21 = .ok (.iload_n 2, 1) := by decide +kernel
theorem dX3_clearBends_22 : decode cX3_clearBends 22 = .ok (.iload_n 3, 1) := by decide +kernel
theorem dX3_clearBends_23 : decode cX3_clearBends 23 = .ok (.invokestatic 70, 3) := by decide +kernel
theorem dX3_clearBends_26 : decode cX3_clearBends 26 = .ok (.ior, 1) := by decide +kernel
theorem dX3_clearBends_27 : decode cX3_clearBends 27 = .ok (.istore_n 2, 1) := by decide +kernel
abbrev rm_kX3_clearBends : Room := { frames := 2, cells := 0, slots := 0, locals := 43 }
set_option maxHeartbeats 4000000 in
set_option maxRecDepth 100000 in
theorem kX3_clearBends (l : Launch) (g : zL) (h0 : Nat) (x1 : Int32) (h0_room : Nat) (h0_clashing : Nat) (h0_reach : Nat) (h0_ways : Nat) (h0_switches : Nat) (h0_kind : Nat) (h0_best : Nat) (h0_row : Nat) (h0_rowLength : Int32) (h0_bends : Int32) (h0_full : Int32) (h0_first : Int32) (h0_punch : Int32) (f_h0_room : Nat → Int32) (hy0 : 0 ≤ x1.toInt ∧ x1.toInt ≤ 255) (hy1 : 0 ≤ h0_rowLength.toInt ∧ h0_rowLength.toInt ≤ 8) (hy2 : (-1) ≤ h0_bends.toInt ∧ h0_bends.toInt ≤ 8) (hy3 : 0 ≤ h0_full.toInt ∧ h0_full.toInt ≤ 255) (hy4 : 0 ≤ h0_first.toInt ∧ h0_first.toInt ≤ 255) : zCi l g yX3_clearBends cX3_clearBends 4 (some .int) rm_kX3_clearBends [.ref h0, .int x1] [(h0, .inr (3, [.ref h0_room, .ref h0_clashing, .ref h0_reach, .ref h0_ways, .ref h0_switches, .ref h0_kind, .ref h0_best, .ref h0_row, .int h0_rowLength, .int h0_bends, .int h0_full, .int h0_first, .int h0_punch])), (h0_room, .inl (g.2.1.1, 2048, .inl f_h0_room))] (fun (r : Int32) (u : Unit) => (0 ≤ r.toInt ∧ r.toInt ≤ 255)) (fun (u : Unit) => [(h0, .inr (3, [.ref h0_room, .ref h0_clashing, .ref h0_reach, .ref h0_ways, .ref h0_switches, .ref h0_kind, .ref h0_best, .ref h0_row, .int h0_rowLength, .int h0_bends, .int h0_full, .int h0_first, .int h0_punch])), (h0_room, .inl (g.2.1.1, 2048, .inl f_h0_room))]) := by
  refine zCi.mk2 (by decide) (Nat.le_of_ble_eq_true rfl) ?_
  intro p e s m below meth c A args Q hE hret hP hD hS ls hl
  obtain ⟨hx, hb, hr, hml, hown, hG, hlocks, hnm, hX, hA⟩ := hE
  have hown : s.vm.findClass RX3 = some m.cls := hown
  have hl : lv_has ls 4 [(0, .ref h0), (1, .int x1)] := hl
  refine lv_iconst (v := 0) hx hb dX3_clearBends_0 (by decide) ?_
  refine lv_istore_n (lv' := [(2, .int 0), (0, .ref h0), (1, .int x1)]) hx hb dX3_clearBends_1 rfl hl (by decide) rfl (fun ls hl => ?_)
  refine lv_iconst (v := 1) hx hb dX3_clearBends_2 (by decide) ?_
  refine lv_istore_n (lv' := [(3, .int 1), (2, .int 0), (0, .ref h0), (1, .int x1)]) hx hb dX3_clearBends_3 rfl hl (by decide) rfl (fun ls hl => ?_)
  have L186 : ∀ (n : Nat) (v162 : Int32) (v163 : Int32) (H : Heap) (locs : List Loc) (ls : Array Slot), 0 ≤ v162.toInt ∧ v162.toInt ≤ 255 → 1 ≤ v163.toInt ∧ v163.toInt ≤ 9 → (10 - v163.toInt).toNat < n → va_P g.1 vwCl [(h0, .inr (3, [.ref h0_room, .ref h0_clashing, .ref h0_reach, .ref h0_ways, .ref h0_switches, .ref h0_kind, .ref h0_best, .ref h0_row, .int h0_rowLength, .int h0_bends, .int h0_full, .int h0_first, .int h0_punch])), (h0_room, .inl (g.2.1.1, 2048, .inl f_h0_room))] H → va_D A [(h0, .inr (3, [.ref h0_room, .ref h0_clashing, .ref h0_reach, .ref h0_ways, .ref h0_switches, .ref h0_kind, .ref h0_best, .ref h0_row, .int h0_rowLength, .int h0_bends, .int h0_full, .int h0_first, .int h0_punch])), (h0_room, .inl (g.2.1.1, 2048, .inl f_h0_room))] → va_S A s.heap H locs → lv_has ls 4 [(0, .ref h0), (1, .int x1), (2, .int v162), (3, .int v163)] → W p l e rm_kX3_clearBends s m args below meth c H locs 0 0 Q (F0 m 4 ls []) := by
    intro n187
    induction n187 with
    | zero => intro v162 v163 H locs ls i189 i190 hm191; exact absurd hm191 (Nat.not_lt_zero _)
    | succ n187 ih188 =>
      intro v162 v163 H locs ls i189 i190 hm191 hP hD hS hl
      refine lv_iload_n hx hb dX3_clearBends_4 rfl (lv_at hl 3 rfl) ?_
      refine lv_aload_n hx hb dX3_clearBends_5 rfl (lv_at hl 0 rfl) ?_
      refine va_get (D := g.1) (ci := 3) (v := .int h0_bends) (C := RX3) (T := TX3) (N := 13) hx hb hG iX3 hown hX.1 hP 0 rfl rfl 9 (by decide) (hG _ wf_X3_50) (fun _ h9 => h9) rfl dX3_clearBends_6 ?_
      refine lv_icmp_gt (tgt := 34) hx hb dX3_clearBends_9 (by decide) (fun c192 => ?_) (fun c192 => ?_)
      · skip
        have c192i : h0_bends.toInt < v163.toInt := (zc_lt (rfl : h0_bends.toInt = _) (rfl : v163.toInt = _)).mp c192
        refine lv_iload_n hx hb dX3_clearBends_34 rfl (lv_at hl 2 rfl) ?_
        exact hret v162 () (Nat.le_of_ble_eq_true rfl) (Nat.le_of_ble_eq_true rfl) rfl (ox_228 i189) hP hD hS dX3_clearBends_35
      · skip
        have c192i : ¬ (h0_bends.toInt < v163.toInt) := fun q => c192 ((zc_lt (rfl : h0_bends.toInt = _) (rfl : v163.toInt = _)).mpr q)
        refine lv_aload_n hx hb dX3_clearBends_12 rfl (lv_at hl 0 rfl) ?_
        refine lv_iload_n hx hb dX3_clearBends_13 rfl (lv_at hl 1 rfl) ?_
        refine lv_iload_n hx hb dX3_clearBends_14 rfl (lv_at hl 3 rfl) ?_
        refine zfi (wr := []) (va_runV (As := [.int x1, .int v163]) (rest := []) ⟨hx, hb, hml, hown, hG⟩ (kX3_isClear l g h0 x1 v163 h0_room h0_clashing h0_reach h0_ways h0_switches h0_kind h0_best h0_row h0_rowLength h0_bends h0_full h0_first h0_punch f_h0_room (ox_228 hy0) (ox_261 c192i hy2 i190) (ox_1 hy1) (ox_257 c192i hy2 i190) (ox_228 hy3) (ox_228 hy4) _) ⟨callB_of 2 hG (zGood wc_X3_isClear) rfl rfl rfl (hG _ wini_X3) (hG _ wm_X3_105) hX3_isClear ⟨Nat.le_of_ble_eq_true rfl, Nat.le_of_ble_eq_true rfl⟩, hG _ wi_X3_isClear, hG _ wse_X3_X3_isClear⟩ (zpreV (va_recv hX.1 hP (ci := 3) (q0 := 0) rfl rfl) hX hP hD hS hA [0, 1] rfl (by decide)) rfl rfl hl.1 rfl (lv_room (Nat.le_of_ble_eq_true rfl)) dX3_clearBends_15 ⟨Nat.le_of_ble_eq_true rfl, Nat.le_of_ble_eq_true rfl⟩) hP hD hS hA [0, 1] [] rfl rfl (by decide) (by decide) (fun r193 _ H locs hp hP hD hS => ?_)
        refine W.cs (cells' := 0) (slots' := 0) rfl rfl ?_
        have hq194 : 0 ≤ r193.toInt ∧ r193.toInt ≤ 1 := hp
        have hP : va_P g.1 vwCl [(h0, .inr (3, [.ref h0_room, .ref h0_clashing, .ref h0_reach, .ref h0_ways, .ref h0_switches, .ref h0_kind, .ref h0_best, .ref h0_row, .int h0_rowLength, .int h0_bends, .int h0_full, .int h0_first, .int h0_punch])), (h0_room, .inl (g.2.1.1, 2048, .inl f_h0_room))] H := hP
        have hD : va_D A [(h0, .inr (3, [.ref h0_room, .ref h0_clashing, .ref h0_reach, .ref h0_ways, .ref h0_switches, .ref h0_kind, .ref h0_best, .ref h0_row, .int h0_rowLength, .int h0_bends, .int h0_full, .int h0_first, .int h0_punch])), (h0_room, .inl (g.2.1.1, 2048, .inl f_h0_room))] := hD
        have J202 : ∀  (v201 : Int32) (H : Heap) (locs : List Loc) (ls : Array Slot), 0 ≤ v201.toInt ∧ v201.toInt ≤ 255 → va_P g.1 vwCl [(h0, .inr (3, [.ref h0_room, .ref h0_clashing, .ref h0_reach, .ref h0_ways, .ref h0_switches, .ref h0_kind, .ref h0_best, .ref h0_row, .int h0_rowLength, .int h0_bends, .int h0_full, .int h0_first, .int h0_punch])), (h0_room, .inl (g.2.1.1, 2048, .inl f_h0_room))] H → va_D A [(h0, .inr (3, [.ref h0_room, .ref h0_clashing, .ref h0_reach, .ref h0_ways, .ref h0_switches, .ref h0_kind, .ref h0_best, .ref h0_row, .int h0_rowLength, .int h0_bends, .int h0_full, .int h0_first, .int h0_punch])), (h0_room, .inl (g.2.1.1, 2048, .inl f_h0_room))] → va_S A s.heap H locs → lv_has ls 4 [(0, .ref h0), (1, .int x1), (2, .int v201), (3, .int v163)] → W p l e rm_kX3_clearBends s m args below meth c H locs 0 0 Q (F0 m 28 ls []) := by
          intro v201 H locs ls i203 hP hD hS hl
          obtain ⟨z204, e205⟩ : ∃ y9 : Int32, y9 = v163 + 1 := ⟨_, rfl⟩
          have f206 : z204.toInt = v163.toInt + 1 := za e205 (rfl : v163.toInt = _) (show (1 : Int32).toInt = (1 : Int) from by decide) (ox_262 (zr h0_bends) (zr v163) c192i hy2 i190)
          refine lv_iinc (v := z204) (lv' := [(3, .int z204), (0, .ref h0), (1, .int x1), (2, .int v201)]) hx hb dX3_clearBends_28 hl (k := 3) rfl (by rw [e205]; rfl) (by decide) rfl (fun ls hl => ?_)
          refine lv_goto (tgt := 4) hx hb dX3_clearBends_31 (by decide) ?_
          exact ih188 v201 z204 H locs ls (ox_228 i203) (ox_263 c192i f206 hy2 i190) (zdec hm191 (ox_264 c192i f206 hy2 i190)) hP hD hS (lv_sub hl [1, 2, 3, 0] rfl)
        refine lv_if_eq (tgt := 28) hx hb dX3_clearBends_18 (by decide) (fun c207 => ?_) (fun c207 => ?_)
        · skip
          have c207i : r193.toInt = (0 : Int) := (zc_eq (rfl : r193.toInt = _) (show (0 : Int32).toInt = (0 : Int) from by decide)).mp c207
          exact J202 v162 H locs ls (ox_228 i189) hP hD hS (lv_sub hl [0, 1, 2, 3] rfl)
        · skip
          have c207i : ¬ (r193.toInt = (0 : Int)) := fun q => c207 ((zc_eq (rfl : r193.toInt = _) (show (0 : Int32).toInt = (0 : Int) from by decide)).mpr q)
          refine lv_iload_n hx hb dX3_clearBends_21 rfl (lv_at hl 2 rfl) ?_
          refine lv_iload_n hx hb dX3_clearBends_22 rfl (lv_at hl 3 rfl) ?_
          refine zfi (wr := [(h0, .inr (3, [.ref h0_room, .ref h0_clashing, .ref h0_reach, .ref h0_ways, .ref h0_switches, .ref h0_kind, .ref h0_best, .ref h0_row, .int h0_rowLength, .int h0_bends, .int h0_full, .int h0_first, .int h0_punch])), (h0_room, .inl (g.2.1.1, 2048, .inl f_h0_room))]) (va_runSN (As := [.int v163]) (rest := [.int v162]) ⟨hx, hb, hml, hown, hG⟩ (kX8_bitb l g v163 (ox_261 c192i hy2 i190) _) ⟨va_cnB 1 hG (zGood wc_X8_bit) rfl rfl rfl (hX.2.1.ml wmn_X3_70) (hG _ wini_X8) hX8_bit ⟨Nat.le_of_ble_eq_true rfl, Nat.le_of_ble_eq_true rfl⟩, hG _ ws_X8_bit, trivial⟩ (zpreS hX hP hD hS hA [] rfl (by decide)) rfl rfl hl.1 rfl (lv_room (Nat.le_of_ble_eq_true rfl)) dX3_clearBends_23 ⟨Nat.le_of_ble_eq_true rfl, Nat.le_of_ble_eq_true rfl⟩) hP hD hS hA [] [0, 1] rfl rfl (by decide) (by decide) (fun r208 _ H locs hp hP hD hS => ?_)
          refine W.cs (cells' := 0) (slots' := 0) rfl rfl ?_
          have hq209 : 1 ≤ r208.toInt ∧ r208.toInt ≤ 128 := hp
          have hP : va_P g.1 vwCl [(h0, .inr (3, [.ref h0_room, .ref h0_clashing, .ref h0_reach, .ref h0_ways, .ref h0_switches, .ref h0_kind, .ref h0_best, .ref h0_row, .int h0_rowLength, .int h0_bends, .int h0_full, .int h0_first, .int h0_punch])), (h0_room, .inl (g.2.1.1, 2048, .inl f_h0_room))] H := hP
          have hD : va_D A [(h0, .inr (3, [.ref h0_room, .ref h0_clashing, .ref h0_reach, .ref h0_ways, .ref h0_switches, .ref h0_kind, .ref h0_best, .ref h0_row, .int h0_rowLength, .int h0_bends, .int h0_full, .int h0_first, .int h0_punch])), (h0_room, .inl (g.2.1.1, 2048, .inl f_h0_room))] := hD
          refine lv_ior hx hb dX3_clearBends_26 ?_
          refine lv_topi (fun z210 e211 => ?_)
          have f212 : 0 ≤ z210.toInt ∧ z210.toInt < 256 := zor 8 e211 (rfl : v162.toInt = _) (rfl : r208.toInt = _) (by decide) (ox_275 hq209 i189)
          refine lv_istore_n (lv' := [(2, .int z210), (0, .ref h0), (1, .int x1), (3, .int v163)]) hx hb dX3_clearBends_27 rfl hl (by decide) rfl (fun ls hl => ?_)
          exact J202 z210 H locs ls (ox_277 f212) hP hD hS (lv_sub hl [1, 2, 0, 3] rfl)
  exact L186 _ (0 : Int32) (1 : Int32) _ _ ls ((show 0 ≤ (0 : Int) ∧ (0 : Int) ≤ 255 from by decide)) ((show 1 ≤ (1 : Int) ∧ (1 : Int) ≤ 9 from by decide)) (Nat.lt_succ_self _) hP hD hS (lv_sub hl [2, 3, 1, 0] rfl)
theorem dX3_isDeadEnd_0 : decode cX3_isDeadEnd 0 = .ok (.iload_n 1, 1) := by decide +kernel
theorem dX3_isDeadEnd_1 : decode cX3_isDeadEnd 1 = .ok (.aload_n 0, 1) := by decide +kernel
theorem dX3_isDeadEnd_2 : decode cX3_isDeadEnd 2 = .ok (.getfield 43, 3) := by decide +kernel
theorem dX3_isDeadEnd_5 : decode cX3_isDeadEnd 5 = .ok (.if_icmp .eq 23, 3) := by decide +kernel
theorem dX3_isDeadEnd_28 : decode cX3_isDeadEnd 28 = .ok (.iconst 0, 1) := by decide +kernel
theorem dX3_isDeadEnd_29 : decode cX3_isDeadEnd 29 = .ok (.ireturn, 1) := by decide +kernel
theorem dX3_isDeadEnd_8 : decode cX3_isDeadEnd 8 = .ok (.aload_n 0, 1) := by decide +kernel
theorem dX3_isDeadEnd_9 : decode cX3_isDeadEnd 9 = .ok (.iload_n 1, 1) := by decide +kernel
theorem dX3_isDeadEnd_10 : decode cX3_isDeadEnd 10 = .ok (.invokevirtual 101, 3) := by decide +kernel
theorem dX3_isDeadEnd_13 : decode cX3_isDeadEnd 13 = .ok (.ifCond .eq 15, 3) := by decide +kernel
theorem dX3_isDeadEnd_16 : decode cX3_isDeadEnd 16 = .ok (.aload_n 0, 1) := by decide +kernel
theorem dX3_isDeadEnd_17 : decode cX3_isDeadEnd 17 = .ok (.iload_n 1, 1) := by decide +kernel
theorem dX3_isDeadEnd_18 : decode cX3_isDeadEnd 18 = .ok (.invokevirtual 120, 3) := by decide +kernel
theorem dX3_isDeadEnd_21 : decode cX3_isDeadEnd 21 = .ok (.ifCond .ne 7, 3) := by decide +kernel
theorem dX3_isDeadEnd_24 : decode cX3_isDeadEnd 24 = .ok (.iconst 1, 1) := by decide +kernel
theorem dX3_isDeadEnd_25 : decode cX3_isDeadEnd 25 = .ok (.goto 4, 3) := by decide +kernel
abbrev rm_kX3_isDeadEnd : Room := { frames := 3, cells := 0, slots := 0, locals := 66 }
set_option maxHeartbeats 4000000 in
set_option maxRecDepth 100000 in
theorem kX3_isDeadEnd (l : Launch) (g : zL) (h0 : Nat) (x1 : Int32) (h0_room : Nat) (h0_clashing : Nat) (h0_reach : Nat) (h0_ways : Nat) (h0_switches : Nat) (h0_kind : Nat) (h0_best : Nat) (h0_row : Nat) (h0_rowLength : Int32) (h0_bends : Int32) (h0_full : Int32) (h0_first : Int32) (h0_punch : Int32) (f_h0_reach : Nat → Int32) (f_h0_room : Nat → Int32) (hy0 : 0 ≤ x1.toInt ∧ x1.toInt ≤ 255) (hy1 : 0 ≤ h0_rowLength.toInt ∧ h0_rowLength.toInt ≤ 8) (hy2 : (-1) ≤ h0_bends.toInt ∧ h0_bends.toInt ≤ 8) (hy3 : 0 ≤ h0_full.toInt ∧ h0_full.toInt ≤ 255) (hy4 : 0 ≤ h0_first.toInt ∧ h0_first.toInt ≤ 255) : zCi l g yX3_isDeadEnd cX3_isDeadEnd 2 (some .boolean) rm_kX3_isDeadEnd [.ref h0, .int x1] [(h0, .inr (3, [.ref h0_room, .ref h0_clashing, .ref h0_reach, .ref h0_ways, .ref h0_switches, .ref h0_kind, .ref h0_best, .ref h0_row, .int h0_rowLength, .int h0_bends, .int h0_full, .int h0_first, .int h0_punch])), (h0_reach, .inl (g.2.1.2.1, 256, .inl f_h0_reach)), (h0_room, .inl (g.2.1.1, 2048, .inl f_h0_room))] (fun (r : Int32) (u : Unit) => (0 ≤ r.toInt ∧ r.toInt ≤ 1)) (fun (u : Unit) => [(h0, .inr (3, [.ref h0_room, .ref h0_clashing, .ref h0_reach, .ref h0_ways, .ref h0_switches, .ref h0_kind, .ref h0_best, .ref h0_row, .int h0_rowLength, .int h0_bends, .int h0_full, .int h0_first, .int h0_punch])), (h0_reach, .inl (g.2.1.2.1, 256, .inl f_h0_reach)), (h0_room, .inl (g.2.1.1, 2048, .inl f_h0_room))]) := by
  refine zCi.mk2 (by decide) (Nat.le_of_ble_eq_true rfl) ?_
  intro p e s m below meth c A args Q hE hret hP hD hS ls hl
  obtain ⟨hx, hb, hr, hml, hown, hG, hlocks, hnm, hX, hA⟩ := hE
  have hown : s.vm.findClass RX3 = some m.cls := hown
  have hl : lv_has ls 2 [(0, .ref h0), (1, .int x1)] := hl
  refine lv_iload_n hx hb dX3_isDeadEnd_0 rfl (lv_at hl 1 rfl) ?_
  refine lv_aload_n hx hb dX3_isDeadEnd_1 rfl (lv_at hl 0 rfl) ?_
  refine va_get (D := g.1) (ci := 3) (v := .int h0_full) (C := RX3) (T := TX3) (N := 13) hx hb hG iX3 hown hX.1 hP 0 rfl rfl 10 (by decide) (hG _ wf_X3_43) (fun _ h9 => h9) rfl dX3_isDeadEnd_2 ?_
  refine lv_icmp_eq (tgt := 28) hx hb dX3_isDeadEnd_5 (by decide) (fun c1 => ?_) (fun c1 => ?_)
  · skip
    have c1i : x1.toInt = h0_full.toInt := (zc_eq (rfl : x1.toInt = _) (rfl : h0_full.toInt = _)).mp c1
    refine lv_iconst (v := 0) hx hb dX3_isDeadEnd_28 (by decide) ?_
    exact hret (0 : Int32) () (Nat.le_of_ble_eq_true rfl) (Nat.le_of_ble_eq_true rfl) rfl ((show 0 ≤ (0 : Int) ∧ (0 : Int) ≤ 1 from by decide)) hP hD hS dX3_isDeadEnd_29
  · skip
    have c1i : ¬ (x1.toInt = h0_full.toInt) := fun q => c1 ((zc_eq (rfl : x1.toInt = _) (rfl : h0_full.toInt = _)).mpr q)
    refine lv_aload_n hx hb dX3_isDeadEnd_8 rfl (lv_at hl 0 rfl) ?_
    refine lv_iload_n hx hb dX3_isDeadEnd_9 rfl (lv_at hl 1 rfl) ?_
    refine zfi (wr := [(h0_room, .inl (g.2.1.1, 2048, .inl f_h0_room))]) (va_runV (As := [.int x1]) (rest := []) ⟨hx, hb, hml, hown, hG⟩ (kX3_isReached l g h0 x1 h0_room h0_clashing h0_reach h0_ways h0_switches h0_kind h0_best h0_row h0_rowLength h0_bends h0_full h0_first h0_punch f_h0_reach (ox_301 c1i hy0 hy3) (ox_1 hy1) (ox_274 hy2) (ox_302 c1i hy0 hy3) (ox_228 hy4) _) ⟨callB_of 1 hG (zGood wc_X3_isReached) rfl rfl rfl (hG _ wini_X3) (hG _ wm_X3_101) hX3_isReached ⟨Nat.le_of_ble_eq_true rfl, Nat.le_of_ble_eq_true rfl⟩, hG _ wi_X3_isReached, hG _ wse_X3_X3_isReached⟩ (zpreV (va_recv hX.1 hP (ci := 3) (q0 := 0) rfl rfl) hX hP hD hS hA [0, 1] rfl (by decide)) rfl rfl hl.1 rfl (lv_room (Nat.le_of_ble_eq_true rfl)) dX3_isDeadEnd_10 ⟨Nat.le_of_ble_eq_true rfl, Nat.le_of_ble_eq_true rfl⟩) hP hD hS hA [0, 1] [2] rfl rfl (by decide) (by decide) (fun r2 _ H locs hp hP hD hS => ?_)
    refine W.cs (cells' := 0) (slots' := 0) rfl rfl ?_
    have hq3 : 0 ≤ r2.toInt ∧ r2.toInt ≤ 1 := hp
    have hP : va_P g.1 vwCl [(h0_room, .inl (g.2.1.1, 2048, .inl f_h0_room)), (h0, .inr (3, [.ref h0_room, .ref h0_clashing, .ref h0_reach, .ref h0_ways, .ref h0_switches, .ref h0_kind, .ref h0_best, .ref h0_row, .int h0_rowLength, .int h0_bends, .int h0_full, .int h0_first, .int h0_punch])), (h0_reach, .inl (g.2.1.2.1, 256, .inl f_h0_reach))] H := hP
    have hD : va_D A [(h0_room, .inl (g.2.1.1, 2048, .inl f_h0_room)), (h0, .inr (3, [.ref h0_room, .ref h0_clashing, .ref h0_reach, .ref h0_ways, .ref h0_switches, .ref h0_kind, .ref h0_best, .ref h0_row, .int h0_rowLength, .int h0_bends, .int h0_full, .int h0_first, .int h0_punch])), (h0_reach, .inl (g.2.1.2.1, 256, .inl f_h0_reach))] := hD
    refine lv_if_eq (tgt := 28) hx hb dX3_isDeadEnd_13 (by decide) (fun c4 => ?_) (fun c4 => ?_)
    · skip
      have c4i : r2.toInt = (0 : Int) := (zc_eq (rfl : r2.toInt = _) (show (0 : Int32).toInt = (0 : Int) from by decide)).mp c4
      refine lv_iconst (v := 0) hx hb dX3_isDeadEnd_28 (by decide) ?_
      exact hret (0 : Int32) () (Nat.le_of_ble_eq_true rfl) (Nat.le_of_ble_eq_true rfl) rfl ((show 0 ≤ (0 : Int) ∧ (0 : Int) ≤ 1 from by decide)) (hP.sub [1, 2, 0] rfl) (hD.sub [1, 2, 0] (by decide) rfl) hS dX3_isDeadEnd_29
    · skip
      have c4i : ¬ (r2.toInt = (0 : Int)) := fun q => c4 ((zc_eq (rfl : r2.toInt = _) (show (0 : Int32).toInt = (0 : Int) from by decide)).mpr q)
      refine lv_aload_n hx hb dX3_isDeadEnd_16 rfl (lv_at hl 0 rfl) ?_
      refine lv_iload_n hx hb dX3_isDeadEnd_17 rfl (lv_at hl 1 rfl) ?_
      refine zfi (wr := [(h0_reach, .inl (g.2.1.2.1, 256, .inl f_h0_reach))]) (va_runV (As := [.int x1]) (rest := []) ⟨hx, hb, hml, hown, hG⟩ (kX3_clearBends l g h0 x1 h0_room h0_clashing h0_reach h0_ways h0_switches h0_kind h0_best h0_row h0_rowLength h0_bends h0_full h0_first h0_punch f_h0_room (ox_301 c1i hy0 hy3) (ox_1 hy1) (ox_274 hy2) (ox_302 c1i hy0 hy3) (ox_228 hy4) _) ⟨callB_of 1 hG (zGood wc_X3_clearBends) rfl rfl rfl (hG _ wini_X3) (hG _ wm_X3_120) hX3_clearBends ⟨Nat.le_of_ble_eq_true rfl, Nat.le_of_ble_eq_true rfl⟩, hG _ wi_X3_clearBends, hG _ wse_X3_X3_clearBends⟩ (zpreV (va_recv hX.1 hP (ci := 3) (q0 := 1) rfl rfl) hX hP hD hS hA [1, 0] rfl (by decide)) rfl rfl hl.1 rfl (lv_room (Nat.le_of_ble_eq_true rfl)) dX3_isDeadEnd_18 ⟨Nat.le_of_ble_eq_true rfl, Nat.le_of_ble_eq_true rfl⟩) hP hD hS hA [1, 0] [2] rfl rfl (by decide) (by decide) (fun r5 _ H locs hp hP hD hS => ?_)
      refine W.cs (cells' := 0) (slots' := 0) rfl rfl ?_
      have hq6 : 0 ≤ r5.toInt ∧ r5.toInt ≤ 255 := hp
      have hP : va_P g.1 vwCl [(h0_reach, .inl (g.2.1.2.1, 256, .inl f_h0_reach)), (h0, .inr (3, [.ref h0_room, .ref h0_clashing, .ref h0_reach, .ref h0_ways, .ref h0_switches, .ref h0_kind, .ref h0_best, .ref h0_row, .int h0_rowLength, .int h0_bends, .int h0_full, .int h0_first, .int h0_punch])), (h0_room, .inl (g.2.1.1, 2048, .inl f_h0_room))] H := hP
      have hD : va_D A [(h0_reach, .inl (g.2.1.2.1, 256, .inl f_h0_reach)), (h0, .inr (3, [.ref h0_room, .ref h0_clashing, .ref h0_reach, .ref h0_ways, .ref h0_switches, .ref h0_kind, .ref h0_best, .ref h0_row, .int h0_rowLength, .int h0_bends, .int h0_full, .int h0_first, .int h0_punch])), (h0_room, .inl (g.2.1.1, 2048, .inl f_h0_room))] := hD
      refine lv_if_ne (tgt := 28) hx hb dX3_isDeadEnd_21 (by decide) (fun c7 => ?_) (fun c7 => ?_)
      · skip
        have c7i : ¬ (r5.toInt = (0 : Int)) := fun q => c7 ((zc_eq (rfl : r5.toInt = _) (show (0 : Int32).toInt = (0 : Int) from by decide)).mpr q)
        refine lv_iconst (v := 0) hx hb dX3_isDeadEnd_28 (by decide) ?_
        exact hret (0 : Int32) () (Nat.le_of_ble_eq_true rfl) (Nat.le_of_ble_eq_true rfl) rfl ((show 0 ≤ (0 : Int) ∧ (0 : Int) ≤ 1 from by decide)) (hP.sub [1, 0, 2] rfl) (hD.sub [1, 0, 2] (by decide) rfl) hS dX3_isDeadEnd_29
      · skip
        have c7i : r5.toInt = (0 : Int) := (zc_eq (rfl : r5.toInt = _) (show (0 : Int32).toInt = (0 : Int) from by decide)).mp c7
        refine lv_iconst (v := 1) hx hb dX3_isDeadEnd_24 (by decide) ?_
        refine lv_goto (tgt := 29) hx hb dX3_isDeadEnd_25 (by decide) ?_
        exact hret (1 : Int32) () (Nat.le_of_ble_eq_true rfl) (Nat.le_of_ble_eq_true rfl) rfl ((show 0 ≤ (1 : Int) ∧ (1 : Int) ≤ 1 from by decide)) (hP.sub [1, 0, 2] rfl) (hD.sub [1, 0, 2] (by decide) rfl) hS dX3_isDeadEnd_29
theorem dX3_countDeadEnds_0 : decode cX3_countDeadEnds 0 = .ok (.iconst 0, 1) := by decide +kernel
theorem dX3_countDeadEnds_1 : decode cX3_countDeadEnds 1 = .ok (.istore_n 1, 1) := by decide +kernel
theorem dX3_countDeadEnds_2 : decode cX3_countDeadEnds 2 = .ok (.aload_n 0, 1) := by decide +kernel
theorem dX3_countDeadEnds_3 : decode cX3_countDeadEnds 3 = .ok (.getfield 84, 3) := by decide +kernel
theorem dX3_countDeadEnds_6 : decode cX3_countDeadEnds 6 = .ok (.istore_n 2, 1) := by decide +kernel
theorem dX3_countDeadEnds_7 : decode cX3_countDeadEnds 7 = .ok (.iload_n 2, 1) := by decide +kernel
theorem dX3_countDeadEnds_8 : decode cX3_countDeadEnds 8 = .ok (.aload_n 0, 1) := by decide +kernel
theorem dX3_countDeadEnds_9 : decode cX3_countDeadEnds 9 = .ok (.getfield 43, 3) := by decide +kernel
theorem dX3_countDeadEnds_12 : decode cX3_countDeadEnds 12 = .ok (.if_icmp .gt 25, 3) := by decide +kernel
theorem dX3_countDeadEnds_37 : decode cX3_countDeadEnds 37 = .ok (.iload_n 1, 1) := by decide +kernel
theorem dX3_countDeadEnds_38 : decode cX3_countDeadEnds 38 = .ok (.ireturn, 1) := by decide +kernel
theorem dX3_countDeadEnds_15 : decode cX3_countDeadEnds 15 = .ok (.iload_n 1, 1) := by decide +kernel
theorem dX3_countDeadEnds_16 : decode cX3_countDeadEnds 16 = .ok (.aload_n 0, 1) := by decide +kernel
theorem dX3_countDeadEnds_17 : decode cX3_countDeadEnds 17 = .ok (.iload_n 2, 1) := by decide +kernel
theorem dX3_countDeadEnds_18 : decode cX3_countDeadEnds 18 = .ok (.invokevirtual 123, 3) := by decide +kernel
theorem dX3_countDeadEnds_29 : decode cX3_countDeadEnds 29 = .ok (.iadd, 1) := by decide +kernel
theorem dX3_countDeadEnds_30 : decode cX3_countDeadEnds 30 = .ok (.istore_n 1, 1) := by decide +kernel
theorem dX3_countDeadEnds_31 : decode cX3_countDeadEnds 31 = .ok (.iinc 2 1, 3) := by decide +kernel
theorem dX3_countDeadEnds_34 : decode cX3_countDeadEnds 34 = .ok (.goto (-27), 3) := by decide +kernel
theorem dX3_countDeadEnds_21 : decode cX3_countDeadEnds 21 = .ok (.ifCond .eq 7, 3) := by decide +kernel
theorem dX3_countDeadEnds_28 : decode cX3_countDeadEnds 28 = .ok (.iconst 0, 1) := by decide +kernel
theorem dX3_countDeadEnds_24 : decode cX3_countDeadEnds 24 = .ok (.iconst 1, 1) := by decide +kernel
theorem dX3_countDeadEnds_25 : decode cX3_countDeadEnds 25 = .ok (.goto 4, 3) := by decide +kernel
abbrev rm_kX3_countDeadEnds : Room := { frames := 4, cells := 0, slots := 0, locals := 87 }
set_option maxHeartbeats 4000000 in
set_option maxRecDepth 100000 in
theorem kX3_countDeadEnds (l : Launch) (g : zL) (h0 : Nat) (h0_room : Nat) (h0_clashing : Nat) (h0_reach : Nat) (h0_ways : Nat) (h0_switches : Nat) (h0_kind : Nat) (h0_best : Nat) (h0_row : Nat) (h0_rowLength : Int32) (h0_bends : Int32) (h0_full : Int32) (h0_first : Int32) (h0_punch : Int32) (f_h0_reach : Nat → Int32) (f_h0_room : Nat → Int32) (hy0 : 0 ≤ h0_rowLength.toInt ∧ h0_rowLength.toInt ≤ 8) (hy1 : (-1) ≤ h0_bends.toInt ∧ h0_bends.toInt ≤ 8) (hy2 : 0 ≤ h0_full.toInt ∧ h0_full.toInt ≤ 255) (hy3 : 0 ≤ h0_first.toInt ∧ h0_first.toInt ≤ 255) : zCi l g yX3_countDeadEnds cX3_countDeadEnds 3 (some .int) rm_kX3_countDeadEnds [.ref h0] [(h0, .inr (3, [.ref h0_room, .ref h0_clashing, .ref h0_reach, .ref h0_ways, .ref h0_switches, .ref h0_kind, .ref h0_best, .ref h0_row, .int h0_rowLength, .int h0_bends, .int h0_full, .int h0_first, .int h0_punch])), (h0_reach, .inl (g.2.1.2.1, 256, .inl f_h0_reach)), (h0_room, .inl (g.2.1.1, 2048, .inl f_h0_room))] (fun (r : Int32) (u : Unit) => True) (fun (u : Unit) => [(h0, .inr (3, [.ref h0_room, .ref h0_clashing, .ref h0_reach, .ref h0_ways, .ref h0_switches, .ref h0_kind, .ref h0_best, .ref h0_row, .int h0_rowLength, .int h0_bends, .int h0_full, .int h0_first, .int h0_punch])), (h0_reach, .inl (g.2.1.2.1, 256, .inl f_h0_reach)), (h0_room, .inl (g.2.1.1, 2048, .inl f_h0_room))]) := by
  refine zCi.mk2 (by decide) (Nat.le_of_ble_eq_true rfl) ?_
  intro p e s m below meth c A args Q hE hret hP hD hS ls hl
  obtain ⟨hx, hb, hr, hml, hown, hG, hlocks, hnm, hX, hA⟩ := hE
  have hown : s.vm.findClass RX3 = some m.cls := hown
  have hl : lv_has ls 3 [(0, .ref h0)] := hl
  refine lv_iconst (v := 0) hx hb dX3_countDeadEnds_0 (by decide) ?_
  refine lv_istore_n (lv' := [(1, .int 0), (0, .ref h0)]) hx hb dX3_countDeadEnds_1 rfl hl (by decide) rfl (fun ls hl => ?_)
  refine lv_aload_n hx hb dX3_countDeadEnds_2 rfl (lv_at hl 1 rfl) ?_
  refine va_get (D := g.1) (ci := 3) (v := .int h0_first) (C := RX3) (T := TX3) (N := 13) hx hb hG iX3 hown hX.1 hP 0 rfl rfl 11 (by decide) (hG _ wf_X3_84) (fun _ h9 => h9) rfl dX3_countDeadEnds_3 ?_
  refine lv_istore_n (lv' := [(2, .int h0_first), (1, .int 0), (0, .ref h0)]) hx hb dX3_countDeadEnds_6 rfl hl (by decide) rfl (fun ls hl => ?_)
  have L128 : ∀ (n : Nat) (v113 : Int32) (v114 : Int32) (H : Heap) (locs : List Loc) (ls : Array Slot), 0 ≤ v114.toInt ∧ v114.toInt ≤ 256 → (257 - v114.toInt).toNat < n → va_P g.1 vwCl [(h0, .inr (3, [.ref h0_room, .ref h0_clashing, .ref h0_reach, .ref h0_ways, .ref h0_switches, .ref h0_kind, .ref h0_best, .ref h0_row, .int h0_rowLength, .int h0_bends, .int h0_full, .int h0_first, .int h0_punch])), (h0_reach, .inl (g.2.1.2.1, 256, .inl f_h0_reach)), (h0_room, .inl (g.2.1.1, 2048, .inl f_h0_room))] H → va_D A [(h0, .inr (3, [.ref h0_room, .ref h0_clashing, .ref h0_reach, .ref h0_ways, .ref h0_switches, .ref h0_kind, .ref h0_best, .ref h0_row, .int h0_rowLength, .int h0_bends, .int h0_full, .int h0_first, .int h0_punch])), (h0_reach, .inl (g.2.1.2.1, 256, .inl f_h0_reach)), (h0_room, .inl (g.2.1.1, 2048, .inl f_h0_room))] → va_S A s.heap H locs → lv_has ls 3 [(0, .ref h0), (1, .int v113), (2, .int v114)] → W p l e rm_kX3_countDeadEnds s m args below meth c H locs 0 0 Q (F0 m 7 ls []) := by
    intro n129
    induction n129 with
    | zero => intro v113 v114 H locs ls i131 hm132; exact absurd hm132 (Nat.not_lt_zero _)
    | succ n129 ih130 =>
      intro v113 v114 H locs ls i131 hm132 hP hD hS hl
      refine lv_iload_n hx hb dX3_countDeadEnds_7 rfl (lv_at hl 2 rfl) ?_
      refine lv_aload_n hx hb dX3_countDeadEnds_8 rfl (lv_at hl 0 rfl) ?_
      refine va_get (D := g.1) (ci := 3) (v := .int h0_full) (C := RX3) (T := TX3) (N := 13) hx hb hG iX3 hown hX.1 hP 0 rfl rfl 10 (by decide) (hG _ wf_X3_43) (fun _ h9 => h9) rfl dX3_countDeadEnds_9 ?_
      refine lv_icmp_gt (tgt := 37) hx hb dX3_countDeadEnds_12 (by decide) (fun c133 => ?_) (fun c133 => ?_)
      · skip
        have c133i : h0_full.toInt < v114.toInt := (zc_lt (rfl : h0_full.toInt = _) (rfl : v114.toInt = _)).mp c133
        refine lv_iload_n hx hb dX3_countDeadEnds_37 rfl (lv_at hl 1 rfl) ?_
        exact hret v113 () (Nat.le_of_ble_eq_true rfl) (Nat.le_of_ble_eq_true rfl) rfl trivial hP hD hS dX3_countDeadEnds_38
      · skip
        have c133i : ¬ (h0_full.toInt < v114.toInt) := fun q => c133 ((zc_lt (rfl : h0_full.toInt = _) (rfl : v114.toInt = _)).mpr q)
        refine lv_iload_n hx hb dX3_countDeadEnds_15 rfl (lv_at hl 1 rfl) ?_
        refine lv_aload_n hx hb dX3_countDeadEnds_16 rfl (lv_at hl 0 rfl) ?_
        refine lv_iload_n hx hb dX3_countDeadEnds_17 rfl (lv_at hl 2 rfl) ?_
        refine zfi (wr := []) (va_runV (As := [.int v114]) (rest := [.int v113]) ⟨hx, hb, hml, hown, hG⟩ (kX3_isDeadEnd l g h0 v114 h0_room h0_clashing h0_reach h0_ways h0_switches h0_kind h0_best h0_row h0_rowLength h0_bends h0_full h0_first h0_punch f_h0_reach f_h0_room (ox_270 c133i hy2 i131) (ox_1 hy0) (ox_274 hy1) (ox_271 c133i hy2 i131) (ox_228 hy3) _) ⟨callB_of 1 hG (zGood wc_X3_isDeadEnd) rfl rfl rfl (hG _ wini_X3) (hG _ wm_X3_123) hX3_isDeadEnd ⟨Nat.le_of_ble_eq_true rfl, Nat.le_of_ble_eq_true rfl⟩, hG _ wi_X3_isDeadEnd, hG _ wse_X3_X3_isDeadEnd⟩ (zpreV (va_recv hX.1 hP (ci := 3) (q0 := 0) rfl rfl) hX hP hD hS hA [0, 1, 2] rfl (by decide)) rfl rfl hl.1 rfl (lv_room (Nat.le_of_ble_eq_true rfl)) dX3_countDeadEnds_18 ⟨Nat.le_of_ble_eq_true rfl, Nat.le_of_ble_eq_true rfl⟩) hP hD hS hA [0, 1, 2] [] rfl rfl (by decide) (by decide) (fun r134 _ H locs hp hP hD hS => ?_)
        refine W.cs (cells' := 0) (slots' := 0) rfl rfl ?_
        have hq135 : 0 ≤ r134.toInt ∧ r134.toInt ≤ 1 := hp
        have hP : va_P g.1 vwCl [(h0, .inr (3, [.ref h0_room, .ref h0_clashing, .ref h0_reach, .ref h0_ways, .ref h0_switches, .ref h0_kind, .ref h0_best, .ref h0_row, .int h0_rowLength, .int h0_bends, .int h0_full, .int h0_first, .int h0_punch])), (h0_reach, .inl (g.2.1.2.1, 256, .inl f_h0_reach)), (h0_room, .inl (g.2.1.1, 2048, .inl f_h0_room))] H := hP
        have hD : va_D A [(h0, .inr (3, [.ref h0_room, .ref h0_clashing, .ref h0_reach, .ref h0_ways, .ref h0_switches, .ref h0_kind, .ref h0_best, .ref h0_row, .int h0_rowLength, .int h0_bends, .int h0_full, .int h0_first, .int h0_punch])), (h0_reach, .inl (g.2.1.2.1, 256, .inl f_h0_reach)), (h0_room, .inl (g.2.1.1, 2048, .inl f_h0_room))] := hD
        have J138 : ∀  (v137 : Int32) (H : Heap) (locs : List Loc) (ls : Array Slot), 0 ≤ v137.toInt ∧ v137.toInt ≤ 1 → va_P g.1 vwCl [(h0, .inr (3, [.ref h0_room, .ref h0_clashing, .ref h0_reach, .ref h0_ways, .ref h0_switches, .ref h0_kind, .ref h0_best, .ref h0_row, .int h0_rowLength, .int h0_bends, .int h0_full, .int h0_first, .int h0_punch])), (h0_reach, .inl (g.2.1.2.1, 256, .inl f_h0_reach)), (h0_room, .inl (g.2.1.1, 2048, .inl f_h0_room))] H → va_D A [(h0, .inr (3, [.ref h0_room, .ref h0_clashing, .ref h0_reach, .ref h0_ways, .ref h0_switches, .ref h0_kind, .ref h0_best, .ref h0_row, .int h0_rowLength, .int h0_bends, .int h0_full, .int h0_first, .int h0_punch])), (h0_reach, .inl (g.2.1.2.1, 256, .inl f_h0_reach)), (h0_room, .inl (g.2.1.1, 2048, .inl f_h0_room))] → va_S A s.heap H locs → lv_has ls 3 [(0, .ref h0), (1, .int v113), (2, .int v114)] → W p l e rm_kX3_countDeadEnds s m args below meth c H locs 0 0 Q (F0 m 29 ls [.int v137, .int v113]) := by
          intro v137 H locs ls i139 hP hD hS hl
          refine lv_iadd hx hb dX3_countDeadEnds_29 ?_
          refine lv_topi (fun z140 e141 => ?_)
          refine lv_istore_n (lv' := [(1, .int z140), (0, .ref h0), (2, .int v114)]) hx hb dX3_countDeadEnds_30 rfl hl (by decide) rfl (fun ls hl => ?_)
          obtain ⟨z142, e143⟩ : ∃ y9 : Int32, y9 = v114 + 1 := ⟨_, rfl⟩
          have f144 : z142.toInt = v114.toInt + 1 := za e143 (rfl : v114.toInt = _) (show (1 : Int32).toInt = (1 : Int) from by decide) (ox_267 (zr h0_full) (zr v114) c133i hy2 i131)
          refine lv_iinc (v := z142) (lv' := [(2, .int z142), (1, .int z140), (0, .ref h0)]) hx hb dX3_countDeadEnds_31 hl (k := 2) rfl (by rw [e143]; rfl) (by decide) rfl (fun ls hl => ?_)
          refine lv_goto (tgt := 7) hx hb dX3_countDeadEnds_34 (by decide) ?_
          exact ih130 z140 z142 H locs ls (ox_268 c133i f144 hy2 i131) (zdec hm132 (ox_269 c133i f144 hy2 i131)) hP hD hS (lv_sub hl [2, 1, 0] rfl)
        refine lv_if_eq (tgt := 28) hx hb dX3_countDeadEnds_21 (by decide) (fun c145 => ?_) (fun c145 => ?_)
        · skip
          have c145i : r134.toInt = (0 : Int) := (zc_eq (rfl : r134.toInt = _) (show (0 : Int32).toInt = (0 : Int) from by decide)).mp c145
          refine lv_iconst (v := 0) hx hb dX3_countDeadEnds_28 (by decide) ?_
          exact J138 (0 : Int32) H locs ls ((show 0 ≤ (0 : Int) ∧ (0 : Int) ≤ 1 from by decide)) hP hD hS (lv_sub hl [0, 1, 2] rfl)
        · skip
          have c145i : ¬ (r134.toInt = (0 : Int)) := fun q => c145 ((zc_eq (rfl : r134.toInt = _) (show (0 : Int32).toInt = (0 : Int) from by decide)).mpr q)
          refine lv_iconst (v := 1) hx hb dX3_countDeadEnds_24 (by decide) ?_
          refine lv_goto (tgt := 29) hx hb dX3_countDeadEnds_25 (by decide) ?_
          exact J138 (1 : Int32) H locs ls ((show 0 ≤ (1 : Int) ∧ (1 : Int) ≤ 1 from by decide)) hP hD hS (lv_sub hl [0, 1, 2] rfl)
  exact L128 _ (0 : Int32) h0_first _ _ ls (ox_273 hy3) (Nat.lt_succ_self _) hP hD hS (lv_sub hl [2, 1, 0] rfl)
theorem dX3_fullestDeadEnd_0 : decode cX3_fullestDeadEnd 0 = .ok (.iconst (-1), 1) := by decide +kernel
theorem dX3_fullestDeadEnd_1 : decode cX3_fullestDeadEnd 1 = .ok (.istore_n 1, 1) := by decide +kernel
theorem dX3_fullestDeadEnd_2 : decode cX3_fullestDeadEnd 2 = .ok (.aload_n 0, 1) := by decide +kernel
theorem dX3_fullestDeadEnd_3 : decode cX3_fullestDeadEnd 3 = .ok (.getfield 84, 3) := by decide +kernel
theorem dX3_fullestDeadEnd_6 : decode cX3_fullestDeadEnd 6 = .ok (.istore_n 2, 1) := by decide +kernel
theorem dX3_fullestDeadEnd_7 : decode cX3_fullestDeadEnd 7 = .ok (.iload_n 2, 1) := by decide +kernel
theorem dX3_fullestDeadEnd_8 : decode cX3_fullestDeadEnd 8 = .ok (.aload_n 0, 1) := by decide +kernel
theorem dX3_fullestDeadEnd_9 : decode cX3_fullestDeadEnd 9 = .ok (.getfield 43, 3) := by decide +kernel
theorem dX3_fullestDeadEnd_12 : decode cX3_fullestDeadEnd 12 = .ok (.if_icmp .gt 35, 3) := by decide +kernel
theorem dX3_fullestDeadEnd_47 : decode cX3_fullestDeadEnd 47 = .ok (.iload_n 1, 1) := by decide +kernel
theorem dX3_fullestDeadEnd_48 : decode cX3_fullestDeadEnd 48 = .ok (.ireturn, 1) := by decide +kernel
theorem dX3_fullestDeadEnd_15 : decode cX3_fullestDeadEnd 15 = .ok (.aload_n 0, 1) := by decide +kernel
theorem dX3_fullestDeadEnd_16 : decode cX3_fullestDeadEnd 16 = .ok (.iload_n 2, 1) := by decide +kernel
theorem dX3_fullestDeadEnd_17 : decode cX3_fullestDeadEnd 17 = .ok (.invokevirtual 123, 3) := by decide +kernel
theorem dX3_fullestDeadEnd_41 : decode cX3_fullestDeadEnd 41 = .ok (.iinc 2 1, 3) := by decide +kernel
theorem dX3_fullestDeadEnd_44 : decode cX3_fullestDeadEnd 44 = .ok (.goto (-37), 3) := by decide +kernel
theorem dX3_fullestDeadEnd_20 : decode cX3_fullestDeadEnd 20 = .ok (.ifCond .eq 21, 3) := by decide +kernel
theorem dX3_fullestDeadEnd_23 : decode cX3_fullestDeadEnd 23 = .ok (.iload_n 1, 1) := by decide +kernel
theorem dX3_fullestDeadEnd_24 : decode cX3_fullestDeadEnd 24 = .ok (.iconst (-1), 1) := by decide +kernel
theorem dX3_fullestDeadEnd_39 : decode cX3_fullestDeadEnd 39 = .ok (.iload_n 2, 1) := by decide +kernel
theorem dX3_fullestDeadEnd_40 : decode cX3_fullestDeadEnd 40 = .ok (.istore_n 1, 1) := by decide +kernel
theorem dX3_fullestDeadEnd_25 : decode cX3_fullestDeadEnd 25 = .ok (.if_icmp .eq 14, 3) := by decide +kernel
theorem dX3_fullestDeadEnd_28 : decode cX3_fullestDeadEnd 28 = .ok (.iload_n 2, 1) := by decide +kernel
theorem dX3_fullestDeadEnd_29 : decode cX3_fullestDeadEnd 29 = .ok (.invokestatic 126, 3) := by decide +kernel
theorem dX3_fullestDeadEnd_32 : decode cX3_fullestDeadEnd 32 = .ok (.iload_n 1, 1) := by decide +kernel
theorem dX3_fullestDeadEnd_33 : decode cX3_fullestDeadEnd 33 = .ok (.invokestatic 126, 3) := by decide +kernel
theorem dX3_fullestDeadEnd_36 : decode cX3_fullestDeadEnd 36 = .ok (.if_icmp .le 5, 3) := by decide +kernel
abbrev rm_kX3_fullestDeadEnd : Room := { frames := 4, cells := 0, slots := 0, locals := 87 }
set_option maxHeartbeats 4000000 in
set_option maxRecDepth 100000 in
theorem kX3_fullestDeadEnd (l : Launch) (g : zL) (h0 : Nat) (h0_room : Nat) (h0_clashing : Nat) (h0_reach : Nat) (h0_ways : Nat) (h0_switches : Nat) (h0_kind : Nat) (h0_best : Nat) (h0_row : Nat) (h0_rowLength : Int32) (h0_bends : Int32) (h0_full : Int32) (h0_first : Int32) (h0_punch : Int32) (f_h0_reach : Nat → Int32) (f_h0_room : Nat → Int32) (hy0 : 0 ≤ h0_rowLength.toInt ∧ h0_rowLength.toInt ≤ 8) (hy1 : (-1) ≤ h0_bends.toInt ∧ h0_bends.toInt ≤ 8) (hy2 : 0 ≤ h0_full.toInt ∧ h0_full.toInt ≤ 255) (hy3 : 0 ≤ h0_first.toInt ∧ h0_first.toInt ≤ 255) : zCi l g yX3_fullestDeadEnd cX3_fullestDeadEnd 3 (some .int) rm_kX3_fullestDeadEnd [.ref h0] [(h0, .inr (3, [.ref h0_room, .ref h0_clashing, .ref h0_reach, .ref h0_ways, .ref h0_switches, .ref h0_kind, .ref h0_best, .ref h0_row, .int h0_rowLength, .int h0_bends, .int h0_full, .int h0_first, .int h0_punch])), (h0_reach, .inl (g.2.1.2.1, 256, .inl f_h0_reach)), (h0_room, .inl (g.2.1.1, 2048, .inl f_h0_room))] (fun (r : Int32) (u : Unit) => ((-1) ≤ r.toInt ∧ r.toInt ≤ 255)) (fun (u : Unit) => [(h0, .inr (3, [.ref h0_room, .ref h0_clashing, .ref h0_reach, .ref h0_ways, .ref h0_switches, .ref h0_kind, .ref h0_best, .ref h0_row, .int h0_rowLength, .int h0_bends, .int h0_full, .int h0_first, .int h0_punch])), (h0_reach, .inl (g.2.1.2.1, 256, .inl f_h0_reach)), (h0_room, .inl (g.2.1.1, 2048, .inl f_h0_room))]) := by
  refine zCi.mk2 (by decide) (Nat.le_of_ble_eq_true rfl) ?_
  intro p e s m below meth c A args Q hE hret hP hD hS ls hl
  obtain ⟨hx, hb, hr, hml, hown, hG, hlocks, hnm, hX, hA⟩ := hE
  have hown : s.vm.findClass RX3 = some m.cls := hown
  have hl : lv_has ls 3 [(0, .ref h0)] := hl
  refine lv_iconst (v := (-1)) hx hb dX3_fullestDeadEnd_0 (by decide) ?_
  refine lv_istore_n (lv' := [(1, .int (-1)), (0, .ref h0)]) hx hb dX3_fullestDeadEnd_1 rfl hl (by decide) rfl (fun ls hl => ?_)
  refine lv_aload_n hx hb dX3_fullestDeadEnd_2 rfl (lv_at hl 1 rfl) ?_
  refine va_get (D := g.1) (ci := 3) (v := .int h0_first) (C := RX3) (T := TX3) (N := 13) hx hb hG iX3 hown hX.1 hP 0 rfl rfl 11 (by decide) (hG _ wf_X3_84) (fun _ h9 => h9) rfl dX3_fullestDeadEnd_3 ?_
  refine lv_istore_n (lv' := [(2, .int h0_first), (1, .int (-1)), (0, .ref h0)]) hx hb dX3_fullestDeadEnd_6 rfl hl (by decide) rfl (fun ls hl => ?_)
  have L91 : ∀ (n : Nat) (v53 : Int32) (v54 : Int32) (H : Heap) (locs : List Loc) (ls : Array Slot), (-1) ≤ v53.toInt ∧ v53.toInt ≤ 255 → 0 ≤ v54.toInt ∧ v54.toInt ≤ 256 → (257 - v54.toInt).toNat < n → va_P g.1 vwCl [(h0, .inr (3, [.ref h0_room, .ref h0_clashing, .ref h0_reach, .ref h0_ways, .ref h0_switches, .ref h0_kind, .ref h0_best, .ref h0_row, .int h0_rowLength, .int h0_bends, .int h0_full, .int h0_first, .int h0_punch])), (h0_reach, .inl (g.2.1.2.1, 256, .inl f_h0_reach)), (h0_room, .inl (g.2.1.1, 2048, .inl f_h0_room))] H → va_D A [(h0, .inr (3, [.ref h0_room, .ref h0_clashing, .ref h0_reach, .ref h0_ways, .ref h0_switches, .ref h0_kind, .ref h0_best, .ref h0_row, .int h0_rowLength, .int h0_bends, .int h0_full, .int h0_first, .int h0_punch])), (h0_reach, .inl (g.2.1.2.1, 256, .inl f_h0_reach)), (h0_room, .inl (g.2.1.1, 2048, .inl f_h0_room))] → va_S A s.heap H locs → lv_has ls 3 [(0, .ref h0), (1, .int v53), (2, .int v54)] → W p l e rm_kX3_fullestDeadEnd s m args below meth c H locs 0 0 Q (F0 m 7 ls []) := by
    intro n92
    induction n92 with
    | zero => intro v53 v54 H locs ls i94 i95 hm96; exact absurd hm96 (Nat.not_lt_zero _)
    | succ n92 ih93 =>
      intro v53 v54 H locs ls i94 i95 hm96 hP hD hS hl
      refine lv_iload_n hx hb dX3_fullestDeadEnd_7 rfl (lv_at hl 2 rfl) ?_
      refine lv_aload_n hx hb dX3_fullestDeadEnd_8 rfl (lv_at hl 0 rfl) ?_
      refine va_get (D := g.1) (ci := 3) (v := .int h0_full) (C := RX3) (T := TX3) (N := 13) hx hb hG iX3 hown hX.1 hP 0 rfl rfl 10 (by decide) (hG _ wf_X3_43) (fun _ h9 => h9) rfl dX3_fullestDeadEnd_9 ?_
      refine lv_icmp_gt (tgt := 47) hx hb dX3_fullestDeadEnd_12 (by decide) (fun c97 => ?_) (fun c97 => ?_)
      · skip
        have c97i : h0_full.toInt < v54.toInt := (zc_lt (rfl : h0_full.toInt = _) (rfl : v54.toInt = _)).mp c97
        refine lv_iload_n hx hb dX3_fullestDeadEnd_47 rfl (lv_at hl 1 rfl) ?_
        exact hret v53 () (Nat.le_of_ble_eq_true rfl) (Nat.le_of_ble_eq_true rfl) rfl (ox_303 i94) hP hD hS dX3_fullestDeadEnd_48
      · skip
        have c97i : ¬ (h0_full.toInt < v54.toInt) := fun q => c97 ((zc_lt (rfl : h0_full.toInt = _) (rfl : v54.toInt = _)).mpr q)
        refine lv_aload_n hx hb dX3_fullestDeadEnd_15 rfl (lv_at hl 0 rfl) ?_
        refine lv_iload_n hx hb dX3_fullestDeadEnd_16 rfl (lv_at hl 2 rfl) ?_
        refine zfi (wr := []) (va_runV (As := [.int v54]) (rest := []) ⟨hx, hb, hml, hown, hG⟩ (kX3_isDeadEnd l g h0 v54 h0_room h0_clashing h0_reach h0_ways h0_switches h0_kind h0_best h0_row h0_rowLength h0_bends h0_full h0_first h0_punch f_h0_reach f_h0_room (ox_270 c97i hy2 i95) (ox_1 hy0) (ox_274 hy1) (ox_271 c97i hy2 i95) (ox_228 hy3) _) ⟨callB_of 1 hG (zGood wc_X3_isDeadEnd) rfl rfl rfl (hG _ wini_X3) (hG _ wm_X3_123) hX3_isDeadEnd ⟨Nat.le_of_ble_eq_true rfl, Nat.le_of_ble_eq_true rfl⟩, hG _ wi_X3_isDeadEnd, hG _ wse_X3_X3_isDeadEnd⟩ (zpreV (va_recv hX.1 hP (ci := 3) (q0 := 0) rfl rfl) hX hP hD hS hA [0, 1, 2] rfl (by decide)) rfl rfl hl.1 rfl (lv_room (Nat.le_of_ble_eq_true rfl)) dX3_fullestDeadEnd_17 ⟨Nat.le_of_ble_eq_true rfl, Nat.le_of_ble_eq_true rfl⟩) hP hD hS hA [0, 1, 2] [] rfl rfl (by decide) (by decide) (fun r98 _ H locs hp hP hD hS => ?_)
        refine W.cs (cells' := 0) (slots' := 0) rfl rfl ?_
        have hq99 : 0 ≤ r98.toInt ∧ r98.toInt ≤ 1 := hp
        have hP : va_P g.1 vwCl [(h0, .inr (3, [.ref h0_room, .ref h0_clashing, .ref h0_reach, .ref h0_ways, .ref h0_switches, .ref h0_kind, .ref h0_best, .ref h0_row, .int h0_rowLength, .int h0_bends, .int h0_full, .int h0_first, .int h0_punch])), (h0_reach, .inl (g.2.1.2.1, 256, .inl f_h0_reach)), (h0_room, .inl (g.2.1.1, 2048, .inl f_h0_room))] H := hP
        have hD : va_D A [(h0, .inr (3, [.ref h0_room, .ref h0_clashing, .ref h0_reach, .ref h0_ways, .ref h0_switches, .ref h0_kind, .ref h0_best, .ref h0_row, .int h0_rowLength, .int h0_bends, .int h0_full, .int h0_first, .int h0_punch])), (h0_reach, .inl (g.2.1.2.1, 256, .inl f_h0_reach)), (h0_room, .inl (g.2.1.1, 2048, .inl f_h0_room))] := hD
        have J114 : ∀  (v113 : Int32) (H : Heap) (locs : List Loc) (ls : Array Slot), (-1) ≤ v113.toInt ∧ v113.toInt ≤ 255 → va_P g.1 vwCl [(h0, .inr (3, [.ref h0_room, .ref h0_clashing, .ref h0_reach, .ref h0_ways, .ref h0_switches, .ref h0_kind, .ref h0_best, .ref h0_row, .int h0_rowLength, .int h0_bends, .int h0_full, .int h0_first, .int h0_punch])), (h0_reach, .inl (g.2.1.2.1, 256, .inl f_h0_reach)), (h0_room, .inl (g.2.1.1, 2048, .inl f_h0_room))] H → va_D A [(h0, .inr (3, [.ref h0_room, .ref h0_clashing, .ref h0_reach, .ref h0_ways, .ref h0_switches, .ref h0_kind, .ref h0_best, .ref h0_row, .int h0_rowLength, .int h0_bends, .int h0_full, .int h0_first, .int h0_punch])), (h0_reach, .inl (g.2.1.2.1, 256, .inl f_h0_reach)), (h0_room, .inl (g.2.1.1, 2048, .inl f_h0_room))] → va_S A s.heap H locs → lv_has ls 3 [(0, .ref h0), (1, .int v113), (2, .int v54)] → W p l e rm_kX3_fullestDeadEnd s m args below meth c H locs 0 0 Q (F0 m 41 ls []) := by
          intro v113 H locs ls i115 hP hD hS hl
          obtain ⟨z116, e117⟩ : ∃ y9 : Int32, y9 = v54 + 1 := ⟨_, rfl⟩
          have f118 : z116.toInt = v54.toInt + 1 := za e117 (rfl : v54.toInt = _) (show (1 : Int32).toInt = (1 : Int) from by decide) (ox_267 (zr h0_full) (zr v54) c97i hy2 i95)
          refine lv_iinc (v := z116) (lv' := [(2, .int z116), (0, .ref h0), (1, .int v113)]) hx hb dX3_fullestDeadEnd_41 hl (k := 2) rfl (by rw [e117]; rfl) (by decide) rfl (fun ls hl => ?_)
          refine lv_goto (tgt := 7) hx hb dX3_fullestDeadEnd_44 (by decide) ?_
          exact ih93 v113 z116 H locs ls (ox_303 i115) (ox_268 c97i f118 hy2 i95) (zdec hm96 (ox_269 c97i f118 hy2 i95)) hP hD hS (lv_sub hl [1, 2, 0] rfl)
        refine lv_if_eq (tgt := 41) hx hb dX3_fullestDeadEnd_20 (by decide) (fun c119 => ?_) (fun c119 => ?_)
        · skip
          have c119i : r98.toInt = (0 : Int) := (zc_eq (rfl : r98.toInt = _) (show (0 : Int32).toInt = (0 : Int) from by decide)).mp c119
          exact J114 v53 H locs ls (ox_303 i94) hP hD hS (lv_sub hl [0, 1, 2] rfl)
        · skip
          have c119i : ¬ (r98.toInt = (0 : Int)) := fun q => c119 ((zc_eq (rfl : r98.toInt = _) (show (0 : Int32).toInt = (0 : Int) from by decide)).mpr q)
          refine lv_iload_n hx hb dX3_fullestDeadEnd_23 rfl (lv_at hl 1 rfl) ?_
          refine lv_iconst (v := (-1)) hx hb dX3_fullestDeadEnd_24 (by decide) ?_
          have J126 : ∀  (H : Heap) (locs : List Loc) (ls : Array Slot), va_P g.1 vwCl [(h0, .inr (3, [.ref h0_room, .ref h0_clashing, .ref h0_reach, .ref h0_ways, .ref h0_switches, .ref h0_kind, .ref h0_best, .ref h0_row, .int h0_rowLength, .int h0_bends, .int h0_full, .int h0_first, .int h0_punch])), (h0_reach, .inl (g.2.1.2.1, 256, .inl f_h0_reach)), (h0_room, .inl (g.2.1.1, 2048, .inl f_h0_room))] H → va_D A [(h0, .inr (3, [.ref h0_room, .ref h0_clashing, .ref h0_reach, .ref h0_ways, .ref h0_switches, .ref h0_kind, .ref h0_best, .ref h0_row, .int h0_rowLength, .int h0_bends, .int h0_full, .int h0_first, .int h0_punch])), (h0_reach, .inl (g.2.1.2.1, 256, .inl f_h0_reach)), (h0_room, .inl (g.2.1.1, 2048, .inl f_h0_room))] → va_S A s.heap H locs → lv_has ls 3 [(0, .ref h0), (1, .int v53), (2, .int v54)] → W p l e rm_kX3_fullestDeadEnd s m args below meth c H locs 0 0 Q (F0 m 39 ls []) := by
            intro  H locs ls  hP hD hS hl
            refine lv_iload_n hx hb dX3_fullestDeadEnd_39 rfl (lv_at hl 2 rfl) ?_
            refine lv_istore_n (lv' := [(1, .int v54), (0, .ref h0), (2, .int v54)]) hx hb dX3_fullestDeadEnd_40 rfl hl (by decide) rfl (fun ls hl => ?_)
            exact J114 v54 H locs ls (ox_304 c97i hy2 i95) hP hD hS (lv_sub hl [1, 0, 2] rfl)
          refine lv_icmp_eq (tgt := 39) hx hb dX3_fullestDeadEnd_25 (by decide) (fun c127 => ?_) (fun c127 => ?_)
          · skip
            have c127i : v53.toInt = (-1 : Int) := (zc_eq (rfl : v53.toInt = _) (show (-1 : Int32).toInt = (-1 : Int) from by decide)).mp c127
            exact J126 H locs ls  hP hD hS (lv_sub hl [0, 1, 2] rfl)
          · skip
            have c127i : ¬ (v53.toInt = (-1 : Int)) := fun q => c127 ((zc_eq (rfl : v53.toInt = _) (show (-1 : Int32).toInt = (-1 : Int) from by decide)).mpr q)
            refine lv_iload_n hx hb dX3_fullestDeadEnd_28 rfl (lv_at hl 2 rfl) ?_
            refine zfi (wr := [(h0, .inr (3, [.ref h0_room, .ref h0_clashing, .ref h0_reach, .ref h0_ways, .ref h0_switches, .ref h0_kind, .ref h0_best, .ref h0_row, .int h0_rowLength, .int h0_bends, .int h0_full, .int h0_first, .int h0_punch])), (h0_reach, .inl (g.2.1.2.1, 256, .inl f_h0_reach)), (h0_room, .inl (g.2.1.1, 2048, .inl f_h0_room))]) (va_runS (As := [.int v54]) (rest := []) ⟨hx, hb, hml, hown, hG⟩ (kJ6_bitCount_0f7a4 l g v54 _) ⟨callB_of 1 hG (zGood wc_J6_bitCount_0f7a4) rfl rfl rfl (hG _ wini_J6) (hG _ wm_X3_126) hJ6_bitCount_0f7a4 ⟨Nat.le_of_ble_eq_true rfl, Nat.le_of_ble_eq_true rfl⟩, hG _ ws_J6_bitCount_0f7a4⟩ (zpreS hX hP hD hS hA [] rfl (by decide)) rfl rfl hl.1 rfl (lv_room (Nat.le_of_ble_eq_true rfl)) dX3_fullestDeadEnd_29 ⟨Nat.le_of_ble_eq_true rfl, Nat.le_of_ble_eq_true rfl⟩) hP hD hS hA [] [0, 1, 2] rfl rfl (by decide) (by decide) (fun r128 _ H locs hp hP hD hS => ?_)
            refine W.cs (cells' := 0) (slots' := 0) rfl rfl ?_
            have hq129 : 0 ≤ r128.toInt ∧ r128.toInt ≤ 63 := hp
            have hP : va_P g.1 vwCl [(h0, .inr (3, [.ref h0_room, .ref h0_clashing, .ref h0_reach, .ref h0_ways, .ref h0_switches, .ref h0_kind, .ref h0_best, .ref h0_row, .int h0_rowLength, .int h0_bends, .int h0_full, .int h0_first, .int h0_punch])), (h0_reach, .inl (g.2.1.2.1, 256, .inl f_h0_reach)), (h0_room, .inl (g.2.1.1, 2048, .inl f_h0_room))] H := hP
            have hD : va_D A [(h0, .inr (3, [.ref h0_room, .ref h0_clashing, .ref h0_reach, .ref h0_ways, .ref h0_switches, .ref h0_kind, .ref h0_best, .ref h0_row, .int h0_rowLength, .int h0_bends, .int h0_full, .int h0_first, .int h0_punch])), (h0_reach, .inl (g.2.1.2.1, 256, .inl f_h0_reach)), (h0_room, .inl (g.2.1.1, 2048, .inl f_h0_room))] := hD
            refine lv_iload_n hx hb dX3_fullestDeadEnd_32 rfl (lv_at hl 1 rfl) ?_
            refine zfi (wr := [(h0, .inr (3, [.ref h0_room, .ref h0_clashing, .ref h0_reach, .ref h0_ways, .ref h0_switches, .ref h0_kind, .ref h0_best, .ref h0_row, .int h0_rowLength, .int h0_bends, .int h0_full, .int h0_first, .int h0_punch])), (h0_reach, .inl (g.2.1.2.1, 256, .inl f_h0_reach)), (h0_room, .inl (g.2.1.1, 2048, .inl f_h0_room))]) (va_runS (As := [.int v53]) (rest := [.int r128]) ⟨hx, hb, hml, hown, hG⟩ (kJ6_bitCount_0f7a4 l g v53 _) ⟨callB_of 1 hG (zGood wc_J6_bitCount_0f7a4) rfl rfl rfl (hG _ wini_J6) (hG _ wm_X3_126) hJ6_bitCount_0f7a4 ⟨Nat.le_of_ble_eq_true rfl, Nat.le_of_ble_eq_true rfl⟩, hG _ ws_J6_bitCount_0f7a4⟩ (zpreS hX hP hD hS hA [] rfl (by decide)) rfl rfl hl.1 rfl (lv_room (Nat.le_of_ble_eq_true rfl)) dX3_fullestDeadEnd_33 ⟨Nat.le_of_ble_eq_true rfl, Nat.le_of_ble_eq_true rfl⟩) hP hD hS hA [] [0, 1, 2] rfl rfl (by decide) (by decide) (fun r130 _ H locs hp hP hD hS => ?_)
            refine W.cs (cells' := 0) (slots' := 0) rfl rfl ?_
            have hq131 : 0 ≤ r130.toInt ∧ r130.toInt ≤ 63 := hp
            have hP : va_P g.1 vwCl [(h0, .inr (3, [.ref h0_room, .ref h0_clashing, .ref h0_reach, .ref h0_ways, .ref h0_switches, .ref h0_kind, .ref h0_best, .ref h0_row, .int h0_rowLength, .int h0_bends, .int h0_full, .int h0_first, .int h0_punch])), (h0_reach, .inl (g.2.1.2.1, 256, .inl f_h0_reach)), (h0_room, .inl (g.2.1.1, 2048, .inl f_h0_room))] H := hP
            have hD : va_D A [(h0, .inr (3, [.ref h0_room, .ref h0_clashing, .ref h0_reach, .ref h0_ways, .ref h0_switches, .ref h0_kind, .ref h0_best, .ref h0_row, .int h0_rowLength, .int h0_bends, .int h0_full, .int h0_first, .int h0_punch])), (h0_reach, .inl (g.2.1.2.1, 256, .inl f_h0_reach)), (h0_room, .inl (g.2.1.1, 2048, .inl f_h0_room))] := hD
            refine lv_icmp_le (tgt := 41) hx hb dX3_fullestDeadEnd_36 (by decide) (fun c132 => ?_) (fun c132 => ?_)
            · skip
              have c132i : r128.toInt ≤ r130.toInt := (zc_le (rfl : r128.toInt = _) (rfl : r130.toInt = _)).mp c132
              exact J114 v53 H locs ls (ox_305 c127i i94) hP hD hS (lv_sub hl [0, 1, 2] rfl)
            · skip
              have c132i : ¬ (r128.toInt ≤ r130.toInt) := fun q => c132 ((zc_le (rfl : r128.toInt = _) (rfl : r130.toInt = _)).mpr q)
              exact J126 H locs ls  hP hD hS (lv_sub hl [0, 1, 2] rfl)
  exact L91 _ (-1 : Int32) h0_first _ _ ls ((show (-1) ≤ (-1 : Int) ∧ (-1 : Int) ≤ 255 from by decide)) (ox_273 hy3) (Nat.lt_succ_self _) hP hD hS (lv_sub hl [2, 1, 0] rfl)
theorem dX3_blocked_0 : decode cX3_blocked 0 = .ok (.aload_n 0, 1) := by decide +kernel
theorem dX3_blocked_1 : decode cX3_blocked 1 = .ok (.getfield 84, 3) := by decide +kernel
theorem dX3_blocked_4 : decode cX3_blocked 4 = .ok (.istore_n 1, 1) := by decide +kernel
theorem dX3_blocked_5 : decode cX3_blocked 5 = .ok (.aload_n 0, 1) := by decide +kernel
theorem dX3_blocked_6 : decode cX3_blocked 6 = .ok (.getfield 84, 3) := by decide +kernel
theorem dX3_blocked_9 : decode cX3_blocked 9 = .ok (.istore_n 2, 1) := by decide +kernel
theorem dX3_blocked_10 : decode cX3_blocked 10 = .ok (.iload_n 2, 1) := by decide +kernel
theorem dX3_blocked_11 : decode cX3_blocked 11 = .ok (.aload_n 0, 1) := by decide +kernel
theorem dX3_blocked_12 : decode cX3_blocked 12 = .ok (.getfield 43, 3) := by decide +kernel
theorem dX3_blocked_15 : decode cX3_blocked 15 = .ok (.if_icmp .gt 25, 3) := by decide +kernel
theorem dX3_blocked_40 : decode cX3_blocked 40 = .ok (.aload_n 0, 1) := by decide +kernel
theorem dX3_blocked_41 : decode cX3_blocked 41 = .ok (.getfield 43, 3) := by decide +kernel
theorem dX3_blocked_44 : decode cX3_blocked 44 = .ok (.iload_n 1, 1) := by decide +kernel
theorem dX3_blocked_45 : decode cX3_blocked 45 = .ok (.iconst (-1), 1) := by decide +kernel
theorem dX3_blocked_46 : decode cX3_blocked 46 = .ok (.ixor, 1) := by decide +kernel
theorem dX3_blocked_47 : decode cX3_blocked 47 = .ok (.iand, 1) := by decide +kernel
theorem dX3_blocked_48 : decode cX3_blocked 48 = .ok (.ireturn, 1) := by decide +kernel
theorem dX3_blocked_18 : decode cX3_blocked 18 = .ok (.aload_n 0, 1) := by decide +kernel
theorem dX3_blocked_19 : decode cX3_blocked 19 = .ok (.iload_n 2, 1) := by decide +kernel
theorem dX3_blocked_20 : decode cX3_blocked 20 = .ok (.invokevirtual 101, 3) := by decide +kernel
theorem dX3_blocked_34 : decode cX3_blocked 34 = .ok (.iinc 2 1, 3) := by decide +kernel
theorem dX3_blocked_37 : decode cX3_blocked 37 = .ok (.goto (-27), 3) := by decide +kernel
theorem dX3_blocked_23 : decode cX3_blocked 23 = .ok (.ifCond .eq 11, 3) := by decide +kernel
theorem dX3_blocked_26 : decode cX3_blocked 26 = .ok (.iload_n 1, 1) := by decide +kernel
theorem dX3_blocked_27 : decode cX3_blocked 27 = .ok (.aload_n 0, 1) := by decide +kernel
theorem dX3_blocked_28 : decode cX3_blocked 28 = .ok (.iload_n 2, 1) := by decide +kernel
theorem dX3_blocked_29 : decode cX3_blocked 29 = .ok (.invokevirtual 120, 3) := by decide +kernel
theorem dX3_blocked_32 : decode cX3_blocked 32 = .ok (.ior, 1) := by decide +kernel
theorem dX3_blocked_33 : decode cX3_blocked 33 = .ok (.istore_n 1, 1) := by decide +kernel
abbrev rm_kX3_blocked : Room := { frames := 3, cells := 0, slots := 0, locals := 66 }
set_option maxHeartbeats 4000000 in
set_option maxRecDepth 100000 in
theorem kX3_blocked (l : Launch) (g : zL) (h0 : Nat) (h0_room : Nat) (h0_clashing : Nat) (h0_reach : Nat) (h0_ways : Nat) (h0_switches : Nat) (h0_kind : Nat) (h0_best : Nat) (h0_row : Nat) (h0_rowLength : Int32) (h0_bends : Int32) (h0_full : Int32) (h0_first : Int32) (h0_punch : Int32) (f_h0_reach : Nat → Int32) (f_h0_room : Nat → Int32) (hy0 : 0 ≤ h0_rowLength.toInt ∧ h0_rowLength.toInt ≤ 8) (hy1 : (-1) ≤ h0_bends.toInt ∧ h0_bends.toInt ≤ 8) (hy2 : 0 ≤ h0_full.toInt ∧ h0_full.toInt ≤ 255) (hy3 : 0 ≤ h0_first.toInt ∧ h0_first.toInt ≤ 255) : zCi l g yX3_blocked cX3_blocked 3 (some .int) rm_kX3_blocked [.ref h0] [(h0, .inr (3, [.ref h0_room, .ref h0_clashing, .ref h0_reach, .ref h0_ways, .ref h0_switches, .ref h0_kind, .ref h0_best, .ref h0_row, .int h0_rowLength, .int h0_bends, .int h0_full, .int h0_first, .int h0_punch])), (h0_reach, .inl (g.2.1.2.1, 256, .inl f_h0_reach)), (h0_room, .inl (g.2.1.1, 2048, .inl f_h0_room))] (fun (r : Int32) (u : Unit) => (0 ≤ r.toInt ∧ r.toInt ≤ 255)) (fun (u : Unit) => [(h0, .inr (3, [.ref h0_room, .ref h0_clashing, .ref h0_reach, .ref h0_ways, .ref h0_switches, .ref h0_kind, .ref h0_best, .ref h0_row, .int h0_rowLength, .int h0_bends, .int h0_full, .int h0_first, .int h0_punch])), (h0_reach, .inl (g.2.1.2.1, 256, .inl f_h0_reach)), (h0_room, .inl (g.2.1.1, 2048, .inl f_h0_room))]) := by
  refine zCi.mk2 (by decide) (Nat.le_of_ble_eq_true rfl) ?_
  intro p e s m below meth c A args Q hE hret hP hD hS ls hl
  obtain ⟨hx, hb, hr, hml, hown, hG, hlocks, hnm, hX, hA⟩ := hE
  have hown : s.vm.findClass RX3 = some m.cls := hown
  have hl : lv_has ls 3 [(0, .ref h0)] := hl
  refine lv_aload_n hx hb dX3_blocked_0 rfl (lv_at hl 0 rfl) ?_
  refine va_get (D := g.1) (ci := 3) (v := .int h0_first) (C := RX3) (T := TX3) (N := 13) hx hb hG iX3 hown hX.1 hP 0 rfl rfl 11 (by decide) (hG _ wf_X3_84) (fun _ h9 => h9) rfl dX3_blocked_1 ?_
  refine lv_istore_n (lv' := [(1, .int h0_first), (0, .ref h0)]) hx hb dX3_blocked_4 rfl hl (by decide) rfl (fun ls hl => ?_)
  refine lv_aload_n hx hb dX3_blocked_5 rfl (lv_at hl 1 rfl) ?_
  refine va_get (D := g.1) (ci := 3) (v := .int h0_first) (C := RX3) (T := TX3) (N := 13) hx hb hG iX3 hown hX.1 hP 0 rfl rfl 11 (by decide) (hG _ wf_X3_84) (fun _ h9 => h9) rfl dX3_blocked_6 ?_
  refine lv_istore_n (lv' := [(2, .int h0_first), (1, .int h0_first), (0, .ref h0)]) hx hb dX3_blocked_9 rfl hl (by decide) rfl (fun ls hl => ?_)
  have L84 : ∀ (n : Nat) (v55 : Int32) (v56 : Int32) (H : Heap) (locs : List Loc) (ls : Array Slot), 0 ≤ v55.toInt ∧ v55.toInt ≤ 255 → 0 ≤ v56.toInt ∧ v56.toInt ≤ 256 → (257 - v56.toInt).toNat < n → va_P g.1 vwCl [(h0, .inr (3, [.ref h0_room, .ref h0_clashing, .ref h0_reach, .ref h0_ways, .ref h0_switches, .ref h0_kind, .ref h0_best, .ref h0_row, .int h0_rowLength, .int h0_bends, .int h0_full, .int h0_first, .int h0_punch])), (h0_reach, .inl (g.2.1.2.1, 256, .inl f_h0_reach)), (h0_room, .inl (g.2.1.1, 2048, .inl f_h0_room))] H → va_D A [(h0, .inr (3, [.ref h0_room, .ref h0_clashing, .ref h0_reach, .ref h0_ways, .ref h0_switches, .ref h0_kind, .ref h0_best, .ref h0_row, .int h0_rowLength, .int h0_bends, .int h0_full, .int h0_first, .int h0_punch])), (h0_reach, .inl (g.2.1.2.1, 256, .inl f_h0_reach)), (h0_room, .inl (g.2.1.1, 2048, .inl f_h0_room))] → va_S A s.heap H locs → lv_has ls 3 [(0, .ref h0), (1, .int v55), (2, .int v56)] → W p l e rm_kX3_blocked s m args below meth c H locs 0 0 Q (F0 m 10 ls []) := by
    intro n85
    induction n85 with
    | zero => intro v55 v56 H locs ls i87 i88 hm89; exact absurd hm89 (Nat.not_lt_zero _)
    | succ n85 ih86 =>
      intro v55 v56 H locs ls i87 i88 hm89 hP hD hS hl
      refine lv_iload_n hx hb dX3_blocked_10 rfl (lv_at hl 2 rfl) ?_
      refine lv_aload_n hx hb dX3_blocked_11 rfl (lv_at hl 0 rfl) ?_
      refine va_get (D := g.1) (ci := 3) (v := .int h0_full) (C := RX3) (T := TX3) (N := 13) hx hb hG iX3 hown hX.1 hP 0 rfl rfl 10 (by decide) (hG _ wf_X3_43) (fun _ h9 => h9) rfl dX3_blocked_12 ?_
      refine lv_icmp_gt (tgt := 40) hx hb dX3_blocked_15 (by decide) (fun c90 => ?_) (fun c90 => ?_)
      · skip
        have c90i : h0_full.toInt < v56.toInt := (zc_lt (rfl : h0_full.toInt = _) (rfl : v56.toInt = _)).mp c90
        refine lv_aload_n hx hb dX3_blocked_40 rfl (lv_at hl 0 rfl) ?_
        refine va_get (D := g.1) (ci := 3) (v := .int h0_full) (C := RX3) (T := TX3) (N := 13) hx hb hG iX3 hown hX.1 hP 0 rfl rfl 10 (by decide) (hG _ wf_X3_43) (fun _ h9 => h9) rfl dX3_blocked_41 ?_
        refine lv_iload_n hx hb dX3_blocked_44 rfl (lv_at hl 1 rfl) ?_
        refine lv_iconst (v := (-1)) hx hb dX3_blocked_45 (by decide) ?_
        refine lv_ixor hx hb dX3_blocked_46 ?_
        refine lv_topi (fun z91 e92 => ?_)
        refine lv_iand hx hb dX3_blocked_47 ?_
        refine lv_topi (fun z93 e94 => ?_)
        have f95 : 0 ≤ z93.toInt ∧ z93.toInt ≤ h0_full.toInt := zand' e94 (rfl : h0_full.toInt = _) (ox_306 c90i hy2 i88)
        exact hret z93 () (Nat.le_of_ble_eq_true rfl) (Nat.le_of_ble_eq_true rfl) rfl (ox_307 c90i f95 hy2 i88) hP hD hS dX3_blocked_48
      · skip
        have c90i : ¬ (h0_full.toInt < v56.toInt) := fun q => c90 ((zc_lt (rfl : h0_full.toInt = _) (rfl : v56.toInt = _)).mpr q)
        refine lv_aload_n hx hb dX3_blocked_18 rfl (lv_at hl 0 rfl) ?_
        refine lv_iload_n hx hb dX3_blocked_19 rfl (lv_at hl 2 rfl) ?_
        refine zfi (wr := [(h0_room, .inl (g.2.1.1, 2048, .inl f_h0_room))]) (va_runV (As := [.int v56]) (rest := []) ⟨hx, hb, hml, hown, hG⟩ (kX3_isReached l g h0 v56 h0_room h0_clashing h0_reach h0_ways h0_switches h0_kind h0_best h0_row h0_rowLength h0_bends h0_full h0_first h0_punch f_h0_reach (ox_270 c90i hy2 i88) (ox_1 hy0) (ox_274 hy1) (ox_271 c90i hy2 i88) (ox_228 hy3) _) ⟨callB_of 1 hG (zGood wc_X3_isReached) rfl rfl rfl (hG _ wini_X3) (hG _ wm_X3_101) hX3_isReached ⟨Nat.le_of_ble_eq_true rfl, Nat.le_of_ble_eq_true rfl⟩, hG _ wi_X3_isReached, hG _ wse_X3_X3_isReached⟩ (zpreV (va_recv hX.1 hP (ci := 3) (q0 := 0) rfl rfl) hX hP hD hS hA [0, 1] rfl (by decide)) rfl rfl hl.1 rfl (lv_room (Nat.le_of_ble_eq_true rfl)) dX3_blocked_20 ⟨Nat.le_of_ble_eq_true rfl, Nat.le_of_ble_eq_true rfl⟩) hP hD hS hA [0, 1] [2] rfl rfl (by decide) (by decide) (fun r96 _ H locs hp hP hD hS => ?_)
        refine W.cs (cells' := 0) (slots' := 0) rfl rfl ?_
        have hq97 : 0 ≤ r96.toInt ∧ r96.toInt ≤ 1 := hp
        have hP : va_P g.1 vwCl [(h0_room, .inl (g.2.1.1, 2048, .inl f_h0_room)), (h0, .inr (3, [.ref h0_room, .ref h0_clashing, .ref h0_reach, .ref h0_ways, .ref h0_switches, .ref h0_kind, .ref h0_best, .ref h0_row, .int h0_rowLength, .int h0_bends, .int h0_full, .int h0_first, .int h0_punch])), (h0_reach, .inl (g.2.1.2.1, 256, .inl f_h0_reach))] H := hP
        have hD : va_D A [(h0_room, .inl (g.2.1.1, 2048, .inl f_h0_room)), (h0, .inr (3, [.ref h0_room, .ref h0_clashing, .ref h0_reach, .ref h0_ways, .ref h0_switches, .ref h0_kind, .ref h0_best, .ref h0_row, .int h0_rowLength, .int h0_bends, .int h0_full, .int h0_first, .int h0_punch])), (h0_reach, .inl (g.2.1.2.1, 256, .inl f_h0_reach))] := hD
        have J105 : ∀  (v104 : Int32) (H : Heap) (locs : List Loc) (ls : Array Slot), 0 ≤ v104.toInt ∧ v104.toInt ≤ 255 → va_P g.1 vwCl [(h0_room, .inl (g.2.1.1, 2048, .inl f_h0_room)), (h0, .inr (3, [.ref h0_room, .ref h0_clashing, .ref h0_reach, .ref h0_ways, .ref h0_switches, .ref h0_kind, .ref h0_best, .ref h0_row, .int h0_rowLength, .int h0_bends, .int h0_full, .int h0_first, .int h0_punch])), (h0_reach, .inl (g.2.1.2.1, 256, .inl f_h0_reach))] H → va_D A [(h0_room, .inl (g.2.1.1, 2048, .inl f_h0_room)), (h0, .inr (3, [.ref h0_room, .ref h0_clashing, .ref h0_reach, .ref h0_ways, .ref h0_switches, .ref h0_kind, .ref h0_best, .ref h0_row, .int h0_rowLength, .int h0_bends, .int h0_full, .int h0_first, .int h0_punch])), (h0_reach, .inl (g.2.1.2.1, 256, .inl f_h0_reach))] → va_S A s.heap H locs → lv_has ls 3 [(0, .ref h0), (1, .int v104), (2, .int v56)] → W p l e rm_kX3_blocked s m args below meth c H locs 0 0 Q (F0 m 34 ls []) := by
          intro v104 H locs ls i106 hP hD hS hl
          obtain ⟨z107, e108⟩ : ∃ y9 : Int32, y9 = v56 + 1 := ⟨_, rfl⟩
          have f109 : z107.toInt = v56.toInt + 1 := za e108 (rfl : v56.toInt = _) (show (1 : Int32).toInt = (1 : Int) from by decide) (ox_267 (zr h0_full) (zr v56) c90i hy2 i88)
          refine lv_iinc (v := z107) (lv' := [(2, .int z107), (0, .ref h0), (1, .int v104)]) hx hb dX3_blocked_34 hl (k := 2) rfl (by rw [e108]; rfl) (by decide) rfl (fun ls hl => ?_)
          refine lv_goto (tgt := 10) hx hb dX3_blocked_37 (by decide) ?_
          exact ih86 v104 z107 H locs ls (ox_228 i106) (ox_268 c90i f109 hy2 i88) (zdec hm89 (ox_269 c90i f109 hy2 i88)) (hP.sub [1, 2, 0] rfl) (hD.sub [1, 2, 0] (by decide) rfl) hS (lv_sub hl [1, 2, 0] rfl)
        refine lv_if_eq (tgt := 34) hx hb dX3_blocked_23 (by decide) (fun c110 => ?_) (fun c110 => ?_)
        · skip
          have c110i : r96.toInt = (0 : Int) := (zc_eq (rfl : r96.toInt = _) (show (0 : Int32).toInt = (0 : Int) from by decide)).mp c110
          exact J105 v55 H locs ls (ox_228 i87) hP hD hS (lv_sub hl [0, 1, 2] rfl)
        · skip
          have c110i : ¬ (r96.toInt = (0 : Int)) := fun q => c110 ((zc_eq (rfl : r96.toInt = _) (show (0 : Int32).toInt = (0 : Int) from by decide)).mpr q)
          refine lv_iload_n hx hb dX3_blocked_26 rfl (lv_at hl 1 rfl) ?_
          refine lv_aload_n hx hb dX3_blocked_27 rfl (lv_at hl 0 rfl) ?_
          refine lv_iload_n hx hb dX3_blocked_28 rfl (lv_at hl 2 rfl) ?_
          refine zfi (wr := [(h0_reach, .inl (g.2.1.2.1, 256, .inl f_h0_reach))]) (va_runV (As := [.int v56]) (rest := [.int v55]) ⟨hx, hb, hml, hown, hG⟩ (kX3_clearBends l g h0 v56 h0_room h0_clashing h0_reach h0_ways h0_switches h0_kind h0_best h0_row h0_rowLength h0_bends h0_full h0_first h0_punch f_h0_room (ox_270 c90i hy2 i88) (ox_1 hy0) (ox_274 hy1) (ox_271 c90i hy2 i88) (ox_228 hy3) _) ⟨callB_of 1 hG (zGood wc_X3_clearBends) rfl rfl rfl (hG _ wini_X3) (hG _ wm_X3_120) hX3_clearBends ⟨Nat.le_of_ble_eq_true rfl, Nat.le_of_ble_eq_true rfl⟩, hG _ wi_X3_clearBends, hG _ wse_X3_X3_clearBends⟩ (zpreV (va_recv hX.1 hP (ci := 3) (q0 := 1) rfl rfl) hX hP hD hS hA [1, 0] rfl (by decide)) rfl rfl hl.1 rfl (lv_room (Nat.le_of_ble_eq_true rfl)) dX3_blocked_29 ⟨Nat.le_of_ble_eq_true rfl, Nat.le_of_ble_eq_true rfl⟩) hP hD hS hA [1, 0] [2] rfl rfl (by decide) (by decide) (fun r111 _ H locs hp hP hD hS => ?_)
          refine W.cs (cells' := 0) (slots' := 0) rfl rfl ?_
          have hq112 : 0 ≤ r111.toInt ∧ r111.toInt ≤ 255 := hp
          have hP : va_P g.1 vwCl [(h0_reach, .inl (g.2.1.2.1, 256, .inl f_h0_reach)), (h0, .inr (3, [.ref h0_room, .ref h0_clashing, .ref h0_reach, .ref h0_ways, .ref h0_switches, .ref h0_kind, .ref h0_best, .ref h0_row, .int h0_rowLength, .int h0_bends, .int h0_full, .int h0_first, .int h0_punch])), (h0_room, .inl (g.2.1.1, 2048, .inl f_h0_room))] H := hP
          have hD : va_D A [(h0_reach, .inl (g.2.1.2.1, 256, .inl f_h0_reach)), (h0, .inr (3, [.ref h0_room, .ref h0_clashing, .ref h0_reach, .ref h0_ways, .ref h0_switches, .ref h0_kind, .ref h0_best, .ref h0_row, .int h0_rowLength, .int h0_bends, .int h0_full, .int h0_first, .int h0_punch])), (h0_room, .inl (g.2.1.1, 2048, .inl f_h0_room))] := hD
          refine lv_ior hx hb dX3_blocked_32 ?_
          refine lv_topi (fun z113 e114 => ?_)
          have f115 : 0 ≤ z113.toInt ∧ z113.toInt < 256 := zor 8 e114 (rfl : v55.toInt = _) (rfl : r111.toInt = _) (by decide) (ox_308 hq112 i87)
          refine lv_istore_n (lv' := [(1, .int z113), (0, .ref h0), (2, .int v56)]) hx hb dX3_blocked_33 rfl hl (by decide) rfl (fun ls hl => ?_)
          exact J105 z113 H locs ls (ox_277 f115) (hP.sub [2, 1, 0] rfl) (hD.sub [2, 1, 0] (by decide) rfl) hS (lv_sub hl [1, 0, 2] rfl)
  exact L84 _ h0_first h0_first _ _ ls (ox_228 hy3) (ox_273 hy3) (Nat.lt_succ_self _) hP hD hS (lv_sub hl [2, 1, 0] rfl)
theorem dX3_switchesWith_0 : decode cX3_switchesWith 0 = .ok (.iload_n 2, 1) := by decide +kernel
theorem dX3_switchesWith_24 : decode cX3_switchesWith 24 = .ok (.istore 4, 2) := by decide +kernel
theorem dX3_switchesWith_26 : decode cX3_switchesWith 26 = .ok (.iload 4, 2) := by decide +kernel
theorem dX3_switchesWith_28 : decode cX3_switchesWith 28 = .ok (.aload_n 0, 1) := by decide +kernel
theorem dX3_switchesWith_29 : decode cX3_switchesWith 29 = .ok (.getfield 25, 3) := by decide +kernel
theorem dX3_switchesWith_32 : decode cX3_switchesWith 32 = .ok (.iload_n 1, 1) := by decide +kernel
theorem dX3_switchesWith_33 : decode cX3_switchesWith 33 = .ok (.iload_n 3, 1) := by decide +kernel
theorem dX3_switchesWith_34 : decode cX3_switchesWith 34 = .ok (.invokestatic 74, 3) := by decide +kernel
theorem dX3_switchesWith_37 : decode cX3_switchesWith 37 = .ok (.iaload, 1) := by decide +kernel
theorem dX3_switchesWith_38 : decode cX3_switchesWith 38 = .ok (.iadd, 1) := by decide +kernel
theorem dX3_switchesWith_39 : decode cX3_switchesWith 39 = .ok (.ireturn, 1) := by decide +kernel
theorem dX3_switchesWith_19 : decode cX3_switchesWith 19 = .ok (.iconst 0, 1) := by decide +kernel
theorem dX3_switchesWith_20 : decode cX3_switchesWith 20 = .ok (.goto 4, 3) := by decide +kernel
theorem dX3_switchesWith_1 : decode cX3_switchesWith 1 = .ok (.ifCond .eq 18, 3) := by decide +kernel
theorem dX3_switchesWith_4 : decode cX3_switchesWith 4 = .ok (.aload_n 0, 1) := by decide +kernel
theorem dX3_switchesWith_5 : decode cX3_switchesWith 5 = .ok (.getfield 28, 3) := by decide +kernel
theorem dX3_switchesWith_8 : decode cX3_switchesWith 8 = .ok (.iload_n 2, 1) := by decide +kernel
theorem dX3_switchesWith_9 : decode cX3_switchesWith 9 = .ok (.iaload, 1) := by decide +kernel
theorem dX3_switchesWith_10 : decode cX3_switchesWith 10 = .ok (.aload_n 0, 1) := by decide +kernel
theorem dX3_switchesWith_11 : decode cX3_switchesWith 11 = .ok (.getfield 28, 3) := by decide +kernel
theorem dX3_switchesWith_14 : decode cX3_switchesWith 14 = .ok (.iload_n 3, 1) := by decide +kernel
theorem dX3_switchesWith_15 : decode cX3_switchesWith 15 = .ok (.iaload, 1) := by decide +kernel
theorem dX3_switchesWith_16 : decode cX3_switchesWith 16 = .ok (.if_icmp .ne 7, 3) := by decide +kernel
theorem dX3_switchesWith_23 : decode cX3_switchesWith 23 = .ok (.iconst 1, 1) := by decide +kernel
abbrev rm_kX3_switchesWith : Room := { frames := 1, cells := 0, slots := 0, locals := 21 }
set_option maxHeartbeats 4000000 in
set_option maxRecDepth 100000 in
theorem kX3_switchesWith (l : Launch) (g : zL) (h0 : Nat) (x1 : Int32) (x2 : Int32) (x3 : Int32) (h0_room : Nat) (h0_clashing : Nat) (h0_reach : Nat) (h0_ways : Nat) (h0_switches : Nat) (h0_kind : Nat) (h0_best : Nat) (h0_row : Nat) (h0_rowLength : Int32) (h0_bends : Int32) (h0_full : Int32) (h0_first : Int32) (h0_punch : Int32) (f_h0_kind : Nat → Int32) (f_h0_switches : Nat → Int32) (hy0 : 0 ≤ x1.toInt ∧ x1.toInt ≤ 255) (hy1 : 0 ≤ x2.toInt ∧ x2.toInt ≤ 8) (hy2 : 1 ≤ x3.toInt ∧ x3.toInt ≤ 8) (hy3 : 0 ≤ h0_rowLength.toInt ∧ h0_rowLength.toInt ≤ 8) (hy4 : (-1) ≤ h0_bends.toInt ∧ h0_bends.toInt ≤ 8) (hy5 : 0 ≤ h0_full.toInt ∧ h0_full.toInt ≤ 255) (hy6 : 0 ≤ h0_first.toInt ∧ h0_first.toInt ≤ 255) : zCi l g yX3_switchesWith cX3_switchesWith 5 (some .int) rm_kX3_switchesWith [.ref h0, .int x1, .int x2, .int x3] [(h0, .inr (3, [.ref h0_room, .ref h0_clashing, .ref h0_reach, .ref h0_ways, .ref h0_switches, .ref h0_kind, .ref h0_best, .ref h0_row, .int h0_rowLength, .int h0_bends, .int h0_full, .int h0_first, .int h0_punch])), (h0_kind, .inl (g.2.1.1, 9, .inl f_h0_kind)), (h0_switches, .inl (g.2.1.1, 2048, .inl f_h0_switches))] (fun (r : Int32) (u : Unit) => True) (fun (u : Unit) => [(h0, .inr (3, [.ref h0_room, .ref h0_clashing, .ref h0_reach, .ref h0_ways, .ref h0_switches, .ref h0_kind, .ref h0_best, .ref h0_row, .int h0_rowLength, .int h0_bends, .int h0_full, .int h0_first, .int h0_punch])), (h0_kind, .inl (g.2.1.1, 9, .inl f_h0_kind)), (h0_switches, .inl (g.2.1.1, 2048, .inl f_h0_switches))]) := by
  refine zCi.mk2 (by decide) (Nat.le_of_ble_eq_true rfl) ?_
  intro p e s m below meth c A args Q hE hret hP hD hS ls hl
  obtain ⟨hx, hb, hr, hml, hown, hG, hlocks, hnm, hX, hA⟩ := hE
  have hown : s.vm.findClass RX3 = some m.cls := hown
  have hl : lv_has ls 5 [(0, .ref h0), (1, .int x1), (2, .int x2), (3, .int x3)] := hl
  refine lv_iload_n hx hb dX3_switchesWith_0 rfl (lv_at hl 2 rfl) ?_
  have J8 : ∀  (v7 : Int32) (H : Heap) (locs : List Loc) (ls : Array Slot), 0 ≤ v7.toInt ∧ v7.toInt ≤ 1 → va_P g.1 vwCl [(h0, .inr (3, [.ref h0_room, .ref h0_clashing, .ref h0_reach, .ref h0_ways, .ref h0_switches, .ref h0_kind, .ref h0_best, .ref h0_row, .int h0_rowLength, .int h0_bends, .int h0_full, .int h0_first, .int h0_punch])), (h0_kind, .inl (g.2.1.1, 9, .inl f_h0_kind)), (h0_switches, .inl (g.2.1.1, 2048, .inl f_h0_switches))] H → va_D A [(h0, .inr (3, [.ref h0_room, .ref h0_clashing, .ref h0_reach, .ref h0_ways, .ref h0_switches, .ref h0_kind, .ref h0_best, .ref h0_row, .int h0_rowLength, .int h0_bends, .int h0_full, .int h0_first, .int h0_punch])), (h0_kind, .inl (g.2.1.1, 9, .inl f_h0_kind)), (h0_switches, .inl (g.2.1.1, 2048, .inl f_h0_switches))] → va_S A s.heap H locs → lv_has ls 5 [(0, .ref h0), (1, .int x1), (2, .int x2), (3, .int x3)] → W p l e rm_kX3_switchesWith s m args below meth c H locs 0 0 Q (F0 m 24 ls [.int v7]) := by
    intro v7 H locs ls i9 hP hD hS hl
    refine lv_istore (lv' := [(4, .int v7), (0, .ref h0), (1, .int x1), (2, .int x2), (3, .int x3)]) hx hb dX3_switchesWith_24 hl (by decide) rfl (fun ls hl => ?_)
    refine lv_iload hx hb dX3_switchesWith_26 (lv_at hl 0 rfl) ?_
    refine lv_aload_n hx hb dX3_switchesWith_28 rfl (lv_at hl 1 rfl) ?_
    refine va_get (D := g.1) (ci := 3) (v := .ref h0_switches) (C := RX3) (T := TX3) (N := 13) hx hb hG iX3 hown hX.1 hP 0 rfl rfl 4 (by decide) (hG _ wf_X3_25) (fun _ h9 => h9) rfl dX3_switchesWith_29 ?_
    refine lv_iload_n hx hb dX3_switchesWith_32 rfl (lv_at hl 2 rfl) ?_
    refine lv_iload_n hx hb dX3_switchesWith_33 rfl (lv_at hl 4 rfl) ?_
    refine zfi (wr := [(h0, .inr (3, [.ref h0_room, .ref h0_clashing, .ref h0_reach, .ref h0_ways, .ref h0_switches, .ref h0_kind, .ref h0_best, .ref h0_row, .int h0_rowLength, .int h0_bends, .int h0_full, .int h0_first, .int h0_punch])), (h0_kind, .inl (g.2.1.1, 9, .inl f_h0_kind)), (h0_switches, .inl (g.2.1.1, 2048, .inl f_h0_switches))]) (va_runS (As := [.int x1, .int x3]) (rest := [.ref h0_switches, .int v7]) ⟨hx, hb, hml, hown, hG⟩ (kX3_cell l g x1 x3 (ox_228 hy0) (ox_209 hy2) _) ⟨callB_of 2 hG (zGood wc_X3_cell) rfl rfl rfl (hG _ wini_X3) (hG _ wm_X3_74) hX3_cell ⟨Nat.le_of_ble_eq_true rfl, Nat.le_of_ble_eq_true rfl⟩, hG _ ws_X3_cell⟩ (zpreS hX hP hD hS hA [] rfl (by decide)) rfl rfl hl.1 rfl (lv_room (Nat.le_of_ble_eq_true rfl)) dX3_switchesWith_34 ⟨Nat.le_of_ble_eq_true rfl, Nat.le_of_ble_eq_true rfl⟩) hP hD hS hA [] [0, 1, 2] rfl rfl (by decide) (by decide) (fun r10 _ H locs hp hP hD hS => ?_)
    refine W.cs (cells' := 0) (slots' := 0) rfl rfl ?_
    have hq11 : 0 ≤ r10.toInt ∧ r10.toInt ≤ 2047 := hp
    have hP : va_P g.1 vwCl [(h0, .inr (3, [.ref h0_room, .ref h0_clashing, .ref h0_reach, .ref h0_ways, .ref h0_switches, .ref h0_kind, .ref h0_best, .ref h0_row, .int h0_rowLength, .int h0_bends, .int h0_full, .int h0_first, .int h0_punch])), (h0_kind, .inl (g.2.1.1, 9, .inl f_h0_kind)), (h0_switches, .inl (g.2.1.1, 2048, .inl f_h0_switches))] H := hP
    have hD : va_D A [(h0, .inr (3, [.ref h0_room, .ref h0_clashing, .ref h0_reach, .ref h0_ways, .ref h0_switches, .ref h0_kind, .ref h0_best, .ref h0_row, .int h0_rowLength, .int h0_bends, .int h0_full, .int h0_first, .int h0_punch])), (h0_kind, .inl (g.2.1.1, 9, .inl f_h0_kind)), (h0_switches, .inl (g.2.1.1, 2048, .inl f_h0_switches))] := hD
    refine va_iald hx hb hX.1 hP 2 0 rfl rfl (zin (rfl : r10.toInt = _) (ox_229 hq11)) dX3_switchesWith_37 ?_
    refine lv_topi (fun z12 e13 => ?_)
    refine lv_iadd hx hb dX3_switchesWith_38 ?_
    refine lv_topi (fun z14 e15 => ?_)
    exact hret z14 () (Nat.le_of_ble_eq_true rfl) (Nat.le_of_ble_eq_true rfl) rfl trivial hP hD hS dX3_switchesWith_39
  have J22 : ∀  (H : Heap) (locs : List Loc) (ls : Array Slot), va_P g.1 vwCl [(h0, .inr (3, [.ref h0_room, .ref h0_clashing, .ref h0_reach, .ref h0_ways, .ref h0_switches, .ref h0_kind, .ref h0_best, .ref h0_row, .int h0_rowLength, .int h0_bends, .int h0_full, .int h0_first, .int h0_punch])), (h0_kind, .inl (g.2.1.1, 9, .inl f_h0_kind)), (h0_switches, .inl (g.2.1.1, 2048, .inl f_h0_switches))] H → va_D A [(h0, .inr (3, [.ref h0_room, .ref h0_clashing, .ref h0_reach, .ref h0_ways, .ref h0_switches, .ref h0_kind, .ref h0_best, .ref h0_row, .int h0_rowLength, .int h0_bends, .int h0_full, .int h0_first, .int h0_punch])), (h0_kind, .inl (g.2.1.1, 9, .inl f_h0_kind)), (h0_switches, .inl (g.2.1.1, 2048, .inl f_h0_switches))] → va_S A s.heap H locs → lv_has ls 5 [(0, .ref h0), (1, .int x1), (2, .int x2), (3, .int x3)] → W p l e rm_kX3_switchesWith s m args below meth c H locs 0 0 Q (F0 m 19 ls []) := by
    intro  H locs ls  hP hD hS hl
    refine lv_iconst (v := 0) hx hb dX3_switchesWith_19 (by decide) ?_
    refine lv_goto (tgt := 24) hx hb dX3_switchesWith_20 (by decide) ?_
    exact J8 (0 : Int32) H locs ls ((show 0 ≤ (0 : Int) ∧ (0 : Int) ≤ 1 from by decide)) hP hD hS (lv_sub hl [0, 1, 2, 3] rfl)
  refine lv_if_eq (tgt := 19) hx hb dX3_switchesWith_1 (by decide) (fun c23 => ?_) (fun c23 => ?_)
  · skip
    have c23i : x2.toInt = (0 : Int) := (zc_eq (rfl : x2.toInt = _) (show (0 : Int32).toInt = (0 : Int) from by decide)).mp c23
    exact J22 _ _ ls  hP hD hS (lv_sub hl [0, 1, 2, 3] rfl)
  · skip
    have c23i : ¬ (x2.toInt = (0 : Int)) := fun q => c23 ((zc_eq (rfl : x2.toInt = _) (show (0 : Int32).toInt = (0 : Int) from by decide)).mpr q)
    refine lv_aload_n hx hb dX3_switchesWith_4 rfl (lv_at hl 0 rfl) ?_
    refine va_get (D := g.1) (ci := 3) (v := .ref h0_kind) (C := RX3) (T := TX3) (N := 13) hx hb hG iX3 hown hX.1 hP 0 rfl rfl 5 (by decide) (hG _ wf_X3_28) (fun _ h9 => h9) rfl dX3_switchesWith_5 ?_
    refine lv_iload_n hx hb dX3_switchesWith_8 rfl (lv_at hl 2 rfl) ?_
    refine va_iald hx hb hX.1 hP 1 0 rfl rfl (zin (rfl : x2.toInt = _) (ox_309 c23i hy1)) dX3_switchesWith_9 ?_
    refine lv_topi (fun z24 e25 => ?_)
    refine lv_aload_n hx hb dX3_switchesWith_10 rfl (lv_at hl 0 rfl) ?_
    refine va_get (D := g.1) (ci := 3) (v := .ref h0_kind) (C := RX3) (T := TX3) (N := 13) hx hb hG iX3 hown hX.1 hP 0 rfl rfl 5 (by decide) (hG _ wf_X3_28) (fun _ h9 => h9) rfl dX3_switchesWith_11 ?_
    refine lv_iload_n hx hb dX3_switchesWith_14 rfl (lv_at hl 3 rfl) ?_
    refine va_iald hx hb hX.1 hP 1 0 rfl rfl (zin (rfl : x3.toInt = _) (ox_206 hy2)) dX3_switchesWith_15 ?_
    refine lv_topi (fun z26 e27 => ?_)
    refine lv_icmp_ne (tgt := 23) hx hb dX3_switchesWith_16 (by decide) (fun c28 => ?_) (fun c28 => ?_)
    · skip
      have c28i : ¬ (z24.toInt = z26.toInt) := fun q => c28 ((zc_eq (rfl : z24.toInt = _) (rfl : z26.toInt = _)).mpr q)
      refine lv_iconst (v := 1) hx hb dX3_switchesWith_23 (by decide) ?_
      exact J8 (1 : Int32) _ _ ls ((show 0 ≤ (1 : Int) ∧ (1 : Int) ≤ 1 from by decide)) hP hD hS (lv_sub hl [0, 1, 2, 3] rfl)
    · skip
      have c28i : z24.toInt = z26.toInt := (zc_eq (rfl : z24.toInt = _) (rfl : z26.toInt = _)).mp c28
      exact J22 _ _ ls  hP hD hS (lv_sub hl [0, 1, 2, 3] rfl)
theorem dX3_leastFrom_0 : decode cX3_leastFrom 0 = .ok (.iload_n 1, 1) := by decide +kernel
theorem dX3_leastFrom_1 : decode cX3_leastFrom 1 = .ok (.aload_n 0, 1) := by decide +kernel
theorem dX3_leastFrom_2 : decode cX3_leastFrom 2 = .ok (.getfield 43, 3) := by decide +kernel
theorem dX3_leastFrom_5 : decode cX3_leastFrom 5 = .ok (.if_icmp .ne 5, 3) := by decide +kernel
theorem dX3_leastFrom_10 : decode cX3_leastFrom 10 = .ok (.sipush 1000, 3) := by decide +kernel
theorem dX3_leastFrom_13 : decode cX3_leastFrom 13 = .ok (.istore_n 3, 1) := by decide +kernel
theorem dX3_leastFrom_14 : decode cX3_leastFrom 14 = .ok (.iconst 1, 1) := by decide +kernel
theorem dX3_leastFrom_15 : decode cX3_leastFrom 15 = .ok (.istore 4, 2) := by decide +kernel
theorem dX3_leastFrom_17 : decode cX3_leastFrom 17 = .ok (.iload 4, 2) := by decide +kernel
theorem dX3_leastFrom_19 : decode cX3_leastFrom 19 = .ok (.aload_n 0, 1) := by decide +kernel
theorem dX3_leastFrom_20 : decode cX3_leastFrom 20 = .ok (.getfield 50, 3) := by decide +kernel
theorem dX3_leastFrom_23 : decode cX3_leastFrom 23 = .ok (.if_icmp .gt 32, 3) := by decide +kernel
theorem dX3_leastFrom_55 : decode cX3_leastFrom 55 = .ok (.iload_n 3, 1) := by decide +kernel
theorem dX3_leastFrom_56 : decode cX3_leastFrom 56 = .ok (.ireturn, 1) := by decide +kernel
theorem dX3_leastFrom_26 : decode cX3_leastFrom 26 = .ok (.aload_n 0, 1) := by decide +kernel
theorem dX3_leastFrom_27 : decode cX3_leastFrom 27 = .ok (.iload_n 1, 1) := by decide +kernel
theorem dX3_leastFrom_28 : decode cX3_leastFrom 28 = .ok (.iload 4, 2) := by decide +kernel
theorem dX3_leastFrom_30 : decode cX3_leastFrom 30 = .ok (.invokevirtual 117, 3) := by decide +kernel
theorem dX3_leastFrom_49 : decode cX3_leastFrom 49 = .ok (.iinc 4 1, 3) := by decide +kernel
theorem dX3_leastFrom_52 : decode cX3_leastFrom 52 = .ok (.goto (-35), 3) := by decide +kernel
theorem dX3_leastFrom_33 : decode cX3_leastFrom 33 = .ok (.ifCond .eq 16, 3) := by decide +kernel
theorem dX3_leastFrom_36 : decode cX3_leastFrom 36 = .ok (.iload_n 3, 1) := by decide +kernel
theorem dX3_leastFrom_37 : decode cX3_leastFrom 37 = .ok (.aload_n 0, 1) := by decide +kernel
theorem dX3_leastFrom_38 : decode cX3_leastFrom 38 = .ok (.iload_n 1, 1) := by decide +kernel
theorem dX3_leastFrom_39 : decode cX3_leastFrom 39 = .ok (.iload_n 2, 1) := by decide +kernel
theorem dX3_leastFrom_40 : decode cX3_leastFrom 40 = .ok (.iload 4, 2) := by decide +kernel
theorem dX3_leastFrom_42 : decode cX3_leastFrom 42 = .ok (.invokevirtual 137, 3) := by decide +kernel
theorem dX3_leastFrom_45 : decode cX3_leastFrom 45 = .ok (.invokestatic 141, 3) := by decide +kernel
theorem dX3_leastFrom_48 : decode cX3_leastFrom 48 = .ok (.istore_n 3, 1) := by decide +kernel
theorem dX3_leastFrom_8 : decode cX3_leastFrom 8 = .ok (.iconst 0, 1) := by decide +kernel
theorem dX3_leastFrom_9 : decode cX3_leastFrom 9 = .ok (.ireturn, 1) := by decide +kernel
abbrev rm_kX3_leastFrom : Room := { frames := 3, cells := 0, slots := 0, locals := 65 }
set_option maxHeartbeats 4000000 in
set_option maxRecDepth 100000 in
theorem kX3_leastFrom (l : Launch) (g : zL) (h0 : Nat) (x1 : Int32) (x2 : Int32) (h0_room : Nat) (h0_clashing : Nat) (h0_reach : Nat) (h0_ways : Nat) (h0_switches : Nat) (h0_kind : Nat) (h0_best : Nat) (h0_row : Nat) (h0_rowLength : Int32) (h0_bends : Int32) (h0_full : Int32) (h0_first : Int32) (h0_punch : Int32) (f_h0_room : Nat → Int32) (f_h0_ways : Nat → Int32) (f_h0_kind : Nat → Int32) (f_h0_switches : Nat → Int32) (hy0 : 0 ≤ x1.toInt ∧ x1.toInt ≤ 255) (hy1 : 0 ≤ x2.toInt ∧ x2.toInt ≤ 8) (hy2 : 0 ≤ h0_rowLength.toInt ∧ h0_rowLength.toInt ≤ 8) (hy3 : (-1) ≤ h0_bends.toInt ∧ h0_bends.toInt ≤ 8) (hy4 : 0 ≤ h0_full.toInt ∧ h0_full.toInt ≤ 255) (hy5 : 0 ≤ h0_first.toInt ∧ h0_first.toInt ≤ 255) : zCi l g yX3_leastFrom cX3_leastFrom 5 (some .int) rm_kX3_leastFrom [.ref h0, .int x1, .int x2] [(h0, .inr (3, [.ref h0_room, .ref h0_clashing, .ref h0_reach, .ref h0_ways, .ref h0_switches, .ref h0_kind, .ref h0_best, .ref h0_row, .int h0_rowLength, .int h0_bends, .int h0_full, .int h0_first, .int h0_punch])), (h0_room, .inl (g.2.1.1, 2048, .inl f_h0_room)), (h0_ways, .inl (g.2.1.1, 256, .inl f_h0_ways)), (h0_kind, .inl (g.2.1.1, 9, .inl f_h0_kind)), (h0_switches, .inl (g.2.1.1, 2048, .inl f_h0_switches))] (fun (r : Int32) (u : Unit) => ((-2147483648) ≤ r.toInt ∧ r.toInt ≤ 1000)) (fun (u : Unit) => [(h0, .inr (3, [.ref h0_room, .ref h0_clashing, .ref h0_reach, .ref h0_ways, .ref h0_switches, .ref h0_kind, .ref h0_best, .ref h0_row, .int h0_rowLength, .int h0_bends, .int h0_full, .int h0_first, .int h0_punch])), (h0_room, .inl (g.2.1.1, 2048, .inl f_h0_room)), (h0_ways, .inl (g.2.1.1, 256, .inl f_h0_ways)), (h0_kind, .inl (g.2.1.1, 9, .inl f_h0_kind)), (h0_switches, .inl (g.2.1.1, 2048, .inl f_h0_switches))]) := by
  refine zCi.mk2 (by decide) (Nat.le_of_ble_eq_true rfl) ?_
  intro p e s m below meth c A args Q hE hret hP hD hS ls hl
  obtain ⟨hx, hb, hr, hml, hown, hG, hlocks, hnm, hX, hA⟩ := hE
  have hown : s.vm.findClass RX3 = some m.cls := hown
  have hl : lv_has ls 5 [(0, .ref h0), (1, .int x1), (2, .int x2)] := hl
  refine lv_iload_n hx hb dX3_leastFrom_0 rfl (lv_at hl 1 rfl) ?_
  refine lv_aload_n hx hb dX3_leastFrom_1 rfl (lv_at hl 0 rfl) ?_
  refine va_get (D := g.1) (ci := 3) (v := .int h0_full) (C := RX3) (T := TX3) (N := 13) hx hb hG iX3 hown hX.1 hP 0 rfl rfl 10 (by decide) (hG _ wf_X3_43) (fun _ h9 => h9) rfl dX3_leastFrom_2 ?_
  refine lv_icmp_ne (tgt := 10) hx hb dX3_leastFrom_5 (by decide) (fun c1 => ?_) (fun c1 => ?_)
  · skip
    have c1i : ¬ (x1.toInt = h0_full.toInt) := fun q => c1 ((zc_eq (rfl : x1.toInt = _) (rfl : h0_full.toInt = _)).mpr q)
    refine lv_sipush (v := 1000) hx hb dX3_leastFrom_10 (by decide) ?_
    refine lv_istore_n (lv' := [(3, .int 1000), (0, .ref h0), (1, .int x1), (2, .int x2)]) hx hb dX3_leastFrom_13 rfl hl (by decide) rfl (fun ls hl => ?_)
    refine lv_iconst (v := 1) hx hb dX3_leastFrom_14 (by decide) ?_
    refine lv_istore (lv' := [(4, .int 1), (3, .int 1000), (0, .ref h0), (1, .int x1), (2, .int x2)]) hx hb dX3_leastFrom_15 hl (by decide) rfl (fun ls hl => ?_)
    have L171 : ∀ (n : Nat) (v149 : Int32) (v150 : Int32) (H : Heap) (locs : List Loc) (ls : Array Slot), (-2147483648) ≤ v149.toInt ∧ v149.toInt ≤ 1000 → 1 ≤ v150.toInt ∧ v150.toInt ≤ 9 → (10 - v150.toInt).toNat < n → va_P g.1 vwCl [(h0, .inr (3, [.ref h0_room, .ref h0_clashing, .ref h0_reach, .ref h0_ways, .ref h0_switches, .ref h0_kind, .ref h0_best, .ref h0_row, .int h0_rowLength, .int h0_bends, .int h0_full, .int h0_first, .int h0_punch])), (h0_room, .inl (g.2.1.1, 2048, .inl f_h0_room)), (h0_ways, .inl (g.2.1.1, 256, .inl f_h0_ways)), (h0_kind, .inl (g.2.1.1, 9, .inl f_h0_kind)), (h0_switches, .inl (g.2.1.1, 2048, .inl f_h0_switches))] H → va_D A [(h0, .inr (3, [.ref h0_room, .ref h0_clashing, .ref h0_reach, .ref h0_ways, .ref h0_switches, .ref h0_kind, .ref h0_best, .ref h0_row, .int h0_rowLength, .int h0_bends, .int h0_full, .int h0_first, .int h0_punch])), (h0_room, .inl (g.2.1.1, 2048, .inl f_h0_room)), (h0_ways, .inl (g.2.1.1, 256, .inl f_h0_ways)), (h0_kind, .inl (g.2.1.1, 9, .inl f_h0_kind)), (h0_switches, .inl (g.2.1.1, 2048, .inl f_h0_switches))] → va_S A s.heap H locs → lv_has ls 5 [(0, .ref h0), (1, .int x1), (2, .int x2), (3, .int v149), (4, .int v150)] → W p l e rm_kX3_leastFrom s m args below meth c H locs 0 0 Q (F0 m 17 ls []) := by
      intro n172
      induction n172 with
      | zero => intro v149 v150 H locs ls i174 i175 hm176; exact absurd hm176 (Nat.not_lt_zero _)
      | succ n172 ih173 =>
        intro v149 v150 H locs ls i174 i175 hm176 hP hD hS hl
        refine lv_iload hx hb dX3_leastFrom_17 (lv_at hl 4 rfl) ?_
        refine lv_aload_n hx hb dX3_leastFrom_19 rfl (lv_at hl 0 rfl) ?_
        refine va_get (D := g.1) (ci := 3) (v := .int h0_bends) (C := RX3) (T := TX3) (N := 13) hx hb hG iX3 hown hX.1 hP 0 rfl rfl 9 (by decide) (hG _ wf_X3_50) (fun _ h9 => h9) rfl dX3_leastFrom_20 ?_
        refine lv_icmp_gt (tgt := 55) hx hb dX3_leastFrom_23 (by decide) (fun c177 => ?_) (fun c177 => ?_)
        · skip
          have c177i : h0_bends.toInt < v150.toInt := (zc_lt (rfl : h0_bends.toInt = _) (rfl : v150.toInt = _)).mp c177
          refine lv_iload_n hx hb dX3_leastFrom_55 rfl (lv_at hl 3 rfl) ?_
          exact hret v149 () (Nat.le_of_ble_eq_true rfl) (Nat.le_of_ble_eq_true rfl) rfl (ox_310 (zr v149) i174) hP hD hS dX3_leastFrom_56
        · skip
          have c177i : ¬ (h0_bends.toInt < v150.toInt) := fun q => c177 ((zc_lt (rfl : h0_bends.toInt = _) (rfl : v150.toInt = _)).mpr q)
          refine lv_aload_n hx hb dX3_leastFrom_26 rfl (lv_at hl 0 rfl) ?_
          refine lv_iload_n hx hb dX3_leastFrom_27 rfl (lv_at hl 1 rfl) ?_
          refine lv_iload hx hb dX3_leastFrom_28 (lv_at hl 4 rfl) ?_
          refine zfi (wr := [(h0_kind, .inl (g.2.1.1, 9, .inl f_h0_kind)), (h0_switches, .inl (g.2.1.1, 2048, .inl f_h0_switches))]) (va_runV (As := [.int x1, .int v150]) (rest := []) ⟨hx, hb, hml, hown, hG⟩ (kX3_goesOn l g h0 x1 v150 h0_room h0_clashing h0_reach h0_ways h0_switches h0_kind h0_best h0_row h0_rowLength h0_bends h0_full h0_first h0_punch f_h0_room f_h0_ways (ox_301 c1i hy0 hy4) (ox_261 c177i hy3 i175) (ox_1 hy2) (ox_257 c177i hy3 i175) (ox_302 c1i hy0 hy4) (ox_228 hy5) _) ⟨callB_of 2 hG (zGood wc_X3_goesOn) rfl rfl rfl (hG _ wini_X3) (hG _ wm_X3_117) hX3_goesOn ⟨Nat.le_of_ble_eq_true rfl, Nat.le_of_ble_eq_true rfl⟩, hG _ wi_X3_goesOn, hG _ wse_X3_X3_goesOn⟩ (zpreV (va_recv hX.1 hP (ci := 3) (q0 := 0) rfl rfl) hX hP hD hS hA [0, 1, 2] rfl (by decide)) rfl rfl hl.1 rfl (lv_room (Nat.le_of_ble_eq_true rfl)) dX3_leastFrom_30 ⟨Nat.le_of_ble_eq_true rfl, Nat.le_of_ble_eq_true rfl⟩) hP hD hS hA [0, 1, 2] [3, 4] rfl rfl (by decide) (by decide) (fun r178 _ H locs hp hP hD hS => ?_)
          refine W.cs (cells' := 0) (slots' := 0) rfl rfl ?_
          have hq179 : 0 ≤ r178.toInt ∧ r178.toInt ≤ 1 := hp
          have hP : va_P g.1 vwCl [(h0_kind, .inl (g.2.1.1, 9, .inl f_h0_kind)), (h0_switches, .inl (g.2.1.1, 2048, .inl f_h0_switches)), (h0, .inr (3, [.ref h0_room, .ref h0_clashing, .ref h0_reach, .ref h0_ways, .ref h0_switches, .ref h0_kind, .ref h0_best, .ref h0_row, .int h0_rowLength, .int h0_bends, .int h0_full, .int h0_first, .int h0_punch])), (h0_room, .inl (g.2.1.1, 2048, .inl f_h0_room)), (h0_ways, .inl (g.2.1.1, 256, .inl f_h0_ways))] H := hP
          have hD : va_D A [(h0_kind, .inl (g.2.1.1, 9, .inl f_h0_kind)), (h0_switches, .inl (g.2.1.1, 2048, .inl f_h0_switches)), (h0, .inr (3, [.ref h0_room, .ref h0_clashing, .ref h0_reach, .ref h0_ways, .ref h0_switches, .ref h0_kind, .ref h0_best, .ref h0_row, .int h0_rowLength, .int h0_bends, .int h0_full, .int h0_first, .int h0_punch])), (h0_room, .inl (g.2.1.1, 2048, .inl f_h0_room)), (h0_ways, .inl (g.2.1.1, 256, .inl f_h0_ways))] := hD
          have J186 : ∀  (v185 : Int32) (H : Heap) (locs : List Loc) (ls : Array Slot), (-2147483648) ≤ v185.toInt ∧ v185.toInt ≤ 1000 → va_P g.1 vwCl [(h0_kind, .inl (g.2.1.1, 9, .inl f_h0_kind)), (h0_switches, .inl (g.2.1.1, 2048, .inl f_h0_switches)), (h0, .inr (3, [.ref h0_room, .ref h0_clashing, .ref h0_reach, .ref h0_ways, .ref h0_switches, .ref h0_kind, .ref h0_best, .ref h0_row, .int h0_rowLength, .int h0_bends, .int h0_full, .int h0_first, .int h0_punch])), (h0_room, .inl (g.2.1.1, 2048, .inl f_h0_room)), (h0_ways, .inl (g.2.1.1, 256, .inl f_h0_ways))] H → va_D A [(h0_kind, .inl (g.2.1.1, 9, .inl f_h0_kind)), (h0_switches, .inl (g.2.1.1, 2048, .inl f_h0_switches)), (h0, .inr (3, [.ref h0_room, .ref h0_clashing, .ref h0_reach, .ref h0_ways, .ref h0_switches, .ref h0_kind, .ref h0_best, .ref h0_row, .int h0_rowLength, .int h0_bends, .int h0_full, .int h0_first, .int h0_punch])), (h0_room, .inl (g.2.1.1, 2048, .inl f_h0_room)), (h0_ways, .inl (g.2.1.1, 256, .inl f_h0_ways))] → va_S A s.heap H locs → lv_has ls 5 [(0, .ref h0), (1, .int x1), (2, .int x2), (3, .int v185), (4, .int v150)] → W p l e rm_kX3_leastFrom s m args below meth c H locs 0 0 Q (F0 m 49 ls []) := by
            intro v185 H locs ls i187 hP hD hS hl
            obtain ⟨z188, e189⟩ : ∃ y9 : Int32, y9 = v150 + 1 := ⟨_, rfl⟩
            have f190 : z188.toInt = v150.toInt + 1 := za e189 (rfl : v150.toInt = _) (show (1 : Int32).toInt = (1 : Int) from by decide) (ox_262 (zr h0_bends) (zr v150) c177i hy3 i175)
            refine lv_iinc (v := z188) (lv' := [(4, .int z188), (0, .ref h0), (1, .int x1), (2, .int x2), (3, .int v185)]) hx hb dX3_leastFrom_49 hl (k := 4) rfl (by rw [e189]; rfl) (by decide) rfl (fun ls hl => ?_)
            refine lv_goto (tgt := 17) hx hb dX3_leastFrom_52 (by decide) ?_
            exact ih173 v185 z188 H locs ls (ox_310 (zr v185) i187) (ox_263 c177i f190 hy3 i175) (zdec hm176 (ox_264 c177i f190 hy3 i175)) (hP.sub [2, 3, 4, 0, 1] rfl) (hD.sub [2, 3, 4, 0, 1] (by decide) rfl) hS (lv_sub hl [1, 2, 3, 4, 0] rfl)
          refine lv_if_eq (tgt := 49) hx hb dX3_leastFrom_33 (by decide) (fun c191 => ?_) (fun c191 => ?_)
          · skip
            have c191i : r178.toInt = (0 : Int) := (zc_eq (rfl : r178.toInt = _) (show (0 : Int32).toInt = (0 : Int) from by decide)).mp c191
            exact J186 v149 H locs ls (ox_310 (zr v149) i174) hP hD hS (lv_sub hl [0, 1, 2, 3, 4] rfl)
          · skip
            have c191i : ¬ (r178.toInt = (0 : Int)) := fun q => c191 ((zc_eq (rfl : r178.toInt = _) (show (0 : Int32).toInt = (0 : Int) from by decide)).mpr q)
            refine lv_iload_n hx hb dX3_leastFrom_36 rfl (lv_at hl 3 rfl) ?_
            refine lv_aload_n hx hb dX3_leastFrom_37 rfl (lv_at hl 0 rfl) ?_
            refine lv_iload_n hx hb dX3_leastFrom_38 rfl (lv_at hl 1 rfl) ?_
            refine lv_iload_n hx hb dX3_leastFrom_39 rfl (lv_at hl 2 rfl) ?_
            refine lv_iload hx hb dX3_leastFrom_40 (lv_at hl 4 rfl) ?_
            refine zfi (wr := [(h0_room, .inl (g.2.1.1, 2048, .inl f_h0_room)), (h0_ways, .inl (g.2.1.1, 256, .inl f_h0_ways))]) (va_runV (As := [.int x1, .int x2, .int v150]) (rest := [.int v149]) ⟨hx, hb, hml, hown, hG⟩ (kX3_switchesWith l g h0 x1 x2 v150 h0_room h0_clashing h0_reach h0_ways h0_switches h0_kind h0_best h0_row h0_rowLength h0_bends h0_full h0_first h0_punch f_h0_kind f_h0_switches (ox_301 c1i hy0 hy4) (ox_1 hy1) (ox_261 c177i hy3 i175) (ox_1 hy2) (ox_257 c177i hy3 i175) (ox_302 c1i hy0 hy4) (ox_228 hy5) _) ⟨callB_of 3 hG (zGood wc_X3_switchesWith) rfl rfl rfl (hG _ wini_X3) (hG _ wm_X3_137) hX3_switchesWith ⟨Nat.le_of_ble_eq_true rfl, Nat.le_of_ble_eq_true rfl⟩, hG _ wi_X3_switchesWith, hG _ wse_X3_X3_switchesWith⟩ (zpreV (va_recv hX.1 hP (ci := 3) (q0 := 2) rfl rfl) hX hP hD hS hA [2, 0, 1] rfl (by decide)) rfl rfl hl.1 rfl (lv_room (Nat.le_of_ble_eq_true rfl)) dX3_leastFrom_42 ⟨Nat.le_of_ble_eq_true rfl, Nat.le_of_ble_eq_true rfl⟩) hP hD hS hA [2, 0, 1] [3, 4] rfl rfl (by decide) (by decide) (fun r192 _ H locs hp hP hD hS => ?_)
            refine W.cs (cells' := 0) (slots' := 0) rfl rfl ?_
            have hP : va_P g.1 vwCl [(h0_room, .inl (g.2.1.1, 2048, .inl f_h0_room)), (h0_ways, .inl (g.2.1.1, 256, .inl f_h0_ways)), (h0, .inr (3, [.ref h0_room, .ref h0_clashing, .ref h0_reach, .ref h0_ways, .ref h0_switches, .ref h0_kind, .ref h0_best, .ref h0_row, .int h0_rowLength, .int h0_bends, .int h0_full, .int h0_first, .int h0_punch])), (h0_kind, .inl (g.2.1.1, 9, .inl f_h0_kind)), (h0_switches, .inl (g.2.1.1, 2048, .inl f_h0_switches))] H := hP
            have hD : va_D A [(h0_room, .inl (g.2.1.1, 2048, .inl f_h0_room)), (h0_ways, .inl (g.2.1.1, 256, .inl f_h0_ways)), (h0, .inr (3, [.ref h0_room, .ref h0_clashing, .ref h0_reach, .ref h0_ways, .ref h0_switches, .ref h0_kind, .ref h0_best, .ref h0_row, .int h0_rowLength, .int h0_bends, .int h0_full, .int h0_first, .int h0_punch])), (h0_kind, .inl (g.2.1.1, 9, .inl f_h0_kind)), (h0_switches, .inl (g.2.1.1, 2048, .inl f_h0_switches))] := hD
            refine va_mmin hx hb (by rw [hml]; exact hl.1.symm) hown (hG _ wm_X3_141) (hG _ ws_J9_min_7cf53) (hG _ wini_J9) (hG _ wc_J9_min_7cf53) (Nat.le_of_ble_eq_true rfl) (Nat.le_of_ble_eq_true rfl) (Nat.le_of_ble_eq_true rfl) (Nat.le_of_ble_eq_true rfl) dX3_leastFrom_45 ?_
            refine lv_topi (fun z193 e194 => ?_)
            have f195 : z193.toInt ≤ v149.toInt ∧ z193.toInt ≤ r192.toInt ∧ (z193.toInt = v149.toInt ∨ z193.toInt = r192.toInt) := zmn e194 (rfl : v149.toInt = _) (rfl : r192.toInt = _)
            refine lv_istore_n (lv' := [(3, .int z193), (0, .ref h0), (1, .int x1), (2, .int x2), (4, .int v150)]) hx hb dX3_leastFrom_48 rfl hl (by decide) rfl (fun ls hl => ?_)
            exact J186 z193 H locs ls (ox_311 (zr r192) (zr v149) (zr z193) f195 i174) (hP.sub [3, 4, 2, 0, 1] rfl) (hD.sub [3, 4, 2, 0, 1] (by decide) rfl) hS (lv_sub hl [1, 2, 3, 0, 4] rfl)
    exact L171 _ (1000 : Int32) (1 : Int32) _ _ ls ((show (-2147483648) ≤ (1000 : Int) ∧ (1000 : Int) ≤ 1000 from by decide)) ((show 1 ≤ (1 : Int) ∧ (1 : Int) ≤ 9 from by decide)) (Nat.lt_succ_self _) hP hD hS (lv_sub hl [2, 3, 4, 1, 0] rfl)
  · skip
    have c1i : x1.toInt = h0_full.toInt := (zc_eq (rfl : x1.toInt = _) (rfl : h0_full.toInt = _)).mp c1
    refine lv_iconst (v := 0) hx hb dX3_leastFrom_8 (by decide) ?_
    exact hret (0 : Int32) () (Nat.le_of_ble_eq_true rfl) (Nat.le_of_ble_eq_true rfl) rfl ((show (-2147483648) ≤ (0 : Int) ∧ (0 : Int) ≤ 1000 from by decide)) hP hD hS dX3_leastFrom_9
theorem dX3_countSwitches_0 : decode cX3_countSwitches 0 = .ok (.iconst 1, 1) := by decide +kernel
theorem dX3_countSwitches_1 : decode cX3_countSwitches 1 = .ok (.istore_n 3, 1) := by decide +kernel
theorem dX3_countSwitches_2 : decode cX3_countSwitches 2 = .ok (.iload_n 3, 1) := by decide +kernel
theorem dX3_countSwitches_3 : decode cX3_countSwitches 3 = .ok (.aload_n 0, 1) := by decide +kernel
theorem dX3_countSwitches_4 : decode cX3_countSwitches 4 = .ok (.getfield 50, 3) := by decide +kernel
theorem dX3_countSwitches_7 : decode cX3_countSwitches 7 = .ok (.if_icmp .gt 48, 3) := by decide +kernel
theorem dX3_countSwitches_55 : decode cX3_countSwitches 55 = .ok (.aload_n 0, 1) := by decide +kernel
theorem dX3_countSwitches_56 : decode cX3_countSwitches 56 = .ok (.getfield 43, 3) := by decide +kernel
theorem dX3_countSwitches_59 : decode cX3_countSwitches 59 = .ok (.istore_n 3, 1) := by decide +kernel
theorem dX3_countSwitches_60 : decode cX3_countSwitches 60 = .ok (.iload_n 3, 1) := by decide +kernel
theorem dX3_countSwitches_61 : decode cX3_countSwitches 61 = .ok (.aload_n 0, 1) := by decide +kernel
theorem dX3_countSwitches_62 : decode cX3_countSwitches 62 = .ok (.getfield 84, 3) := by decide +kernel
theorem dX3_countSwitches_65 : decode cX3_countSwitches 65 = .ok (.if_icmp .lt 75, 3) := by decide +kernel
theorem dX3_countSwitches_140 : decode cX3_countSwitches 140 = .ok (.return_, 1) := by decide +kernel
theorem dX3_countSwitches_68 : decode cX3_countSwitches 68 = .ok (.iconst 1, 1) := by decide +kernel
theorem dX3_countSwitches_69 : decode cX3_countSwitches 69 = .ok (.istore 4, 2) := by decide +kernel
theorem dX3_countSwitches_71 : decode cX3_countSwitches 71 = .ok (.iload 4, 2) := by decide +kernel
theorem dX3_countSwitches_73 : decode cX3_countSwitches 73 = .ok (.aload_n 0, 1) := by decide +kernel
theorem dX3_countSwitches_74 : decode cX3_countSwitches 74 = .ok (.getfield 50, 3) := by decide +kernel
theorem dX3_countSwitches_134 : decode cX3_countSwitches 134 = .ok (.iinc 3 (-1), 3) := by decide +kernel
theorem dX3_countSwitches_137 : decode cX3_countSwitches 137 = .ok (.goto (-77), 3) := by decide +kernel
theorem dX3_countSwitches_77 : decode cX3_countSwitches 77 = .ok (.if_icmp .gt 57, 3) := by decide +kernel
theorem dX3_countSwitches_80 : decode cX3_countSwitches 80 = .ok (.aload_n 0, 1) := by decide +kernel
theorem dX3_countSwitches_81 : decode cX3_countSwitches 81 = .ok (.iload_n 3, 1) := by decide +kernel
theorem dX3_countSwitches_82 : decode cX3_countSwitches 82 = .ok (.invokevirtual 101, 3) := by decide +kernel
theorem dX3_countSwitches_85 : decode cX3_countSwitches 85 = .ok (.ifCond .eq 49, 3) := by decide +kernel
theorem dX3_countSwitches_88 : decode cX3_countSwitches 88 = .ok (.aload_n 0, 1) := by decide +kernel
theorem dX3_countSwitches_89 : decode cX3_countSwitches 89 = .ok (.getfield 25, 3) := by decide +kernel
theorem dX3_countSwitches_92 : decode cX3_countSwitches 92 = .ok (.iload_n 3, 1) := by decide +kernel
theorem dX3_countSwitches_93 : decode cX3_countSwitches 93 = .ok (.iload 4, 2) := by decide +kernel
theorem dX3_countSwitches_95 : decode cX3_countSwitches 95 = .ok (.invokestatic 74, 3) := by decide +kernel
theorem dX3_countSwitches_98 : decode cX3_countSwitches 98 = .ok (.aload_n 0, 1) := by decide +kernel
theorem dX3_countSwitches_99 : decode cX3_countSwitches 99 = .ok (.iload_n 3, 1) := by decide +kernel
theorem dX3_countSwitches_100 : decode cX3_countSwitches 100 = .ok (.iload 4, 2) := by decide +kernel
theorem dX3_countSwitches_102 : decode cX3_countSwitches 102 = .ok (.invokevirtual 117, 3) := by decide +kernel
theorem dX3_countSwitches_127 : decode cX3_countSwitches 127 = .ok (.iastore, 1) := by decide +kernel
theorem dX3_countSwitches_128 : decode cX3_countSwitches 128 = .ok (.iinc 4 1, 3) := by decide +kernel
theorem dX3_countSwitches_131 : decode cX3_countSwitches 131 = .ok (.goto (-60), 3) := by decide +kernel
theorem dX3_countSwitches_105 : decode cX3_countSwitches 105 = .ok (.ifCond .eq 19, 3) := by decide +kernel
theorem dX3_countSwitches_124 : decode cX3_countSwitches 124 = .ok (.sipush 1000, 3) := by decide +kernel
theorem dX3_countSwitches_108 : decode cX3_countSwitches 108 = .ok (.aload_n 0, 1) := by decide +kernel
theorem dX3_countSwitches_109 : decode cX3_countSwitches 109 = .ok (.iload_n 3, 1) := by decide +kernel
theorem dX3_countSwitches_110 : decode cX3_countSwitches 110 = .ok (.iload 4, 2) := by decide +kernel
theorem dX3_countSwitches_112 : decode cX3_countSwitches 112 = .ok (.invokestatic 70, 3) := by decide +kernel
theorem dX3_countSwitches_115 : decode cX3_countSwitches 115 = .ok (.ior, 1) := by decide +kernel
theorem dX3_countSwitches_116 : decode cX3_countSwitches 116 = .ok (.iload 4, 2) := by decide +kernel
theorem dX3_countSwitches_118 : decode cX3_countSwitches 118 = .ok (.invokevirtual 134, 3) := by decide +kernel
theorem dX3_countSwitches_121 : decode cX3_countSwitches 121 = .ok (.goto 6, 3) := by decide +kernel
theorem dX3_countSwitches_10 : decode cX3_countSwitches 10 = .ok (.iload_n 3, 1) := by decide +kernel
theorem dX3_countSwitches_11 : decode cX3_countSwitches 11 = .ok (.aload_n 1, 1) := by decide +kernel
theorem dX3_countSwitches_12 : decode cX3_countSwitches 12 = .ok (.getfield 131, 3) := by decide +kernel
theorem dX3_countSwitches_15 : decode cX3_countSwitches 15 = .ok (.invokestatic 63, 3) := by decide +kernel
theorem dX3_countSwitches_26 : decode cX3_countSwitches 26 = .ok (.istore 4, 2) := by decide +kernel
theorem dX3_countSwitches_28 : decode cX3_countSwitches 28 = .ok (.aload_n 0, 1) := by decide +kernel
theorem dX3_countSwitches_29 : decode cX3_countSwitches 29 = .ok (.getfield 28, 3) := by decide +kernel
theorem dX3_countSwitches_32 : decode cX3_countSwitches 32 = .ok (.iload_n 3, 1) := by decide +kernel
theorem dX3_countSwitches_33 : decode cX3_countSwitches 33 = .ok (.iload_n 2, 1) := by decide +kernel
theorem dX3_countSwitches_48 : decode cX3_countSwitches 48 = .ok (.iastore, 1) := by decide +kernel
theorem dX3_countSwitches_49 : decode cX3_countSwitches 49 = .ok (.iinc 3 1, 3) := by decide +kernel
theorem dX3_countSwitches_52 : decode cX3_countSwitches 52 = .ok (.goto (-50), 3) := by decide +kernel
theorem dX3_countSwitches_34 : decode cX3_countSwitches 34 = .ok (.ifCond .ne 8, 3) := by decide +kernel
theorem dX3_countSwitches_42 : decode cX3_countSwitches 42 = .ok (.aload_n 1, 1) := by decide +kernel
theorem dX3_countSwitches_43 : decode cX3_countSwitches 43 = .ok (.getfield 67, 3) := by decide +kernel
theorem dX3_countSwitches_46 : decode cX3_countSwitches 46 = .ok (.iload_n 3, 1) := by decide +kernel
theorem dX3_countSwitches_47 : decode cX3_countSwitches 47 = .ok (.iaload, 1) := by decide +kernel
theorem dX3_countSwitches_37 : decode cX3_countSwitches 37 = .ok (.iload 4, 2) := by decide +kernel
theorem dX3_countSwitches_39 : decode cX3_countSwitches 39 = .ok (.goto 9, 3) := by decide +kernel
theorem dX3_countSwitches_18 : decode cX3_countSwitches 18 = .ok (.ifCond .eq 7, 3) := by decide +kernel
theorem dX3_countSwitches_25 : decode cX3_countSwitches 25 = .ok (.iconst 0, 1) := by decide +kernel
theorem dX3_countSwitches_21 : decode cX3_countSwitches 21 = .ok (.iconst 1, 1) := by decide +kernel
theorem dX3_countSwitches_22 : decode cX3_countSwitches 22 = .ok (.goto 4, 3) := by decide +kernel
abbrev rm_kX3_countSwitches : Room := { frames := 4, cells := 0, slots := 0, locals := 89 }
set_option maxHeartbeats 4000000 in
set_option maxRecDepth 100000 in
theorem kX3_countSwitches (l : Launch) (g : zL) (h0 : Nat) (y1 : Nat) (x2 : Int32) (h0_room : Nat) (h0_clashing : Nat) (h0_reach : Nat) (h0_ways : Nat) (h0_switches : Nat) (h0_kind : Nat) (h0_best : Nat) (h0_row : Nat) (h0_rowLength : Int32) (h0_bends : Int32) (h0_full : Int32) (h0_first : Int32) (h0_punch : Int32) (y1_count : Int32) (y1_statements : Int32) (y1_thick : Int32) (y1_punch : Int32) (y1_ups : Int32) (y1_toolCount : Int32) (y1_toolWidth : Nat) (y1_told : Nat) (y1_name : Nat) (y1_parent : Nat) (y1_side : Nat) (y1_from : Nat) (y1_width : Nat) (y1_height : Nat) (y1_radius : Nat) (y1_toolSet : Nat) (f_y1_toolSet : Nat → Int32) (f_h0_kind : Nat → Int32) (f_h0_reach : Nat → Int32) (f_h0_room : Nat → Int32) (f_h0_ways : Nat → Int32) (f_h0_switches : Nat → Int32) (hy0 : 0 ≤ h0_rowLength.toInt ∧ h0_rowLength.toInt ≤ 8) (hy1 : (-1) ≤ h0_bends.toInt ∧ h0_bends.toInt ≤ 8) (hy2 : 0 ≤ h0_full.toInt ∧ h0_full.toInt ≤ 255) (hy3 : 0 ≤ h0_first.toInt ∧ h0_first.toInt ≤ 255) (hy4 : 0 ≤ y1_count.toInt ∧ y1_count.toInt ≤ 9) (hy5 : 0 ≤ y1_toolCount.toInt ∧ y1_toolCount.toInt ≤ 8) : zCv l g yX3_countSwitches cX3_countSwitches 5 none rm_kX3_countSwitches [.ref h0, .ref y1, .int x2] [(h0, .inr (3, [.ref h0_room, .ref h0_clashing, .ref h0_reach, .ref h0_ways, .ref h0_switches, .ref h0_kind, .ref h0_best, .ref h0_row, .int h0_rowLength, .int h0_bends, .int h0_full, .int h0_first, .int h0_punch])), (y1, .inr (4, [.int y1_count, .int y1_statements, .int y1_thick, .int y1_punch, .int y1_ups, .int y1_toolCount, .ref y1_toolWidth, .ref y1_told, .ref y1_name, .ref y1_parent, .ref y1_side, .ref y1_from, .ref y1_width, .ref y1_height, .ref y1_radius, .ref y1_toolSet])), (y1_toolSet, .inl (g.2.1.1, 9, .inl f_y1_toolSet)), (h0_kind, .inl (g.2.1.1, 9, .inl f_h0_kind)), (h0_reach, .inl (g.2.1.2.1, 256, .inl f_h0_reach)), (h0_room, .inl (g.2.1.1, 2048, .inl f_h0_room)), (h0_ways, .inl (g.2.1.1, 256, .inl f_h0_ways)), (h0_switches, .inl (g.2.1.1, 2048, .inl f_h0_switches))] (fun (u : (Nat → Int32) × (Nat → Int32)) => True) (fun (u : (Nat → Int32) × (Nat → Int32)) => [(h0, .inr (3, [.ref h0_room, .ref h0_clashing, .ref h0_reach, .ref h0_ways, .ref h0_switches, .ref h0_kind, .ref h0_best, .ref h0_row, .int h0_rowLength, .int h0_bends, .int h0_full, .int h0_first, .int h0_punch])), (y1, .inr (4, [.int y1_count, .int y1_statements, .int y1_thick, .int y1_punch, .int y1_ups, .int y1_toolCount, .ref y1_toolWidth, .ref y1_told, .ref y1_name, .ref y1_parent, .ref y1_side, .ref y1_from, .ref y1_width, .ref y1_height, .ref y1_radius, .ref y1_toolSet])), (y1_toolSet, .inl (g.2.1.1, 9, .inl f_y1_toolSet)), (h0_kind, .inl (g.2.1.1, 9, .inl u.1)), (h0_reach, .inl (g.2.1.2.1, 256, .inl f_h0_reach)), (h0_room, .inl (g.2.1.1, 2048, .inl f_h0_room)), (h0_ways, .inl (g.2.1.1, 256, .inl f_h0_ways)), (h0_switches, .inl (g.2.1.1, 2048, .inl u.2))]) := by
  refine zCv.mk2 (by decide) (Nat.le_of_ble_eq_true rfl) ?_
  intro p e s m below meth c A args Q hE hret hP hD hS ls hl
  obtain ⟨hx, hb, hr, hml, hown, hG, hlocks, hnm, hX, hA⟩ := hE
  have hown : s.vm.findClass RX3 = some m.cls := hown
  have hl : lv_has ls 5 [(0, .ref h0), (1, .ref y1), (2, .int x2)] := hl
  refine lv_iconst (v := 1) hx hb dX3_countSwitches_0 (by decide) ?_
  refine lv_istore_n (lv' := [(3, .int 1), (0, .ref h0), (1, .ref y1), (2, .int x2)]) hx hb dX3_countSwitches_1 rfl hl (by decide) rfl (fun ls hl => ?_)
  have L13337 : ∀ (n : Nat) (v10900 : Int32) (fn10901 : Nat → Int32) (H : Heap) (locs : List Loc) (ls : Array Slot), 1 ≤ v10900.toInt ∧ v10900.toInt ≤ 9 → (10 - v10900.toInt).toNat < n → va_P g.1 vwCl [(h0, .inr (3, [.ref h0_room, .ref h0_clashing, .ref h0_reach, .ref h0_ways, .ref h0_switches, .ref h0_kind, .ref h0_best, .ref h0_row, .int h0_rowLength, .int h0_bends, .int h0_full, .int h0_first, .int h0_punch])), (y1, .inr (4, [.int y1_count, .int y1_statements, .int y1_thick, .int y1_punch, .int y1_ups, .int y1_toolCount, .ref y1_toolWidth, .ref y1_told, .ref y1_name, .ref y1_parent, .ref y1_side, .ref y1_from, .ref y1_width, .ref y1_height, .ref y1_radius, .ref y1_toolSet])), (y1_toolSet, .inl (g.2.1.1, 9, .inl f_y1_toolSet)), (h0_kind, .inl (g.2.1.1, 9, .inl fn10901)), (h0_reach, .inl (g.2.1.2.1, 256, .inl f_h0_reach)), (h0_room, .inl (g.2.1.1, 2048, .inl f_h0_room)), (h0_ways, .inl (g.2.1.1, 256, .inl f_h0_ways)), (h0_switches, .inl (g.2.1.1, 2048, .inl f_h0_switches))] H → va_D A [(h0, .inr (3, [.ref h0_room, .ref h0_clashing, .ref h0_reach, .ref h0_ways, .ref h0_switches, .ref h0_kind, .ref h0_best, .ref h0_row, .int h0_rowLength, .int h0_bends, .int h0_full, .int h0_first, .int h0_punch])), (y1, .inr (4, [.int y1_count, .int y1_statements, .int y1_thick, .int y1_punch, .int y1_ups, .int y1_toolCount, .ref y1_toolWidth, .ref y1_told, .ref y1_name, .ref y1_parent, .ref y1_side, .ref y1_from, .ref y1_width, .ref y1_height, .ref y1_radius, .ref y1_toolSet])), (y1_toolSet, .inl (g.2.1.1, 9, .inl f_y1_toolSet)), (h0_kind, .inl (g.2.1.1, 9, .inl fn10901)), (h0_reach, .inl (g.2.1.2.1, 256, .inl f_h0_reach)), (h0_room, .inl (g.2.1.1, 2048, .inl f_h0_room)), (h0_ways, .inl (g.2.1.1, 256, .inl f_h0_ways)), (h0_switches, .inl (g.2.1.1, 2048, .inl f_h0_switches))] → va_S A s.heap H locs → lv_has ls 5 [(0, .ref h0), (1, .ref y1), (2, .int x2), (3, .int v10900)] → W p l e rm_kX3_countSwitches s m args below meth c H locs 0 0 Q (F0 m 2 ls []) := by
    intro n13338
    induction n13338 with
    | zero => intro v10900 fn10901 H locs ls i13340 hm13341; exact absurd hm13341 (Nat.not_lt_zero _)
    | succ n13338 ih13339 =>
      intro v10900 fn10901 H locs ls i13340 hm13341 hP hD hS hl
      refine lv_iload_n hx hb dX3_countSwitches_2 rfl (lv_at hl 3 rfl) ?_
      refine lv_aload_n hx hb dX3_countSwitches_3 rfl (lv_at hl 0 rfl) ?_
      refine va_get (D := g.1) (ci := 3) (v := .int h0_bends) (C := RX3) (T := TX3) (N := 13) hx hb hG iX3 hown hX.1 hP 0 rfl rfl 9 (by decide) (hG _ wf_X3_50) (fun _ h9 => h9) rfl dX3_countSwitches_4 ?_
      refine lv_icmp_gt (tgt := 55) hx hb dX3_countSwitches_7 (by decide) (fun c13342 => ?_) (fun c13342 => ?_)
      · skip
        have c13342i : h0_bends.toInt < v10900.toInt := (zc_lt (rfl : h0_bends.toInt = _) (rfl : v10900.toInt = _)).mp c13342
        refine lv_aload_n hx hb dX3_countSwitches_55 rfl (lv_at hl 0 rfl) ?_
        refine va_get (D := g.1) (ci := 3) (v := .int h0_full) (C := RX3) (T := TX3) (N := 13) hx hb hG iX3 hown hX.1 hP 0 rfl rfl 10 (by decide) (hG _ wf_X3_43) (fun _ h9 => h9) rfl dX3_countSwitches_56 ?_
        refine lv_istore_n (lv' := [(3, .int h0_full), (0, .ref h0), (1, .ref y1), (2, .int x2)]) hx hb dX3_countSwitches_59 rfl hl (by decide) rfl (fun ls hl => ?_)
        have L15155 : ∀ (n : Nat) (v14550 : Int32) (fn14551 : Nat → Int32) (H : Heap) (locs : List Loc) (ls : Array Slot), (-1) ≤ v14550.toInt ∧ v14550.toInt ≤ 255 → (v14550.toInt - (-2)).toNat < n → va_P g.1 vwCl [(h0, .inr (3, [.ref h0_room, .ref h0_clashing, .ref h0_reach, .ref h0_ways, .ref h0_switches, .ref h0_kind, .ref h0_best, .ref h0_row, .int h0_rowLength, .int h0_bends, .int h0_full, .int h0_first, .int h0_punch])), (y1, .inr (4, [.int y1_count, .int y1_statements, .int y1_thick, .int y1_punch, .int y1_ups, .int y1_toolCount, .ref y1_toolWidth, .ref y1_told, .ref y1_name, .ref y1_parent, .ref y1_side, .ref y1_from, .ref y1_width, .ref y1_height, .ref y1_radius, .ref y1_toolSet])), (y1_toolSet, .inl (g.2.1.1, 9, .inl f_y1_toolSet)), (h0_kind, .inl (g.2.1.1, 9, .inl fn10901)), (h0_reach, .inl (g.2.1.2.1, 256, .inl f_h0_reach)), (h0_room, .inl (g.2.1.1, 2048, .inl f_h0_room)), (h0_ways, .inl (g.2.1.1, 256, .inl f_h0_ways)), (h0_switches, .inl (g.2.1.1, 2048, .inl fn14551))] H → va_D A [(h0, .inr (3, [.ref h0_room, .ref h0_clashing, .ref h0_reach, .ref h0_ways, .ref h0_switches, .ref h0_kind, .ref h0_best, .ref h0_row, .int h0_rowLength, .int h0_bends, .int h0_full, .int h0_first, .int h0_punch])), (y1, .inr (4, [.int y1_count, .int y1_statements, .int y1_thick, .int y1_punch, .int y1_ups, .int y1_toolCount, .ref y1_toolWidth, .ref y1_told, .ref y1_name, .ref y1_parent, .ref y1_side, .ref y1_from, .ref y1_width, .ref y1_height, .ref y1_radius, .ref y1_toolSet])), (y1_toolSet, .inl (g.2.1.1, 9, .inl f_y1_toolSet)), (h0_kind, .inl (g.2.1.1, 9, .inl fn10901)), (h0_reach, .inl (g.2.1.2.1, 256, .inl f_h0_reach)), (h0_room, .inl (g.2.1.1, 2048, .inl f_h0_room)), (h0_ways, .inl (g.2.1.1, 256, .inl f_h0_ways)), (h0_switches, .inl (g.2.1.1, 2048, .inl fn14551))] → va_S A s.heap H locs → lv_has ls 5 [(0, .ref h0), (1, .ref y1), (2, .int x2), (3, .int v14550)] → W p l e rm_kX3_countSwitches s m args below meth c H locs 0 0 Q (F0 m 60 ls []) := by
          intro n15156
          induction n15156 with
          | zero => intro v14550 fn14551 H locs ls i15158 hm15159; exact absurd hm15159 (Nat.not_lt_zero _)
          | succ n15156 ih15157 =>
            intro v14550 fn14551 H locs ls i15158 hm15159 hP hD hS hl
            refine lv_iload_n hx hb dX3_countSwitches_60 rfl (lv_at hl 3 rfl) ?_
            refine lv_aload_n hx hb dX3_countSwitches_61 rfl (lv_at hl 0 rfl) ?_
            refine va_get (D := g.1) (ci := 3) (v := .int h0_first) (C := RX3) (T := TX3) (N := 13) hx hb hG iX3 hown hX.1 hP 0 rfl rfl 11 (by decide) (hG _ wf_X3_84) (fun _ h9 => h9) rfl dX3_countSwitches_62 ?_
            refine lv_icmp_lt (tgt := 140) hx hb dX3_countSwitches_65 (by decide) (fun c15160 => ?_) (fun c15160 => ?_)
            · skip
              have c15160i : v14550.toInt < h0_first.toInt := (zc_lt (rfl : v14550.toInt = _) (rfl : h0_first.toInt = _)).mp c15160
              exact hret (fn10901, fn14551) (Nat.le_of_ble_eq_true rfl) (Nat.le_of_ble_eq_true rfl) trivial hP hD hS dX3_countSwitches_140
            · skip
              have c15160i : ¬ (v14550.toInt < h0_first.toInt) := fun q => c15160 ((zc_lt (rfl : v14550.toInt = _) (rfl : h0_first.toInt = _)).mpr q)
              refine lv_iconst (v := 1) hx hb dX3_countSwitches_68 (by decide) ?_
              refine lv_istore (lv' := [(4, .int 1), (0, .ref h0), (1, .ref y1), (2, .int x2), (3, .int v14550)]) hx hb dX3_countSwitches_69 hl (by decide) rfl (fun ls hl => ?_)
              have L15696 : ∀ (n : Nat) (v15628 : Int32) (fn15629 : Nat → Int32) (H : Heap) (locs : List Loc) (ls : Array Slot), 1 ≤ v15628.toInt ∧ v15628.toInt ≤ 9 → (10 - v15628.toInt).toNat < n → va_P g.1 vwCl [(h0, .inr (3, [.ref h0_room, .ref h0_clashing, .ref h0_reach, .ref h0_ways, .ref h0_switches, .ref h0_kind, .ref h0_best, .ref h0_row, .int h0_rowLength, .int h0_bends, .int h0_full, .int h0_first, .int h0_punch])), (y1, .inr (4, [.int y1_count, .int y1_statements, .int y1_thick, .int y1_punch, .int y1_ups, .int y1_toolCount, .ref y1_toolWidth, .ref y1_told, .ref y1_name, .ref y1_parent, .ref y1_side, .ref y1_from, .ref y1_width, .ref y1_height, .ref y1_radius, .ref y1_toolSet])), (y1_toolSet, .inl (g.2.1.1, 9, .inl f_y1_toolSet)), (h0_kind, .inl (g.2.1.1, 9, .inl fn10901)), (h0_reach, .inl (g.2.1.2.1, 256, .inl f_h0_reach)), (h0_room, .inl (g.2.1.1, 2048, .inl f_h0_room)), (h0_ways, .inl (g.2.1.1, 256, .inl f_h0_ways)), (h0_switches, .inl (g.2.1.1, 2048, .inl fn15629))] H → va_D A [(h0, .inr (3, [.ref h0_room, .ref h0_clashing, .ref h0_reach, .ref h0_ways, .ref h0_switches, .ref h0_kind, .ref h0_best, .ref h0_row, .int h0_rowLength, .int h0_bends, .int h0_full, .int h0_first, .int h0_punch])), (y1, .inr (4, [.int y1_count, .int y1_statements, .int y1_thick, .int y1_punch, .int y1_ups, .int y1_toolCount, .ref y1_toolWidth, .ref y1_told, .ref y1_name, .ref y1_parent, .ref y1_side, .ref y1_from, .ref y1_width, .ref y1_height, .ref y1_radius, .ref y1_toolSet])), (y1_toolSet, .inl (g.2.1.1, 9, .inl f_y1_toolSet)), (h0_kind, .inl (g.2.1.1, 9, .inl fn10901)), (h0_reach, .inl (g.2.1.2.1, 256, .inl f_h0_reach)), (h0_room, .inl (g.2.1.1, 2048, .inl f_h0_room)), (h0_ways, .inl (g.2.1.1, 256, .inl f_h0_ways)), (h0_switches, .inl (g.2.1.1, 2048, .inl fn15629))] → va_S A s.heap H locs → lv_has ls 5 [(0, .ref h0), (1, .ref y1), (2, .int x2), (3, .int v14550), (4, .int v15628)] → W p l e rm_kX3_countSwitches s m args below meth c H locs 0 0 Q (F0 m 71 ls []) := by
                intro n15697
                induction n15697 with
                | zero => intro v15628 fn15629 H locs ls i15699 hm15700; exact absurd hm15700 (Nat.not_lt_zero _)
                | succ n15697 ih15698 =>
                  intro v15628 fn15629 H locs ls i15699 hm15700 hP hD hS hl
                  refine lv_iload hx hb dX3_countSwitches_71 (lv_at hl 4 rfl) ?_
                  refine lv_aload_n hx hb dX3_countSwitches_73 rfl (lv_at hl 0 rfl) ?_
                  refine va_get (D := g.1) (ci := 3) (v := .int h0_bends) (C := RX3) (T := TX3) (N := 13) hx hb hG iX3 hown hX.1 hP 0 rfl rfl 9 (by decide) (hG _ wf_X3_50) (fun _ h9 => h9) rfl dX3_countSwitches_74 ?_
                  have J15732 : ∀  (H : Heap) (locs : List Loc) (ls : Array Slot), va_P g.1 vwCl [(h0, .inr (3, [.ref h0_room, .ref h0_clashing, .ref h0_reach, .ref h0_ways, .ref h0_switches, .ref h0_kind, .ref h0_best, .ref h0_row, .int h0_rowLength, .int h0_bends, .int h0_full, .int h0_first, .int h0_punch])), (y1, .inr (4, [.int y1_count, .int y1_statements, .int y1_thick, .int y1_punch, .int y1_ups, .int y1_toolCount, .ref y1_toolWidth, .ref y1_told, .ref y1_name, .ref y1_parent, .ref y1_side, .ref y1_from, .ref y1_width, .ref y1_height, .ref y1_radius, .ref y1_toolSet])), (y1_toolSet, .inl (g.2.1.1, 9, .inl f_y1_toolSet)), (h0_kind, .inl (g.2.1.1, 9, .inl fn10901)), (h0_reach, .inl (g.2.1.2.1, 256, .inl f_h0_reach)), (h0_room, .inl (g.2.1.1, 2048, .inl f_h0_room)), (h0_ways, .inl (g.2.1.1, 256, .inl f_h0_ways)), (h0_switches, .inl (g.2.1.1, 2048, .inl fn15629))] H → va_D A [(h0, .inr (3, [.ref h0_room, .ref h0_clashing, .ref h0_reach, .ref h0_ways, .ref h0_switches, .ref h0_kind, .ref h0_best, .ref h0_row, .int h0_rowLength, .int h0_bends, .int h0_full, .int h0_first, .int h0_punch])), (y1, .inr (4, [.int y1_count, .int y1_statements, .int y1_thick, .int y1_punch, .int y1_ups, .int y1_toolCount, .ref y1_toolWidth, .ref y1_told, .ref y1_name, .ref y1_parent, .ref y1_side, .ref y1_from, .ref y1_width, .ref y1_height, .ref y1_radius, .ref y1_toolSet])), (y1_toolSet, .inl (g.2.1.1, 9, .inl f_y1_toolSet)), (h0_kind, .inl (g.2.1.1, 9, .inl fn10901)), (h0_reach, .inl (g.2.1.2.1, 256, .inl f_h0_reach)), (h0_room, .inl (g.2.1.1, 2048, .inl f_h0_room)), (h0_ways, .inl (g.2.1.1, 256, .inl f_h0_ways)), (h0_switches, .inl (g.2.1.1, 2048, .inl fn15629))] → va_S A s.heap H locs → lv_has ls 5 [(0, .ref h0), (1, .ref y1), (2, .int x2), (3, .int v14550), (4, .int v15628)] → W p l e rm_kX3_countSwitches s m args below meth c H locs 0 0 Q (F0 m 134 ls []) := by
                    intro  H locs ls  hP hD hS hl
                    obtain ⟨z15733, e15734⟩ : ∃ y9 : Int32, y9 = v14550 + (-1) := ⟨_, rfl⟩
                    have f15735 : z15733.toInt = v14550.toInt + (-1) := za e15734 (rfl : v14550.toInt = _) (show (-1 : Int32).toInt = (-1 : Int) from by decide) (ox_312 (zr h0_first) (zr v14550) c15160i hy3 i15158)
                    refine lv_iinc (v := z15733) (lv' := [(3, .int z15733), (0, .ref h0), (1, .ref y1), (2, .int x2), (4, .int v15628)]) hx hb dX3_countSwitches_134 hl (k := 3) rfl (by rw [e15734]; rfl) (by decide) rfl (fun ls hl => ?_)
                    refine lv_goto (tgt := 60) hx hb dX3_countSwitches_137 (by decide) ?_
                    exact ih15157 z15733 fn15629 H locs ls (ox_313 c15160i f15735 hy3 i15158) (zdec hm15159 (ox_314 c15160i f15735 hy3 i15158)) hP hD hS (lv_sub hl [1, 2, 3, 0] rfl)
                  refine lv_icmp_gt (tgt := 134) hx hb dX3_countSwitches_77 (by decide) (fun c15736 => ?_) (fun c15736 => ?_)
                  · skip
                    have c15736i : h0_bends.toInt < v15628.toInt := (zc_lt (rfl : h0_bends.toInt = _) (rfl : v15628.toInt = _)).mp c15736
                    exact J15732 H locs ls  hP hD hS (lv_sub hl [0, 1, 2, 3, 4] rfl)
                  · skip
                    have c15736i : ¬ (h0_bends.toInt < v15628.toInt) := fun q => c15736 ((zc_lt (rfl : h0_bends.toInt = _) (rfl : v15628.toInt = _)).mpr q)
                    refine lv_aload_n hx hb dX3_countSwitches_80 rfl (lv_at hl 0 rfl) ?_
                    refine lv_iload_n hx hb dX3_countSwitches_81 rfl (lv_at hl 3 rfl) ?_
                    refine zfi (wr := [(y1, .inr (4, [.int y1_count, .int y1_statements, .int y1_thick, .int y1_punch, .int y1_ups, .int y1_toolCount, .ref y1_toolWidth, .ref y1_told, .ref y1_name, .ref y1_parent, .ref y1_side, .ref y1_from, .ref y1_width, .ref y1_height, .ref y1_radius, .ref y1_toolSet])), (y1_toolSet, .inl (g.2.1.1, 9, .inl f_y1_toolSet)), (h0_kind, .inl (g.2.1.1, 9, .inl fn10901)), (h0_room, .inl (g.2.1.1, 2048, .inl f_h0_room)), (h0_ways, .inl (g.2.1.1, 256, .inl f_h0_ways)), (h0_switches, .inl (g.2.1.1, 2048, .inl fn15629))]) (va_runV (As := [.int v14550]) (rest := []) ⟨hx, hb, hml, hown, hG⟩ (kX3_isReached l g h0 v14550 h0_room h0_clashing h0_reach h0_ways h0_switches h0_kind h0_best h0_row h0_rowLength h0_bends h0_full h0_first h0_punch f_h0_reach (ox_315 c15160i hy3 i15158) (ox_1 hy0) (ox_316 c13342i c15736i hy1 i13340 i15699) (ox_228 hy2) (ox_317 c15160i hy3 i15158) _) ⟨callB_of 1 hG (zGood wc_X3_isReached) rfl rfl rfl (hG _ wini_X3) (hG _ wm_X3_101) hX3_isReached ⟨Nat.le_of_ble_eq_true rfl, Nat.le_of_ble_eq_true rfl⟩, hG _ wi_X3_isReached, hG _ wse_X3_X3_isReached⟩ (zpreV (va_recv hX.1 hP (ci := 3) (q0 := 0) rfl rfl) hX hP hD hS hA [0, 4] rfl (by decide)) rfl rfl hl.1 rfl (lv_room (Nat.le_of_ble_eq_true rfl)) dX3_countSwitches_82 ⟨Nat.le_of_ble_eq_true rfl, Nat.le_of_ble_eq_true rfl⟩) hP hD hS hA [0, 4] [1, 2, 3, 5, 6, 7] rfl rfl (by decide) (by decide) (fun r15737 _ H locs hp hP hD hS => ?_)
                    refine W.cs (cells' := 0) (slots' := 0) rfl rfl ?_
                    have hq15738 : 0 ≤ r15737.toInt ∧ r15737.toInt ≤ 1 := hp
                    have hP : va_P g.1 vwCl [(y1, .inr (4, [.int y1_count, .int y1_statements, .int y1_thick, .int y1_punch, .int y1_ups, .int y1_toolCount, .ref y1_toolWidth, .ref y1_told, .ref y1_name, .ref y1_parent, .ref y1_side, .ref y1_from, .ref y1_width, .ref y1_height, .ref y1_radius, .ref y1_toolSet])), (y1_toolSet, .inl (g.2.1.1, 9, .inl f_y1_toolSet)), (h0_kind, .inl (g.2.1.1, 9, .inl fn10901)), (h0_room, .inl (g.2.1.1, 2048, .inl f_h0_room)), (h0_ways, .inl (g.2.1.1, 256, .inl f_h0_ways)), (h0_switches, .inl (g.2.1.1, 2048, .inl fn15629)), (h0, .inr (3, [.ref h0_room, .ref h0_clashing, .ref h0_reach, .ref h0_ways, .ref h0_switches, .ref h0_kind, .ref h0_best, .ref h0_row, .int h0_rowLength, .int h0_bends, .int h0_full, .int h0_first, .int h0_punch])), (h0_reach, .inl (g.2.1.2.1, 256, .inl f_h0_reach))] H := hP
                    have hD : va_D A [(y1, .inr (4, [.int y1_count, .int y1_statements, .int y1_thick, .int y1_punch, .int y1_ups, .int y1_toolCount, .ref y1_toolWidth, .ref y1_told, .ref y1_name, .ref y1_parent, .ref y1_side, .ref y1_from, .ref y1_width, .ref y1_height, .ref y1_radius, .ref y1_toolSet])), (y1_toolSet, .inl (g.2.1.1, 9, .inl f_y1_toolSet)), (h0_kind, .inl (g.2.1.1, 9, .inl fn10901)), (h0_room, .inl (g.2.1.1, 2048, .inl f_h0_room)), (h0_ways, .inl (g.2.1.1, 256, .inl f_h0_ways)), (h0_switches, .inl (g.2.1.1, 2048, .inl fn15629)), (h0, .inr (3, [.ref h0_room, .ref h0_clashing, .ref h0_reach, .ref h0_ways, .ref h0_switches, .ref h0_kind, .ref h0_best, .ref h0_row, .int h0_rowLength, .int h0_bends, .int h0_full, .int h0_first, .int h0_punch])), (h0_reach, .inl (g.2.1.2.1, 256, .inl f_h0_reach))] := hD
                    refine lv_if_eq (tgt := 134) hx hb dX3_countSwitches_85 (by decide) (fun c15739 => ?_) (fun c15739 => ?_)
                    · skip
                      have c15739i : r15737.toInt = (0 : Int) := (zc_eq (rfl : r15737.toInt = _) (show (0 : Int32).toInt = (0 : Int) from by decide)).mp c15739
                      exact J15732 H locs ls  (hP.sub [6, 0, 1, 2, 7, 3, 4, 5] rfl) (hD.sub [6, 0, 1, 2, 7, 3, 4, 5] (by decide) rfl) hS (lv_sub hl [0, 1, 2, 3, 4] rfl)
                    · skip
                      have c15739i : ¬ (r15737.toInt = (0 : Int)) := fun q => c15739 ((zc_eq (rfl : r15737.toInt = _) (show (0 : Int32).toInt = (0 : Int) from by decide)).mpr q)
                      refine lv_aload_n hx hb dX3_countSwitches_88 rfl (lv_at hl 0 rfl) ?_
                      refine va_get (D := g.1) (ci := 3) (v := .ref h0_switches) (C := RX3) (T := TX3) (N := 13) hx hb hG iX3 hown hX.1 hP 6 rfl rfl 4 (by decide) (hG _ wf_X3_25) (fun _ h9 => h9) rfl dX3_countSwitches_89 ?_
                      refine lv_iload_n hx hb dX3_countSwitches_92 rfl (lv_at hl 3 rfl) ?_
                      refine lv_iload hx hb dX3_countSwitches_93 (lv_at hl 4 rfl) ?_
                      refine zfi (wr := [(y1, .inr (4, [.int y1_count, .int y1_statements, .int y1_thick, .int y1_punch, .int y1_ups, .int y1_toolCount, .ref y1_toolWidth, .ref y1_told, .ref y1_name, .ref y1_parent, .ref y1_side, .ref y1_from, .ref y1_width, .ref y1_height, .ref y1_radius, .ref y1_toolSet])), (y1_toolSet, .inl (g.2.1.1, 9, .inl f_y1_toolSet)), (h0_kind, .inl (g.2.1.1, 9, .inl fn10901)), (h0_room, .inl (g.2.1.1, 2048, .inl f_h0_room)), (h0_ways, .inl (g.2.1.1, 256, .inl f_h0_ways)), (h0_switches, .inl (g.2.1.1, 2048, .inl fn15629)), (h0, .inr (3, [.ref h0_room, .ref h0_clashing, .ref h0_reach, .ref h0_ways, .ref h0_switches, .ref h0_kind, .ref h0_best, .ref h0_row, .int h0_rowLength, .int h0_bends, .int h0_full, .int h0_first, .int h0_punch])), (h0_reach, .inl (g.2.1.2.1, 256, .inl f_h0_reach))]) (va_runS (As := [.int v14550, .int v15628]) (rest := [.ref h0_switches]) ⟨hx, hb, hml, hown, hG⟩ (kX3_cell l g v14550 v15628 (ox_315 c15160i hy3 i15158) (ox_318 c13342i c15736i hy1 i13340 i15699) _) ⟨callB_of 2 hG (zGood wc_X3_cell) rfl rfl rfl (hG _ wini_X3) (hG _ wm_X3_74) hX3_cell ⟨Nat.le_of_ble_eq_true rfl, Nat.le_of_ble_eq_true rfl⟩, hG _ ws_X3_cell⟩ (zpreS hX hP hD hS hA [] rfl (by decide)) rfl rfl hl.1 rfl (lv_room (Nat.le_of_ble_eq_true rfl)) dX3_countSwitches_95 ⟨Nat.le_of_ble_eq_true rfl, Nat.le_of_ble_eq_true rfl⟩) hP hD hS hA [] [0, 1, 2, 3, 4, 5, 6, 7] rfl rfl (by decide) (by decide) (fun r15740 _ H locs hp hP hD hS => ?_)
                      refine W.cs (cells' := 0) (slots' := 0) rfl rfl ?_
                      have hq15741 : 0 ≤ r15740.toInt ∧ r15740.toInt ≤ 2047 := hp
                      have hP : va_P g.1 vwCl [(y1, .inr (4, [.int y1_count, .int y1_statements, .int y1_thick, .int y1_punch, .int y1_ups, .int y1_toolCount, .ref y1_toolWidth, .ref y1_told, .ref y1_name, .ref y1_parent, .ref y1_side, .ref y1_from, .ref y1_width, .ref y1_height, .ref y1_radius, .ref y1_toolSet])), (y1_toolSet, .inl (g.2.1.1, 9, .inl f_y1_toolSet)), (h0_kind, .inl (g.2.1.1, 9, .inl fn10901)), (h0_room, .inl (g.2.1.1, 2048, .inl f_h0_room)), (h0_ways, .inl (g.2.1.1, 256, .inl f_h0_ways)), (h0_switches, .inl (g.2.1.1, 2048, .inl fn15629)), (h0, .inr (3, [.ref h0_room, .ref h0_clashing, .ref h0_reach, .ref h0_ways, .ref h0_switches, .ref h0_kind, .ref h0_best, .ref h0_row, .int h0_rowLength, .int h0_bends, .int h0_full, .int h0_first, .int h0_punch])), (h0_reach, .inl (g.2.1.2.1, 256, .inl f_h0_reach))] H := hP
                      have hD : va_D A [(y1, .inr (4, [.int y1_count, .int y1_statements, .int y1_thick, .int y1_punch, .int y1_ups, .int y1_toolCount, .ref y1_toolWidth, .ref y1_told, .ref y1_name, .ref y1_parent, .ref y1_side, .ref y1_from, .ref y1_width, .ref y1_height, .ref y1_radius, .ref y1_toolSet])), (y1_toolSet, .inl (g.2.1.1, 9, .inl f_y1_toolSet)), (h0_kind, .inl (g.2.1.1, 9, .inl fn10901)), (h0_room, .inl (g.2.1.1, 2048, .inl f_h0_room)), (h0_ways, .inl (g.2.1.1, 256, .inl f_h0_ways)), (h0_switches, .inl (g.2.1.1, 2048, .inl fn15629)), (h0, .inr (3, [.ref h0_room, .ref h0_clashing, .ref h0_reach, .ref h0_ways, .ref h0_switches, .ref h0_kind, .ref h0_best, .ref h0_row, .int h0_rowLength, .int h0_bends, .int h0_full, .int h0_first, .int h0_punch])), (h0_reach, .inl (g.2.1.2.1, 256, .inl f_h0_reach))] := hD
                      refine lv_aload_n hx hb dX3_countSwitches_98 rfl (lv_at hl 0 rfl) ?_
                      refine lv_iload_n hx hb dX3_countSwitches_99 rfl (lv_at hl 3 rfl) ?_
                      refine lv_iload hx hb dX3_countSwitches_100 (lv_at hl 4 rfl) ?_
                      refine zfi (wr := [(y1, .inr (4, [.int y1_count, .int y1_statements, .int y1_thick, .int y1_punch, .int y1_ups, .int y1_toolCount, .ref y1_toolWidth, .ref y1_told, .ref y1_name, .ref y1_parent, .ref y1_side, .ref y1_from, .ref y1_width, .ref y1_height, .ref y1_radius, .ref y1_toolSet])), (y1_toolSet, .inl (g.2.1.1, 9, .inl f_y1_toolSet)), (h0_kind, .inl (g.2.1.1, 9, .inl fn10901)), (h0_switches, .inl (g.2.1.1, 2048, .inl fn15629)), (h0_reach, .inl (g.2.1.2.1, 256, .inl f_h0_reach))]) (va_runV (As := [.int v14550, .int v15628]) (rest := [.int r15740, .ref h0_switches]) ⟨hx, hb, hml, hown, hG⟩ (kX3_goesOn l g h0 v14550 v15628 h0_room h0_clashing h0_reach h0_ways h0_switches h0_kind h0_best h0_row h0_rowLength h0_bends h0_full h0_first h0_punch f_h0_room f_h0_ways (ox_315 c15160i hy3 i15158) (ox_318 c13342i c15736i hy1 i13340 i15699) (ox_1 hy0) (ox_316 c13342i c15736i hy1 i13340 i15699) (ox_228 hy2) (ox_317 c15160i hy3 i15158) _) ⟨callB_of 2 hG (zGood wc_X3_goesOn) rfl rfl rfl (hG _ wini_X3) (hG _ wm_X3_117) hX3_goesOn ⟨Nat.le_of_ble_eq_true rfl, Nat.le_of_ble_eq_true rfl⟩, hG _ wi_X3_goesOn, hG _ wse_X3_X3_goesOn⟩ (zpreV (va_recv hX.1 hP (ci := 3) (q0 := 6) rfl rfl) hX hP hD hS hA [6, 3, 4] rfl (by decide)) rfl rfl hl.1 rfl (lv_room (Nat.le_of_ble_eq_true rfl)) dX3_countSwitches_102 ⟨Nat.le_of_ble_eq_true rfl, Nat.le_of_ble_eq_true rfl⟩) hP hD hS hA [6, 3, 4] [0, 1, 2, 5, 7] rfl rfl (by decide) (by decide) (fun r15742 _ H locs hp hP hD hS => ?_)
                      refine W.cs (cells' := 0) (slots' := 0) rfl rfl ?_
                      have hq15743 : 0 ≤ r15742.toInt ∧ r15742.toInt ≤ 1 := hp
                      have hP : va_P g.1 vwCl [(y1, .inr (4, [.int y1_count, .int y1_statements, .int y1_thick, .int y1_punch, .int y1_ups, .int y1_toolCount, .ref y1_toolWidth, .ref y1_told, .ref y1_name, .ref y1_parent, .ref y1_side, .ref y1_from, .ref y1_width, .ref y1_height, .ref y1_radius, .ref y1_toolSet])), (y1_toolSet, .inl (g.2.1.1, 9, .inl f_y1_toolSet)), (h0_kind, .inl (g.2.1.1, 9, .inl fn10901)), (h0_switches, .inl (g.2.1.1, 2048, .inl fn15629)), (h0_reach, .inl (g.2.1.2.1, 256, .inl f_h0_reach)), (h0, .inr (3, [.ref h0_room, .ref h0_clashing, .ref h0_reach, .ref h0_ways, .ref h0_switches, .ref h0_kind, .ref h0_best, .ref h0_row, .int h0_rowLength, .int h0_bends, .int h0_full, .int h0_first, .int h0_punch])), (h0_room, .inl (g.2.1.1, 2048, .inl f_h0_room)), (h0_ways, .inl (g.2.1.1, 256, .inl f_h0_ways))] H := hP
                      have hD : va_D A [(y1, .inr (4, [.int y1_count, .int y1_statements, .int y1_thick, .int y1_punch, .int y1_ups, .int y1_toolCount, .ref y1_toolWidth, .ref y1_told, .ref y1_name, .ref y1_parent, .ref y1_side, .ref y1_from, .ref y1_width, .ref y1_height, .ref y1_radius, .ref y1_toolSet])), (y1_toolSet, .inl (g.2.1.1, 9, .inl f_y1_toolSet)), (h0_kind, .inl (g.2.1.1, 9, .inl fn10901)), (h0_switches, .inl (g.2.1.1, 2048, .inl fn15629)), (h0_reach, .inl (g.2.1.2.1, 256, .inl f_h0_reach)), (h0, .inr (3, [.ref h0_room, .ref h0_clashing, .ref h0_reach, .ref h0_ways, .ref h0_switches, .ref h0_kind, .ref h0_best, .ref h0_row, .int h0_rowLength, .int h0_bends, .int h0_full, .int h0_first, .int h0_punch])), (h0_room, .inl (g.2.1.1, 2048, .inl f_h0_room)), (h0_ways, .inl (g.2.1.1, 256, .inl f_h0_ways))] := hD
                      have J15753 : ∀  (v15752 : Int32) (H : Heap) (locs : List Loc) (ls : Array Slot), (-2147483648) ≤ v15752.toInt ∧ v15752.toInt ≤ 1000 → va_P g.1 vwCl [(y1, .inr (4, [.int y1_count, .int y1_statements, .int y1_thick, .int y1_punch, .int y1_ups, .int y1_toolCount, .ref y1_toolWidth, .ref y1_told, .ref y1_name, .ref y1_parent, .ref y1_side, .ref y1_from, .ref y1_width, .ref y1_height, .ref y1_radius, .ref y1_toolSet])), (y1_toolSet, .inl (g.2.1.1, 9, .inl f_y1_toolSet)), (h0_kind, .inl (g.2.1.1, 9, .inl fn10901)), (h0_switches, .inl (g.2.1.1, 2048, .inl fn15629)), (h0_reach, .inl (g.2.1.2.1, 256, .inl f_h0_reach)), (h0, .inr (3, [.ref h0_room, .ref h0_clashing, .ref h0_reach, .ref h0_ways, .ref h0_switches, .ref h0_kind, .ref h0_best, .ref h0_row, .int h0_rowLength, .int h0_bends, .int h0_full, .int h0_first, .int h0_punch])), (h0_room, .inl (g.2.1.1, 2048, .inl f_h0_room)), (h0_ways, .inl (g.2.1.1, 256, .inl f_h0_ways))] H → va_D A [(y1, .inr (4, [.int y1_count, .int y1_statements, .int y1_thick, .int y1_punch, .int y1_ups, .int y1_toolCount, .ref y1_toolWidth, .ref y1_told, .ref y1_name, .ref y1_parent, .ref y1_side, .ref y1_from, .ref y1_width, .ref y1_height, .ref y1_radius, .ref y1_toolSet])), (y1_toolSet, .inl (g.2.1.1, 9, .inl f_y1_toolSet)), (h0_kind, .inl (g.2.1.1, 9, .inl fn10901)), (h0_switches, .inl (g.2.1.1, 2048, .inl fn15629)), (h0_reach, .inl (g.2.1.2.1, 256, .inl f_h0_reach)), (h0, .inr (3, [.ref h0_room, .ref h0_clashing, .ref h0_reach, .ref h0_ways, .ref h0_switches, .ref h0_kind, .ref h0_best, .ref h0_row, .int h0_rowLength, .int h0_bends, .int h0_full, .int h0_first, .int h0_punch])), (h0_room, .inl (g.2.1.1, 2048, .inl f_h0_room)), (h0_ways, .inl (g.2.1.1, 256, .inl f_h0_ways))] → va_S A s.heap H locs → lv_has ls 5 [(0, .ref h0), (1, .ref y1), (2, .int x2), (3, .int v14550), (4, .int v15628)] → W p l e rm_kX3_countSwitches s m args below meth c H locs 0 0 Q (F0 m 127 ls [.int v15752, .int r15740, .ref h0_switches]) := by
                        intro v15752 H locs ls i15754 hP hD hS hl
                        refine va_iast hx hb hX.1 hP hD hS 3 0 rfl rfl (zin (rfl : r15740.toInt = _) (ox_229 hq15741)) dX3_countSwitches_127 (fun H locs hP hD hS => ?_)
                        obtain ⟨f15755, e15756⟩ : ∃ z9 : Nat → Int32, z9 = upd fn15629 r15740.toNatClampNeg v15752 := ⟨_, rfl⟩
                        rw [← e15756] at hP hD
                        have hP : va_P g.1 vwCl [(y1, .inr (4, [.int y1_count, .int y1_statements, .int y1_thick, .int y1_punch, .int y1_ups, .int y1_toolCount, .ref y1_toolWidth, .ref y1_told, .ref y1_name, .ref y1_parent, .ref y1_side, .ref y1_from, .ref y1_width, .ref y1_height, .ref y1_radius, .ref y1_toolSet])), (y1_toolSet, .inl (g.2.1.1, 9, .inl f_y1_toolSet)), (h0_kind, .inl (g.2.1.1, 9, .inl fn10901)), (h0_switches, .inl (g.2.1.1, 2048, .inl f15755)), (h0_reach, .inl (g.2.1.2.1, 256, .inl f_h0_reach)), (h0, .inr (3, [.ref h0_room, .ref h0_clashing, .ref h0_reach, .ref h0_ways, .ref h0_switches, .ref h0_kind, .ref h0_best, .ref h0_row, .int h0_rowLength, .int h0_bends, .int h0_full, .int h0_first, .int h0_punch])), (h0_room, .inl (g.2.1.1, 2048, .inl f_h0_room)), (h0_ways, .inl (g.2.1.1, 256, .inl f_h0_ways))] H := hP
                        have hD : va_D A [(y1, .inr (4, [.int y1_count, .int y1_statements, .int y1_thick, .int y1_punch, .int y1_ups, .int y1_toolCount, .ref y1_toolWidth, .ref y1_told, .ref y1_name, .ref y1_parent, .ref y1_side, .ref y1_from, .ref y1_width, .ref y1_height, .ref y1_radius, .ref y1_toolSet])), (y1_toolSet, .inl (g.2.1.1, 9, .inl f_y1_toolSet)), (h0_kind, .inl (g.2.1.1, 9, .inl fn10901)), (h0_switches, .inl (g.2.1.1, 2048, .inl f15755)), (h0_reach, .inl (g.2.1.2.1, 256, .inl f_h0_reach)), (h0, .inr (3, [.ref h0_room, .ref h0_clashing, .ref h0_reach, .ref h0_ways, .ref h0_switches, .ref h0_kind, .ref h0_best, .ref h0_row, .int h0_rowLength, .int h0_bends, .int h0_full, .int h0_first, .int h0_punch])), (h0_room, .inl (g.2.1.1, 2048, .inl f_h0_room)), (h0_ways, .inl (g.2.1.1, 256, .inl f_h0_ways))] := hD
                        obtain ⟨z15757, e15758⟩ : ∃ y9 : Int32, y9 = v15628 + 1 := ⟨_, rfl⟩
                        have f15759 : z15757.toInt = v15628.toInt + 1 := za e15758 (rfl : v15628.toInt = _) (show (1 : Int32).toInt = (1 : Int) from by decide) (ox_319 (zr h0_bends) (zr v10900) (zr v15628) c13342i c15736i hy1 i13340 i15699)
                        refine lv_iinc (v := z15757) (lv' := [(4, .int z15757), (0, .ref h0), (1, .ref y1), (2, .int x2), (3, .int v14550)]) hx hb dX3_countSwitches_128 hl (k := 4) rfl (by rw [e15758]; rfl) (by decide) rfl (fun ls hl => ?_)
                        refine lv_goto (tgt := 71) hx hb dX3_countSwitches_131 (by decide) ?_
                        exact ih15698 z15757 f15755 H locs ls (ox_320 c13342i c15736i f15759 hy1 i13340 i15699) (zdec hm15700 (ox_321 c13342i c15736i f15759 hy1 i13340 i15699)) (hP.sub [5, 0, 1, 2, 4, 6, 7, 3] rfl) (hD.sub [5, 0, 1, 2, 4, 6, 7, 3] (by decide) rfl) hS (lv_sub hl [1, 2, 3, 4, 0] rfl)
                      refine lv_if_eq (tgt := 124) hx hb dX3_countSwitches_105 (by decide) (fun c15760 => ?_) (fun c15760 => ?_)
                      · skip
                        have c15760i : r15742.toInt = (0 : Int) := (zc_eq (rfl : r15742.toInt = _) (show (0 : Int32).toInt = (0 : Int) from by decide)).mp c15760
                        refine lv_sipush (v := 1000) hx hb dX3_countSwitches_124 (by decide) ?_
                        exact J15753 (1000 : Int32) H locs ls ((show (-2147483648) ≤ (1000 : Int) ∧ (1000 : Int) ≤ 1000 from by decide)) hP hD hS (lv_sub hl [0, 1, 2, 3, 4] rfl)
                      · skip
                        have c15760i : ¬ (r15742.toInt = (0 : Int)) := fun q => c15760 ((zc_eq (rfl : r15742.toInt = _) (show (0 : Int32).toInt = (0 : Int) from by decide)).mpr q)
                        refine lv_aload_n hx hb dX3_countSwitches_108 rfl (lv_at hl 0 rfl) ?_
                        refine lv_iload_n hx hb dX3_countSwitches_109 rfl (lv_at hl 3 rfl) ?_
                        refine lv_iload hx hb dX3_countSwitches_110 (lv_at hl 4 rfl) ?_
                        refine zfi (wr := [(y1, .inr (4, [.int y1_count, .int y1_statements, .int y1_thick, .int y1_punch, .int y1_ups, .int y1_toolCount, .ref y1_toolWidth, .ref y1_told, .ref y1_name, .ref y1_parent, .ref y1_side, .ref y1_from, .ref y1_width, .ref y1_height, .ref y1_radius, .ref y1_toolSet])), (y1_toolSet, .inl (g.2.1.1, 9, .inl f_y1_toolSet)), (h0_kind, .inl (g.2.1.1, 9, .inl fn10901)), (h0_switches, .inl (g.2.1.1, 2048, .inl fn15629)), (h0_reach, .inl (g.2.1.2.1, 256, .inl f_h0_reach)), (h0, .inr (3, [.ref h0_room, .ref h0_clashing, .ref h0_reach, .ref h0_ways, .ref h0_switches, .ref h0_kind, .ref h0_best, .ref h0_row, .int h0_rowLength, .int h0_bends, .int h0_full, .int h0_first, .int h0_punch])), (h0_room, .inl (g.2.1.1, 2048, .inl f_h0_room)), (h0_ways, .inl (g.2.1.1, 256, .inl f_h0_ways))]) (va_runSN (As := [.int v15628]) (rest := [.int v14550, .ref h0, .int r15740, .ref h0_switches]) ⟨hx, hb, hml, hown, hG⟩ (kX8_bitb l g v15628 (ox_318 c13342i c15736i hy1 i13340 i15699) _) ⟨va_cnB 1 hG (zGood wc_X8_bit) rfl rfl rfl (hX.2.1.ml wmn_X3_70) (hG _ wini_X8) hX8_bit ⟨Nat.le_of_ble_eq_true rfl, Nat.le_of_ble_eq_true rfl⟩, hG _ ws_X8_bit, trivial⟩ (zpreS hX hP hD hS hA [] rfl (by decide)) rfl rfl hl.1 rfl (lv_room (Nat.le_of_ble_eq_true rfl)) dX3_countSwitches_112 ⟨Nat.le_of_ble_eq_true rfl, Nat.le_of_ble_eq_true rfl⟩) hP hD hS hA [] [0, 1, 2, 3, 4, 5, 6, 7] rfl rfl (by decide) (by decide) (fun r15761 _ H locs hp hP hD hS => ?_)
                        refine W.cs (cells' := 0) (slots' := 0) rfl rfl ?_
                        have hq15762 : 1 ≤ r15761.toInt ∧ r15761.toInt ≤ 128 := hp
                        have hP : va_P g.1 vwCl [(y1, .inr (4, [.int y1_count, .int y1_statements, .int y1_thick, .int y1_punch, .int y1_ups, .int y1_toolCount, .ref y1_toolWidth, .ref y1_told, .ref y1_name, .ref y1_parent, .ref y1_side, .ref y1_from, .ref y1_width, .ref y1_height, .ref y1_radius, .ref y1_toolSet])), (y1_toolSet, .inl (g.2.1.1, 9, .inl f_y1_toolSet)), (h0_kind, .inl (g.2.1.1, 9, .inl fn10901)), (h0_switches, .inl (g.2.1.1, 2048, .inl fn15629)), (h0_reach, .inl (g.2.1.2.1, 256, .inl f_h0_reach)), (h0, .inr (3, [.ref h0_room, .ref h0_clashing, .ref h0_reach, .ref h0_ways, .ref h0_switches, .ref h0_kind, .ref h0_best, .ref h0_row, .int h0_rowLength, .int h0_bends, .int h0_full, .int h0_first, .int h0_punch])), (h0_room, .inl (g.2.1.1, 2048, .inl f_h0_room)), (h0_ways, .inl (g.2.1.1, 256, .inl f_h0_ways))] H := hP
                        have hD : va_D A [(y1, .inr (4, [.int y1_count, .int y1_statements, .int y1_thick, .int y1_punch, .int y1_ups, .int y1_toolCount, .ref y1_toolWidth, .ref y1_told, .ref y1_name, .ref y1_parent, .ref y1_side, .ref y1_from, .ref y1_width, .ref y1_height, .ref y1_radius, .ref y1_toolSet])), (y1_toolSet, .inl (g.2.1.1, 9, .inl f_y1_toolSet)), (h0_kind, .inl (g.2.1.1, 9, .inl fn10901)), (h0_switches, .inl (g.2.1.1, 2048, .inl fn15629)), (h0_reach, .inl (g.2.1.2.1, 256, .inl f_h0_reach)), (h0, .inr (3, [.ref h0_room, .ref h0_clashing, .ref h0_reach, .ref h0_ways, .ref h0_switches, .ref h0_kind, .ref h0_best, .ref h0_row, .int h0_rowLength, .int h0_bends, .int h0_full, .int h0_first, .int h0_punch])), (h0_room, .inl (g.2.1.1, 2048, .inl f_h0_room)), (h0_ways, .inl (g.2.1.1, 256, .inl f_h0_ways))] := hD
                        refine lv_ior hx hb dX3_countSwitches_115 ?_
                        refine lv_topi (fun z15763 e15764 => ?_)
                        have f15765 : 0 ≤ z15763.toInt ∧ z15763.toInt < 256 := zor 8 e15764 (rfl : v14550.toInt = _) (rfl : r15761.toInt = _) (by decide) (ox_322 c15160i hq15762 hy3 i15158)
                        refine lv_iload hx hb dX3_countSwitches_116 (lv_at hl 4 rfl) ?_
                        refine zfi (wr := [(y1, .inr (4, [.int y1_count, .int y1_statements, .int y1_thick, .int y1_punch, .int y1_ups, .int y1_toolCount, .ref y1_toolWidth, .ref y1_told, .ref y1_name, .ref y1_parent, .ref y1_side, .ref y1_from, .ref y1_width, .ref y1_height, .ref y1_radius, .ref y1_toolSet])), (y1_toolSet, .inl (g.2.1.1, 9, .inl f_y1_toolSet)), (h0_reach, .inl (g.2.1.2.1, 256, .inl f_h0_reach))]) (va_runV (As := [.int z15763, .int v15628]) (rest := [.int r15740, .ref h0_switches]) ⟨hx, hb, hml, hown, hG⟩ (kX3_leastFrom l g h0 z15763 v15628 h0_room h0_clashing h0_reach h0_ways h0_switches h0_kind h0_best h0_row h0_rowLength h0_bends h0_full h0_first h0_punch f_h0_room f_h0_ways fn10901 fn15629 (ox_277 f15765) (ox_323 c13342i c15736i hy1 i13340 i15699) (ox_1 hy0) (ox_316 c13342i c15736i hy1 i13340 i15699) (ox_228 hy2) (ox_317 c15160i hy3 i15158) _) ⟨callB_of 2 hG (zGood wc_X3_leastFrom) rfl rfl rfl (hG _ wini_X3) (hG _ wm_X3_134) hX3_leastFrom ⟨Nat.le_of_ble_eq_true rfl, Nat.le_of_ble_eq_true rfl⟩, hG _ wi_X3_leastFrom, hG _ wse_X3_X3_leastFrom⟩ (zpreV (va_recv hX.1 hP (ci := 3) (q0 := 5) rfl rfl) hX hP hD hS hA [5, 6, 7, 2, 3] rfl (by decide)) rfl rfl hl.1 rfl (lv_room (Nat.le_of_ble_eq_true rfl)) dX3_countSwitches_118 ⟨Nat.le_of_ble_eq_true rfl, Nat.le_of_ble_eq_true rfl⟩) hP hD hS hA [5, 6, 7, 2, 3] [0, 1, 4] rfl rfl (by decide) (by decide) (fun r15766 _ H locs hp hP hD hS => ?_)
                        refine W.cs (cells' := 0) (slots' := 0) rfl rfl ?_
                        have hq15767 : (-2147483648) ≤ r15766.toInt ∧ r15766.toInt ≤ 1000 := hp
                        have hP : va_P g.1 vwCl [(y1, .inr (4, [.int y1_count, .int y1_statements, .int y1_thick, .int y1_punch, .int y1_ups, .int y1_toolCount, .ref y1_toolWidth, .ref y1_told, .ref y1_name, .ref y1_parent, .ref y1_side, .ref y1_from, .ref y1_width, .ref y1_height, .ref y1_radius, .ref y1_toolSet])), (y1_toolSet, .inl (g.2.1.1, 9, .inl f_y1_toolSet)), (h0_reach, .inl (g.2.1.2.1, 256, .inl f_h0_reach)), (h0, .inr (3, [.ref h0_room, .ref h0_clashing, .ref h0_reach, .ref h0_ways, .ref h0_switches, .ref h0_kind, .ref h0_best, .ref h0_row, .int h0_rowLength, .int h0_bends, .int h0_full, .int h0_first, .int h0_punch])), (h0_room, .inl (g.2.1.1, 2048, .inl f_h0_room)), (h0_ways, .inl (g.2.1.1, 256, .inl f_h0_ways)), (h0_kind, .inl (g.2.1.1, 9, .inl fn10901)), (h0_switches, .inl (g.2.1.1, 2048, .inl fn15629))] H := hP
                        have hD : va_D A [(y1, .inr (4, [.int y1_count, .int y1_statements, .int y1_thick, .int y1_punch, .int y1_ups, .int y1_toolCount, .ref y1_toolWidth, .ref y1_told, .ref y1_name, .ref y1_parent, .ref y1_side, .ref y1_from, .ref y1_width, .ref y1_height, .ref y1_radius, .ref y1_toolSet])), (y1_toolSet, .inl (g.2.1.1, 9, .inl f_y1_toolSet)), (h0_reach, .inl (g.2.1.2.1, 256, .inl f_h0_reach)), (h0, .inr (3, [.ref h0_room, .ref h0_clashing, .ref h0_reach, .ref h0_ways, .ref h0_switches, .ref h0_kind, .ref h0_best, .ref h0_row, .int h0_rowLength, .int h0_bends, .int h0_full, .int h0_first, .int h0_punch])), (h0_room, .inl (g.2.1.1, 2048, .inl f_h0_room)), (h0_ways, .inl (g.2.1.1, 256, .inl f_h0_ways)), (h0_kind, .inl (g.2.1.1, 9, .inl fn10901)), (h0_switches, .inl (g.2.1.1, 2048, .inl fn15629))] := hD
                        refine lv_goto (tgt := 127) hx hb dX3_countSwitches_121 (by decide) ?_
                        exact J15753 r15766 H locs ls (ox_310 (zr r15766) hq15767) (hP.sub [0, 1, 6, 7, 2, 3, 4, 5] rfl) (hD.sub [0, 1, 6, 7, 2, 3, 4, 5] (by decide) rfl) hS (lv_sub hl [0, 1, 2, 3, 4] rfl)
              exact L15696 _ (1 : Int32) fn14551 H locs ls ((show 1 ≤ (1 : Int) ∧ (1 : Int) ≤ 9 from by decide)) (Nat.lt_succ_self _) hP hD hS (lv_sub hl [1, 2, 3, 4, 0] rfl)
        exact L15155 _ h0_full f_h0_switches H locs ls (ox_249 hy2) (Nat.lt_succ_self _) hP hD hS (lv_sub hl [1, 2, 3, 0] rfl)
      · skip
        have c13342i : ¬ (h0_bends.toInt < v10900.toInt) := fun q => c13342 ((zc_lt (rfl : h0_bends.toInt = _) (rfl : v10900.toInt = _)).mpr q)
        refine lv_iload_n hx hb dX3_countSwitches_10 rfl (lv_at hl 3 rfl) ?_
        refine lv_aload_n hx hb dX3_countSwitches_11 rfl (lv_at hl 1 rfl) ?_
        refine va_getN (D := g.1) (ci := 4) (v := .int y1_ups) (C := RX4) (T := TX4) (N := 16) hx hb hG iX4 hown hX.1 hP 1 rfl rfl 4 (by decide) (hX.2.1.fl wfn_X3_131) (fun _ h9 => h9) rfl dX3_countSwitches_12 ?_
        refine zfi (wr := [(h0, .inr (3, [.ref h0_room, .ref h0_clashing, .ref h0_reach, .ref h0_ways, .ref h0_switches, .ref h0_kind, .ref h0_best, .ref h0_row, .int h0_rowLength, .int h0_bends, .int h0_full, .int h0_first, .int h0_punch])), (y1, .inr (4, [.int y1_count, .int y1_statements, .int y1_thick, .int y1_punch, .int y1_ups, .int y1_toolCount, .ref y1_toolWidth, .ref y1_told, .ref y1_name, .ref y1_parent, .ref y1_side, .ref y1_from, .ref y1_width, .ref y1_height, .ref y1_radius, .ref y1_toolSet])), (y1_toolSet, .inl (g.2.1.1, 9, .inl f_y1_toolSet)), (h0_kind, .inl (g.2.1.1, 9, .inl fn10901)), (h0_reach, .inl (g.2.1.2.1, 256, .inl f_h0_reach)), (h0_room, .inl (g.2.1.1, 2048, .inl f_h0_room)), (h0_ways, .inl (g.2.1.1, 256, .inl f_h0_ways)), (h0_switches, .inl (g.2.1.1, 2048, .inl f_h0_switches))]) (va_runSN (As := [.int v10900, .int y1_ups]) (rest := []) ⟨hx, hb, hml, hown, hG⟩ (kX8_isIn l g v10900 y1_ups _) ⟨va_cnB 2 hG (zGood wc_X8_isIn) rfl rfl rfl (hX.2.1.ml wmn_X3_63) (hG _ wini_X8) hX8_isIn ⟨Nat.le_of_ble_eq_true rfl, Nat.le_of_ble_eq_true rfl⟩, hG _ ws_X8_isIn, trivial⟩ (zpreS hX hP hD hS hA [] rfl (by decide)) rfl rfl hl.1 rfl (lv_room (Nat.le_of_ble_eq_true rfl)) dX3_countSwitches_15 ⟨Nat.le_of_ble_eq_true rfl, Nat.le_of_ble_eq_true rfl⟩) hP hD hS hA [] [0, 1, 2, 3, 4, 5, 6, 7] rfl rfl (by decide) (by decide) (fun r15768 _ H locs hp hP hD hS => ?_)
        refine W.cs (cells' := 0) (slots' := 0) rfl rfl ?_
        have hq15769 : 0 ≤ r15768.toInt ∧ r15768.toInt ≤ 1 := hp
        have hP : va_P g.1 vwCl [(h0, .inr (3, [.ref h0_room, .ref h0_clashing, .ref h0_reach, .ref h0_ways, .ref h0_switches, .ref h0_kind, .ref h0_best, .ref h0_row, .int h0_rowLength, .int h0_bends, .int h0_full, .int h0_first, .int h0_punch])), (y1, .inr (4, [.int y1_count, .int y1_statements, .int y1_thick, .int y1_punch, .int y1_ups, .int y1_toolCount, .ref y1_toolWidth, .ref y1_told, .ref y1_name, .ref y1_parent, .ref y1_side, .ref y1_from, .ref y1_width, .ref y1_height, .ref y1_radius, .ref y1_toolSet])), (y1_toolSet, .inl (g.2.1.1, 9, .inl f_y1_toolSet)), (h0_kind, .inl (g.2.1.1, 9, .inl fn10901)), (h0_reach, .inl (g.2.1.2.1, 256, .inl f_h0_reach)), (h0_room, .inl (g.2.1.1, 2048, .inl f_h0_room)), (h0_ways, .inl (g.2.1.1, 256, .inl f_h0_ways)), (h0_switches, .inl (g.2.1.1, 2048, .inl f_h0_switches))] H := hP
        have hD : va_D A [(h0, .inr (3, [.ref h0_room, .ref h0_clashing, .ref h0_reach, .ref h0_ways, .ref h0_switches, .ref h0_kind, .ref h0_best, .ref h0_row, .int h0_rowLength, .int h0_bends, .int h0_full, .int h0_first, .int h0_punch])), (y1, .inr (4, [.int y1_count, .int y1_statements, .int y1_thick, .int y1_punch, .int y1_ups, .int y1_toolCount, .ref y1_toolWidth, .ref y1_told, .ref y1_name, .ref y1_parent, .ref y1_side, .ref y1_from, .ref y1_width, .ref y1_height, .ref y1_radius, .ref y1_toolSet])), (y1_toolSet, .inl (g.2.1.1, 9, .inl f_y1_toolSet)), (h0_kind, .inl (g.2.1.1, 9, .inl fn10901)), (h0_reach, .inl (g.2.1.2.1, 256, .inl f_h0_reach)), (h0_room, .inl (g.2.1.1, 2048, .inl f_h0_room)), (h0_ways, .inl (g.2.1.1, 256, .inl f_h0_ways)), (h0_switches, .inl (g.2.1.1, 2048, .inl f_h0_switches))] := hD
        have J15772 : ∀  (v15771 : Int32) (H : Heap) (locs : List Loc) (ls : Array Slot), 0 ≤ v15771.toInt ∧ v15771.toInt ≤ 1 → va_P g.1 vwCl [(h0, .inr (3, [.ref h0_room, .ref h0_clashing, .ref h0_reach, .ref h0_ways, .ref h0_switches, .ref h0_kind, .ref h0_best, .ref h0_row, .int h0_rowLength, .int h0_bends, .int h0_full, .int h0_first, .int h0_punch])), (y1, .inr (4, [.int y1_count, .int y1_statements, .int y1_thick, .int y1_punch, .int y1_ups, .int y1_toolCount, .ref y1_toolWidth, .ref y1_told, .ref y1_name, .ref y1_parent, .ref y1_side, .ref y1_from, .ref y1_width, .ref y1_height, .ref y1_radius, .ref y1_toolSet])), (y1_toolSet, .inl (g.2.1.1, 9, .inl f_y1_toolSet)), (h0_kind, .inl (g.2.1.1, 9, .inl fn10901)), (h0_reach, .inl (g.2.1.2.1, 256, .inl f_h0_reach)), (h0_room, .inl (g.2.1.1, 2048, .inl f_h0_room)), (h0_ways, .inl (g.2.1.1, 256, .inl f_h0_ways)), (h0_switches, .inl (g.2.1.1, 2048, .inl f_h0_switches))] H → va_D A [(h0, .inr (3, [.ref h0_room, .ref h0_clashing, .ref h0_reach, .ref h0_ways, .ref h0_switches, .ref h0_kind, .ref h0_best, .ref h0_row, .int h0_rowLength, .int h0_bends, .int h0_full, .int h0_first, .int h0_punch])), (y1, .inr (4, [.int y1_count, .int y1_statements, .int y1_thick, .int y1_punch, .int y1_ups, .int y1_toolCount, .ref y1_toolWidth, .ref y1_told, .ref y1_name, .ref y1_parent, .ref y1_side, .ref y1_from, .ref y1_width, .ref y1_height, .ref y1_radius, .ref y1_toolSet])), (y1_toolSet, .inl (g.2.1.1, 9, .inl f_y1_toolSet)), (h0_kind, .inl (g.2.1.1, 9, .inl fn10901)), (h0_reach, .inl (g.2.1.2.1, 256, .inl f_h0_reach)), (h0_room, .inl (g.2.1.1, 2048, .inl f_h0_room)), (h0_ways, .inl (g.2.1.1, 256, .inl f_h0_ways)), (h0_switches, .inl (g.2.1.1, 2048, .inl f_h0_switches))] → va_S A s.heap H locs → lv_has ls 5 [(0, .ref h0), (1, .ref y1), (2, .int x2), (3, .int v10900)] → W p l e rm_kX3_countSwitches s m args below meth c H locs 0 0 Q (F0 m 26 ls [.int v15771]) := by
          intro v15771 H locs ls i15773 hP hD hS hl
          refine lv_istore (lv' := [(4, .int v15771), (0, .ref h0), (1, .ref y1), (2, .int x2), (3, .int v10900)]) hx hb dX3_countSwitches_26 hl (by decide) rfl (fun ls hl => ?_)
          refine lv_aload_n hx hb dX3_countSwitches_28 rfl (lv_at hl 1 rfl) ?_
          refine va_get (D := g.1) (ci := 3) (v := .ref h0_kind) (C := RX3) (T := TX3) (N := 13) hx hb hG iX3 hown hX.1 hP 0 rfl rfl 5 (by decide) (hG _ wf_X3_28) (fun _ h9 => h9) rfl dX3_countSwitches_29 ?_
          refine lv_iload_n hx hb dX3_countSwitches_32 rfl (lv_at hl 4 rfl) ?_
          refine lv_iload_n hx hb dX3_countSwitches_33 rfl (lv_at hl 3 rfl) ?_
          have J15778 : ∀  (v15777 : Int32) (H : Heap) (locs : List Loc) (ls : Array Slot), va_P g.1 vwCl [(h0, .inr (3, [.ref h0_room, .ref h0_clashing, .ref h0_reach, .ref h0_ways, .ref h0_switches, .ref h0_kind, .ref h0_best, .ref h0_row, .int h0_rowLength, .int h0_bends, .int h0_full, .int h0_first, .int h0_punch])), (y1, .inr (4, [.int y1_count, .int y1_statements, .int y1_thick, .int y1_punch, .int y1_ups, .int y1_toolCount, .ref y1_toolWidth, .ref y1_told, .ref y1_name, .ref y1_parent, .ref y1_side, .ref y1_from, .ref y1_width, .ref y1_height, .ref y1_radius, .ref y1_toolSet])), (y1_toolSet, .inl (g.2.1.1, 9, .inl f_y1_toolSet)), (h0_kind, .inl (g.2.1.1, 9, .inl fn10901)), (h0_reach, .inl (g.2.1.2.1, 256, .inl f_h0_reach)), (h0_room, .inl (g.2.1.1, 2048, .inl f_h0_room)), (h0_ways, .inl (g.2.1.1, 256, .inl f_h0_ways)), (h0_switches, .inl (g.2.1.1, 2048, .inl f_h0_switches))] H → va_D A [(h0, .inr (3, [.ref h0_room, .ref h0_clashing, .ref h0_reach, .ref h0_ways, .ref h0_switches, .ref h0_kind, .ref h0_best, .ref h0_row, .int h0_rowLength, .int h0_bends, .int h0_full, .int h0_first, .int h0_punch])), (y1, .inr (4, [.int y1_count, .int y1_statements, .int y1_thick, .int y1_punch, .int y1_ups, .int y1_toolCount, .ref y1_toolWidth, .ref y1_told, .ref y1_name, .ref y1_parent, .ref y1_side, .ref y1_from, .ref y1_width, .ref y1_height, .ref y1_radius, .ref y1_toolSet])), (y1_toolSet, .inl (g.2.1.1, 9, .inl f_y1_toolSet)), (h0_kind, .inl (g.2.1.1, 9, .inl fn10901)), (h0_reach, .inl (g.2.1.2.1, 256, .inl f_h0_reach)), (h0_room, .inl (g.2.1.1, 2048, .inl f_h0_room)), (h0_ways, .inl (g.2.1.1, 256, .inl f_h0_ways)), (h0_switches, .inl (g.2.1.1, 2048, .inl f_h0_switches))] → va_S A s.heap H locs → lv_has ls 5 [(0, .ref h0), (1, .ref y1), (2, .int x2), (3, .int v10900), (4, .int v15771)] → W p l e rm_kX3_countSwitches s m args below meth c H locs 0 0 Q (F0 m 48 ls [.int v15777, .int v10900, .ref h0_kind]) := by
            intro v15777 H locs ls  hP hD hS hl
            refine va_iast hx hb hX.1 hP hD hS 3 0 rfl rfl (zin (rfl : v10900.toInt = _) (ox_324 c13342i hy1 i13340)) dX3_countSwitches_48 (fun H locs hP hD hS => ?_)
            obtain ⟨f15779, e15780⟩ : ∃ z9 : Nat → Int32, z9 = upd fn10901 v10900.toNatClampNeg v15777 := ⟨_, rfl⟩
            rw [← e15780] at hP hD
            have hP : va_P g.1 vwCl [(h0, .inr (3, [.ref h0_room, .ref h0_clashing, .ref h0_reach, .ref h0_ways, .ref h0_switches, .ref h0_kind, .ref h0_best, .ref h0_row, .int h0_rowLength, .int h0_bends, .int h0_full, .int h0_first, .int h0_punch])), (y1, .inr (4, [.int y1_count, .int y1_statements, .int y1_thick, .int y1_punch, .int y1_ups, .int y1_toolCount, .ref y1_toolWidth, .ref y1_told, .ref y1_name, .ref y1_parent, .ref y1_side, .ref y1_from, .ref y1_width, .ref y1_height, .ref y1_radius, .ref y1_toolSet])), (y1_toolSet, .inl (g.2.1.1, 9, .inl f_y1_toolSet)), (h0_kind, .inl (g.2.1.1, 9, .inl f15779)), (h0_reach, .inl (g.2.1.2.1, 256, .inl f_h0_reach)), (h0_room, .inl (g.2.1.1, 2048, .inl f_h0_room)), (h0_ways, .inl (g.2.1.1, 256, .inl f_h0_ways)), (h0_switches, .inl (g.2.1.1, 2048, .inl f_h0_switches))] H := hP
            have hD : va_D A [(h0, .inr (3, [.ref h0_room, .ref h0_clashing, .ref h0_reach, .ref h0_ways, .ref h0_switches, .ref h0_kind, .ref h0_best, .ref h0_row, .int h0_rowLength, .int h0_bends, .int h0_full, .int h0_first, .int h0_punch])), (y1, .inr (4, [.int y1_count, .int y1_statements, .int y1_thick, .int y1_punch, .int y1_ups, .int y1_toolCount, .ref y1_toolWidth, .ref y1_told, .ref y1_name, .ref y1_parent, .ref y1_side, .ref y1_from, .ref y1_width, .ref y1_height, .ref y1_radius, .ref y1_toolSet])), (y1_toolSet, .inl (g.2.1.1, 9, .inl f_y1_toolSet)), (h0_kind, .inl (g.2.1.1, 9, .inl f15779)), (h0_reach, .inl (g.2.1.2.1, 256, .inl f_h0_reach)), (h0_room, .inl (g.2.1.1, 2048, .inl f_h0_room)), (h0_ways, .inl (g.2.1.1, 256, .inl f_h0_ways)), (h0_switches, .inl (g.2.1.1, 2048, .inl f_h0_switches))] := hD
            obtain ⟨z15781, e15782⟩ : ∃ y9 : Int32, y9 = v10900 + 1 := ⟨_, rfl⟩
            have f15783 : z15781.toInt = v10900.toInt + 1 := za e15782 (rfl : v10900.toInt = _) (show (1 : Int32).toInt = (1 : Int) from by decide) (ox_262 (zr h0_bends) (zr v10900) c13342i hy1 i13340)
            refine lv_iinc (v := z15781) (lv' := [(3, .int z15781), (0, .ref h0), (1, .ref y1), (2, .int x2), (4, .int v15771)]) hx hb dX3_countSwitches_49 hl (k := 3) rfl (by rw [e15782]; rfl) (by decide) rfl (fun ls hl => ?_)
            refine lv_goto (tgt := 2) hx hb dX3_countSwitches_52 (by decide) ?_
            exact ih13339 z15781 f15779 H locs ls (ox_263 c13342i f15783 hy1 i13340) (zdec hm13341 (ox_264 c13342i f15783 hy1 i13340)) hP hD hS (lv_sub hl [1, 2, 3, 0] rfl)
          refine lv_if_ne (tgt := 42) hx hb dX3_countSwitches_34 (by decide) (fun c15784 => ?_) (fun c15784 => ?_)
          · skip
            have c15784i : ¬ (x2.toInt = (0 : Int)) := fun q => c15784 ((zc_eq (rfl : x2.toInt = _) (show (0 : Int32).toInt = (0 : Int) from by decide)).mpr q)
            refine lv_aload_n hx hb dX3_countSwitches_42 rfl (lv_at hl 2 rfl) ?_
            refine va_getN (D := g.1) (ci := 4) (v := .ref y1_toolSet) (C := RX4) (T := TX4) (N := 16) hx hb hG iX4 hown hX.1 hP 1 rfl rfl 15 (by decide) (hX.2.1.fl wfn_X3_67) (fun _ h9 => h9) rfl dX3_countSwitches_43 ?_
            refine lv_iload_n hx hb dX3_countSwitches_46 rfl (lv_at hl 4 rfl) ?_
            refine va_iald hx hb hX.1 hP 2 0 rfl rfl (zin (rfl : v10900.toInt = _) (ox_324 c13342i hy1 i13340)) dX3_countSwitches_47 ?_
            refine lv_topi (fun z15785 e15786 => ?_)
            exact J15778 z15785 H locs ls  hP hD hS (lv_sub hl [1, 2, 3, 4, 0] rfl)
          · skip
            have c15784i : x2.toInt = (0 : Int) := (zc_eq (rfl : x2.toInt = _) (show (0 : Int32).toInt = (0 : Int) from by decide)).mp c15784
            refine lv_iload hx hb dX3_countSwitches_37 (lv_at hl 0 rfl) ?_
            refine lv_goto (tgt := 48) hx hb dX3_countSwitches_39 (by decide) ?_
            exact J15778 v15771 H locs ls  hP hD hS (lv_sub hl [1, 2, 3, 4, 0] rfl)
        refine lv_if_eq (tgt := 25) hx hb dX3_countSwitches_18 (by decide) (fun c15787 => ?_) (fun c15787 => ?_)
        · skip
          have c15787i : r15768.toInt = (0 : Int) := (zc_eq (rfl : r15768.toInt = _) (show (0 : Int32).toInt = (0 : Int) from by decide)).mp c15787
          refine lv_iconst (v := 0) hx hb dX3_countSwitches_25 (by decide) ?_
          exact J15772 (0 : Int32) H locs ls ((show 0 ≤ (0 : Int) ∧ (0 : Int) ≤ 1 from by decide)) hP hD hS (lv_sub hl [0, 1, 2, 3] rfl)
        · skip
          have c15787i : ¬ (r15768.toInt = (0 : Int)) := fun q => c15787 ((zc_eq (rfl : r15768.toInt = _) (show (0 : Int32).toInt = (0 : Int) from by decide)).mpr q)
          refine lv_iconst (v := 1) hx hb dX3_countSwitches_21 (by decide) ?_
          refine lv_goto (tgt := 26) hx hb dX3_countSwitches_22 (by decide) ?_
          exact J15772 (1 : Int32) H locs ls ((show 0 ≤ (1 : Int) ∧ (1 : Int) ≤ 1 from by decide)) hP hD hS (lv_sub hl [0, 1, 2, 3] rfl)
  exact L13337 _ (1 : Int32) f_h0_kind _ _ ls ((show 1 ≤ (1 : Int) ∧ (1 : Int) ≤ 9 from by decide)) (Nat.lt_succ_self _) hP hD hS (lv_sub hl [1, 2, 3, 0] rfl)
theorem dX3_firstThrifty_0 : decode cX3_firstThrifty 0 = .ok (.aload_n 0, 1) := by decide +kernel
theorem dX3_firstThrifty_1 : decode cX3_firstThrifty 1 = .ok (.iload_n 1, 1) := by decide +kernel
theorem dX3_firstThrifty_2 : decode cX3_firstThrifty 2 = .ok (.iload_n 2, 1) := by decide +kernel
theorem dX3_firstThrifty_3 : decode cX3_firstThrifty 3 = .ok (.invokevirtual 134, 3) := by decide +kernel
theorem dX3_firstThrifty_6 : decode cX3_firstThrifty 6 = .ok (.istore_n 3, 1) := by decide +kernel
theorem dX3_firstThrifty_7 : decode cX3_firstThrifty 7 = .ok (.iconst 1, 1) := by decide +kernel
theorem dX3_firstThrifty_8 : decode cX3_firstThrifty 8 = .ok (.istore 4, 2) := by decide +kernel
theorem dX3_firstThrifty_10 : decode cX3_firstThrifty 10 = .ok (.iload 4, 2) := by decide +kernel
theorem dX3_firstThrifty_12 : decode cX3_firstThrifty 12 = .ok (.aload_n 0, 1) := by decide +kernel
theorem dX3_firstThrifty_13 : decode cX3_firstThrifty 13 = .ok (.getfield 50, 3) := by decide +kernel
theorem dX3_firstThrifty_16 : decode cX3_firstThrifty 16 = .ok (.if_icmp .gt 34, 3) := by decide +kernel
theorem dX3_firstThrifty_50 : decode cX3_firstThrifty 50 = .ok (.iconst 0, 1) := by decide +kernel
theorem dX3_firstThrifty_51 : decode cX3_firstThrifty 51 = .ok (.ireturn, 1) := by decide +kernel
theorem dX3_firstThrifty_19 : decode cX3_firstThrifty 19 = .ok (.aload_n 0, 1) := by decide +kernel
theorem dX3_firstThrifty_20 : decode cX3_firstThrifty 20 = .ok (.iload_n 1, 1) := by decide +kernel
theorem dX3_firstThrifty_21 : decode cX3_firstThrifty 21 = .ok (.iload 4, 2) := by decide +kernel
theorem dX3_firstThrifty_23 : decode cX3_firstThrifty 23 = .ok (.invokevirtual 117, 3) := by decide +kernel
theorem dX3_firstThrifty_44 : decode cX3_firstThrifty 44 = .ok (.iinc 4 1, 3) := by decide +kernel
theorem dX3_firstThrifty_47 : decode cX3_firstThrifty 47 = .ok (.goto (-37), 3) := by decide +kernel
theorem dX3_firstThrifty_26 : decode cX3_firstThrifty 26 = .ok (.ifCond .eq 18, 3) := by decide +kernel
theorem dX3_firstThrifty_29 : decode cX3_firstThrifty 29 = .ok (.aload_n 0, 1) := by decide +kernel
theorem dX3_firstThrifty_30 : decode cX3_firstThrifty 30 = .ok (.iload_n 1, 1) := by decide +kernel
theorem dX3_firstThrifty_31 : decode cX3_firstThrifty 31 = .ok (.iload_n 2, 1) := by decide +kernel
theorem dX3_firstThrifty_32 : decode cX3_firstThrifty 32 = .ok (.iload 4, 2) := by decide +kernel
theorem dX3_firstThrifty_34 : decode cX3_firstThrifty 34 = .ok (.invokevirtual 137, 3) := by decide +kernel
theorem dX3_firstThrifty_37 : decode cX3_firstThrifty 37 = .ok (.iload_n 3, 1) := by decide +kernel
theorem dX3_firstThrifty_38 : decode cX3_firstThrifty 38 = .ok (.if_icmp .ne 6, 3) := by decide +kernel
theorem dX3_firstThrifty_41 : decode cX3_firstThrifty 41 = .ok (.iload 4, 2) := by decide +kernel
theorem dX3_firstThrifty_43 : decode cX3_firstThrifty 43 = .ok (.ireturn, 1) := by decide +kernel
abbrev rm_kX3_firstThrifty : Room := { frames := 4, cells := 0, slots := 0, locals := 89 }
set_option maxHeartbeats 4000000 in
set_option maxRecDepth 100000 in
theorem kX3_firstThrifty (l : Launch) (g : zL) (h0 : Nat) (x1 : Int32) (x2 : Int32) (h0_room : Nat) (h0_clashing : Nat) (h0_reach : Nat) (h0_ways : Nat) (h0_switches : Nat) (h0_kind : Nat) (h0_best : Nat) (h0_row : Nat) (h0_rowLength : Int32) (h0_bends : Int32) (h0_full : Int32) (h0_first : Int32) (h0_punch : Int32) (f_h0_room : Nat → Int32) (f_h0_ways : Nat → Int32) (f_h0_kind : Nat → Int32) (f_h0_switches : Nat → Int32) (hy0 : 0 ≤ x1.toInt ∧ x1.toInt ≤ 255) (hy1 : 0 ≤ x2.toInt ∧ x2.toInt ≤ 8) (hy2 : 0 ≤ h0_rowLength.toInt ∧ h0_rowLength.toInt ≤ 8) (hy3 : (-1) ≤ h0_bends.toInt ∧ h0_bends.toInt ≤ 8) (hy4 : 0 ≤ h0_full.toInt ∧ h0_full.toInt ≤ 255) (hy5 : 0 ≤ h0_first.toInt ∧ h0_first.toInt ≤ 255) : zCi l g yX3_firstThrifty cX3_firstThrifty 5 (some .int) rm_kX3_firstThrifty [.ref h0, .int x1, .int x2] [(h0, .inr (3, [.ref h0_room, .ref h0_clashing, .ref h0_reach, .ref h0_ways, .ref h0_switches, .ref h0_kind, .ref h0_best, .ref h0_row, .int h0_rowLength, .int h0_bends, .int h0_full, .int h0_first, .int h0_punch])), (h0_room, .inl (g.2.1.1, 2048, .inl f_h0_room)), (h0_ways, .inl (g.2.1.1, 256, .inl f_h0_ways)), (h0_kind, .inl (g.2.1.1, 9, .inl f_h0_kind)), (h0_switches, .inl (g.2.1.1, 2048, .inl f_h0_switches))] (fun (r : Int32) (u : Unit) => (0 ≤ r.toInt ∧ r.toInt ≤ 8)) (fun (u : Unit) => [(h0, .inr (3, [.ref h0_room, .ref h0_clashing, .ref h0_reach, .ref h0_ways, .ref h0_switches, .ref h0_kind, .ref h0_best, .ref h0_row, .int h0_rowLength, .int h0_bends, .int h0_full, .int h0_first, .int h0_punch])), (h0_room, .inl (g.2.1.1, 2048, .inl f_h0_room)), (h0_ways, .inl (g.2.1.1, 256, .inl f_h0_ways)), (h0_kind, .inl (g.2.1.1, 9, .inl f_h0_kind)), (h0_switches, .inl (g.2.1.1, 2048, .inl f_h0_switches))]) := by
  refine zCi.mk2 (by decide) (Nat.le_of_ble_eq_true rfl) ?_
  intro p e s m below meth c A args Q hE hret hP hD hS ls hl
  obtain ⟨hx, hb, hr, hml, hown, hG, hlocks, hnm, hX, hA⟩ := hE
  have hown : s.vm.findClass RX3 = some m.cls := hown
  have hl : lv_has ls 5 [(0, .ref h0), (1, .int x1), (2, .int x2)] := hl
  refine lv_aload_n hx hb dX3_firstThrifty_0 rfl (lv_at hl 0 rfl) ?_
  refine lv_iload_n hx hb dX3_firstThrifty_1 rfl (lv_at hl 1 rfl) ?_
  refine lv_iload_n hx hb dX3_firstThrifty_2 rfl (lv_at hl 2 rfl) ?_
  refine zfi (wr := []) (va_runV (As := [.int x1, .int x2]) (rest := []) ⟨hx, hb, hml, hown, hG⟩ (kX3_leastFrom l g h0 x1 x2 h0_room h0_clashing h0_reach h0_ways h0_switches h0_kind h0_best h0_row h0_rowLength h0_bends h0_full h0_first h0_punch f_h0_room f_h0_ways f_h0_kind f_h0_switches (ox_228 hy0) (ox_1 hy1) (ox_1 hy2) (ox_274 hy3) (ox_228 hy4) (ox_228 hy5) _) ⟨callB_of 2 hG (zGood wc_X3_leastFrom) rfl rfl rfl (hG _ wini_X3) (hG _ wm_X3_134) hX3_leastFrom ⟨Nat.le_of_ble_eq_true rfl, Nat.le_of_ble_eq_true rfl⟩, hG _ wi_X3_leastFrom, hG _ wse_X3_X3_leastFrom⟩ (zpreV (va_recv hX.1 hP (ci := 3) (q0 := 0) rfl rfl) hX hP hD hS hA [0, 1, 2, 3, 4] rfl (by decide)) rfl rfl hl.1 rfl (lv_room (Nat.le_of_ble_eq_true rfl)) dX3_firstThrifty_3 ⟨Nat.le_of_ble_eq_true rfl, Nat.le_of_ble_eq_true rfl⟩) hP hD hS hA [0, 1, 2, 3, 4] [] rfl rfl (by decide) (by decide) (fun r1 _ H locs hp hP hD hS => ?_)
  refine W.cs (cells' := 0) (slots' := 0) rfl rfl ?_
  have hq2 : (-2147483648) ≤ r1.toInt ∧ r1.toInt ≤ 1000 := hp
  have hP : va_P g.1 vwCl [(h0, .inr (3, [.ref h0_room, .ref h0_clashing, .ref h0_reach, .ref h0_ways, .ref h0_switches, .ref h0_kind, .ref h0_best, .ref h0_row, .int h0_rowLength, .int h0_bends, .int h0_full, .int h0_first, .int h0_punch])), (h0_room, .inl (g.2.1.1, 2048, .inl f_h0_room)), (h0_ways, .inl (g.2.1.1, 256, .inl f_h0_ways)), (h0_kind, .inl (g.2.1.1, 9, .inl f_h0_kind)), (h0_switches, .inl (g.2.1.1, 2048, .inl f_h0_switches))] H := hP
  have hD : va_D A [(h0, .inr (3, [.ref h0_room, .ref h0_clashing, .ref h0_reach, .ref h0_ways, .ref h0_switches, .ref h0_kind, .ref h0_best, .ref h0_row, .int h0_rowLength, .int h0_bends, .int h0_full, .int h0_first, .int h0_punch])), (h0_room, .inl (g.2.1.1, 2048, .inl f_h0_room)), (h0_ways, .inl (g.2.1.1, 256, .inl f_h0_ways)), (h0_kind, .inl (g.2.1.1, 9, .inl f_h0_kind)), (h0_switches, .inl (g.2.1.1, 2048, .inl f_h0_switches))] := hD
  refine lv_istore_n (lv' := [(3, .int r1), (0, .ref h0), (1, .int x1), (2, .int x2)]) hx hb dX3_firstThrifty_6 rfl hl (by decide) rfl (fun ls hl => ?_)
  refine lv_iconst (v := 1) hx hb dX3_firstThrifty_7 (by decide) ?_
  refine lv_istore (lv' := [(4, .int 1), (3, .int r1), (0, .ref h0), (1, .int x1), (2, .int x2)]) hx hb dX3_firstThrifty_8 hl (by decide) rfl (fun ls hl => ?_)
  have L110 : ∀ (n : Nat) (v96 : Int32) (H : Heap) (locs : List Loc) (ls : Array Slot), 1 ≤ v96.toInt ∧ v96.toInt ≤ 9 → (10 - v96.toInt).toNat < n → va_P g.1 vwCl [(h0, .inr (3, [.ref h0_room, .ref h0_clashing, .ref h0_reach, .ref h0_ways, .ref h0_switches, .ref h0_kind, .ref h0_best, .ref h0_row, .int h0_rowLength, .int h0_bends, .int h0_full, .int h0_first, .int h0_punch])), (h0_room, .inl (g.2.1.1, 2048, .inl f_h0_room)), (h0_ways, .inl (g.2.1.1, 256, .inl f_h0_ways)), (h0_kind, .inl (g.2.1.1, 9, .inl f_h0_kind)), (h0_switches, .inl (g.2.1.1, 2048, .inl f_h0_switches))] H → va_D A [(h0, .inr (3, [.ref h0_room, .ref h0_clashing, .ref h0_reach, .ref h0_ways, .ref h0_switches, .ref h0_kind, .ref h0_best, .ref h0_row, .int h0_rowLength, .int h0_bends, .int h0_full, .int h0_first, .int h0_punch])), (h0_room, .inl (g.2.1.1, 2048, .inl f_h0_room)), (h0_ways, .inl (g.2.1.1, 256, .inl f_h0_ways)), (h0_kind, .inl (g.2.1.1, 9, .inl f_h0_kind)), (h0_switches, .inl (g.2.1.1, 2048, .inl f_h0_switches))] → va_S A s.heap H locs → lv_has ls 5 [(0, .ref h0), (1, .int x1), (2, .int x2), (3, .int r1), (4, .int v96)] → W p l e rm_kX3_firstThrifty s m args below meth c H locs 0 0 Q (F0 m 10 ls []) := by
    intro n111
    induction n111 with
    | zero => intro v96 H locs ls i113 hm114; exact absurd hm114 (Nat.not_lt_zero _)
    | succ n111 ih112 =>
      intro v96 H locs ls i113 hm114 hP hD hS hl
      refine lv_iload hx hb dX3_firstThrifty_10 (lv_at hl 4 rfl) ?_
      refine lv_aload_n hx hb dX3_firstThrifty_12 rfl (lv_at hl 0 rfl) ?_
      refine va_get (D := g.1) (ci := 3) (v := .int h0_bends) (C := RX3) (T := TX3) (N := 13) hx hb hG iX3 hown hX.1 hP 0 rfl rfl 9 (by decide) (hG _ wf_X3_50) (fun _ h9 => h9) rfl dX3_firstThrifty_13 ?_
      refine lv_icmp_gt (tgt := 50) hx hb dX3_firstThrifty_16 (by decide) (fun c115 => ?_) (fun c115 => ?_)
      · skip
        have c115i : h0_bends.toInt < v96.toInt := (zc_lt (rfl : h0_bends.toInt = _) (rfl : v96.toInt = _)).mp c115
        refine lv_iconst (v := 0) hx hb dX3_firstThrifty_50 (by decide) ?_
        exact hret (0 : Int32) () (Nat.le_of_ble_eq_true rfl) (Nat.le_of_ble_eq_true rfl) rfl ((show 0 ≤ (0 : Int) ∧ (0 : Int) ≤ 8 from by decide)) hP hD hS dX3_firstThrifty_51
      · skip
        have c115i : ¬ (h0_bends.toInt < v96.toInt) := fun q => c115 ((zc_lt (rfl : h0_bends.toInt = _) (rfl : v96.toInt = _)).mpr q)
        refine lv_aload_n hx hb dX3_firstThrifty_19 rfl (lv_at hl 0 rfl) ?_
        refine lv_iload_n hx hb dX3_firstThrifty_20 rfl (lv_at hl 1 rfl) ?_
        refine lv_iload hx hb dX3_firstThrifty_21 (lv_at hl 4 rfl) ?_
        refine zfi (wr := [(h0_kind, .inl (g.2.1.1, 9, .inl f_h0_kind)), (h0_switches, .inl (g.2.1.1, 2048, .inl f_h0_switches))]) (va_runV (As := [.int x1, .int v96]) (rest := []) ⟨hx, hb, hml, hown, hG⟩ (kX3_goesOn l g h0 x1 v96 h0_room h0_clashing h0_reach h0_ways h0_switches h0_kind h0_best h0_row h0_rowLength h0_bends h0_full h0_first h0_punch f_h0_room f_h0_ways (ox_228 hy0) (ox_261 c115i hy3 i113) (ox_1 hy2) (ox_257 c115i hy3 i113) (ox_228 hy4) (ox_228 hy5) _) ⟨callB_of 2 hG (zGood wc_X3_goesOn) rfl rfl rfl (hG _ wini_X3) (hG _ wm_X3_117) hX3_goesOn ⟨Nat.le_of_ble_eq_true rfl, Nat.le_of_ble_eq_true rfl⟩, hG _ wi_X3_goesOn, hG _ wse_X3_X3_goesOn⟩ (zpreV (va_recv hX.1 hP (ci := 3) (q0 := 0) rfl rfl) hX hP hD hS hA [0, 1, 2] rfl (by decide)) rfl rfl hl.1 rfl (lv_room (Nat.le_of_ble_eq_true rfl)) dX3_firstThrifty_23 ⟨Nat.le_of_ble_eq_true rfl, Nat.le_of_ble_eq_true rfl⟩) hP hD hS hA [0, 1, 2] [3, 4] rfl rfl (by decide) (by decide) (fun r116 _ H locs hp hP hD hS => ?_)
        refine W.cs (cells' := 0) (slots' := 0) rfl rfl ?_
        have hq117 : 0 ≤ r116.toInt ∧ r116.toInt ≤ 1 := hp
        have hP : va_P g.1 vwCl [(h0_kind, .inl (g.2.1.1, 9, .inl f_h0_kind)), (h0_switches, .inl (g.2.1.1, 2048, .inl f_h0_switches)), (h0, .inr (3, [.ref h0_room, .ref h0_clashing, .ref h0_reach, .ref h0_ways, .ref h0_switches, .ref h0_kind, .ref h0_best, .ref h0_row, .int h0_rowLength, .int h0_bends, .int h0_full, .int h0_first, .int h0_punch])), (h0_room, .inl (g.2.1.1, 2048, .inl f_h0_room)), (h0_ways, .inl (g.2.1.1, 256, .inl f_h0_ways))] H := hP
        have hD : va_D A [(h0_kind, .inl (g.2.1.1, 9, .inl f_h0_kind)), (h0_switches, .inl (g.2.1.1, 2048, .inl f_h0_switches)), (h0, .inr (3, [.ref h0_room, .ref h0_clashing, .ref h0_reach, .ref h0_ways, .ref h0_switches, .ref h0_kind, .ref h0_best, .ref h0_row, .int h0_rowLength, .int h0_bends, .int h0_full, .int h0_first, .int h0_punch])), (h0_room, .inl (g.2.1.1, 2048, .inl f_h0_room)), (h0_ways, .inl (g.2.1.1, 256, .inl f_h0_ways))] := hD
        have J121 : ∀  (H : Heap) (locs : List Loc) (ls : Array Slot), va_P g.1 vwCl [(h0_kind, .inl (g.2.1.1, 9, .inl f_h0_kind)), (h0_switches, .inl (g.2.1.1, 2048, .inl f_h0_switches)), (h0, .inr (3, [.ref h0_room, .ref h0_clashing, .ref h0_reach, .ref h0_ways, .ref h0_switches, .ref h0_kind, .ref h0_best, .ref h0_row, .int h0_rowLength, .int h0_bends, .int h0_full, .int h0_first, .int h0_punch])), (h0_room, .inl (g.2.1.1, 2048, .inl f_h0_room)), (h0_ways, .inl (g.2.1.1, 256, .inl f_h0_ways))] H → va_D A [(h0_kind, .inl (g.2.1.1, 9, .inl f_h0_kind)), (h0_switches, .inl (g.2.1.1, 2048, .inl f_h0_switches)), (h0, .inr (3, [.ref h0_room, .ref h0_clashing, .ref h0_reach, .ref h0_ways, .ref h0_switches, .ref h0_kind, .ref h0_best, .ref h0_row, .int h0_rowLength, .int h0_bends, .int h0_full, .int h0_first, .int h0_punch])), (h0_room, .inl (g.2.1.1, 2048, .inl f_h0_room)), (h0_ways, .inl (g.2.1.1, 256, .inl f_h0_ways))] → va_S A s.heap H locs → lv_has ls 5 [(0, .ref h0), (1, .int x1), (2, .int x2), (3, .int r1), (4, .int v96)] → W p l e rm_kX3_firstThrifty s m args below meth c H locs 0 0 Q (F0 m 44 ls []) := by
          intro  H locs ls  hP hD hS hl
          obtain ⟨z122, e123⟩ : ∃ y9 : Int32, y9 = v96 + 1 := ⟨_, rfl⟩
          have f124 : z122.toInt = v96.toInt + 1 := za e123 (rfl : v96.toInt = _) (show (1 : Int32).toInt = (1 : Int) from by decide) (ox_262 (zr h0_bends) (zr v96) c115i hy3 i113)
          refine lv_iinc (v := z122) (lv' := [(4, .int z122), (0, .ref h0), (1, .int x1), (2, .int x2), (3, .int r1)]) hx hb dX3_firstThrifty_44 hl (k := 4) rfl (by rw [e123]; rfl) (by decide) rfl (fun ls hl => ?_)
          refine lv_goto (tgt := 10) hx hb dX3_firstThrifty_47 (by decide) ?_
          exact ih112 z122 H locs ls (ox_263 c115i f124 hy3 i113) (zdec hm114 (ox_264 c115i f124 hy3 i113)) (hP.sub [2, 3, 4, 0, 1] rfl) (hD.sub [2, 3, 4, 0, 1] (by decide) rfl) hS (lv_sub hl [1, 2, 3, 4, 0] rfl)
        refine lv_if_eq (tgt := 44) hx hb dX3_firstThrifty_26 (by decide) (fun c125 => ?_) (fun c125 => ?_)
        · skip
          have c125i : r116.toInt = (0 : Int) := (zc_eq (rfl : r116.toInt = _) (show (0 : Int32).toInt = (0 : Int) from by decide)).mp c125
          exact J121 H locs ls  hP hD hS (lv_sub hl [0, 1, 2, 3, 4] rfl)
        · skip
          have c125i : ¬ (r116.toInt = (0 : Int)) := fun q => c125 ((zc_eq (rfl : r116.toInt = _) (show (0 : Int32).toInt = (0 : Int) from by decide)).mpr q)
          refine lv_aload_n hx hb dX3_firstThrifty_29 rfl (lv_at hl 0 rfl) ?_
          refine lv_iload_n hx hb dX3_firstThrifty_30 rfl (lv_at hl 1 rfl) ?_
          refine lv_iload_n hx hb dX3_firstThrifty_31 rfl (lv_at hl 2 rfl) ?_
          refine lv_iload hx hb dX3_firstThrifty_32 (lv_at hl 4 rfl) ?_
          refine zfi (wr := [(h0_room, .inl (g.2.1.1, 2048, .inl f_h0_room)), (h0_ways, .inl (g.2.1.1, 256, .inl f_h0_ways))]) (va_runV (As := [.int x1, .int x2, .int v96]) (rest := []) ⟨hx, hb, hml, hown, hG⟩ (kX3_switchesWith l g h0 x1 x2 v96 h0_room h0_clashing h0_reach h0_ways h0_switches h0_kind h0_best h0_row h0_rowLength h0_bends h0_full h0_first h0_punch f_h0_kind f_h0_switches (ox_228 hy0) (ox_1 hy1) (ox_261 c115i hy3 i113) (ox_1 hy2) (ox_257 c115i hy3 i113) (ox_228 hy4) (ox_228 hy5) _) ⟨callB_of 3 hG (zGood wc_X3_switchesWith) rfl rfl rfl (hG _ wini_X3) (hG _ wm_X3_137) hX3_switchesWith ⟨Nat.le_of_ble_eq_true rfl, Nat.le_of_ble_eq_true rfl⟩, hG _ wi_X3_switchesWith, hG _ wse_X3_X3_switchesWith⟩ (zpreV (va_recv hX.1 hP (ci := 3) (q0 := 2) rfl rfl) hX hP hD hS hA [2, 0, 1] rfl (by decide)) rfl rfl hl.1 rfl (lv_room (Nat.le_of_ble_eq_true rfl)) dX3_firstThrifty_34 ⟨Nat.le_of_ble_eq_true rfl, Nat.le_of_ble_eq_true rfl⟩) hP hD hS hA [2, 0, 1] [3, 4] rfl rfl (by decide) (by decide) (fun r126 _ H locs hp hP hD hS => ?_)
          refine W.cs (cells' := 0) (slots' := 0) rfl rfl ?_
          have hP : va_P g.1 vwCl [(h0_room, .inl (g.2.1.1, 2048, .inl f_h0_room)), (h0_ways, .inl (g.2.1.1, 256, .inl f_h0_ways)), (h0, .inr (3, [.ref h0_room, .ref h0_clashing, .ref h0_reach, .ref h0_ways, .ref h0_switches, .ref h0_kind, .ref h0_best, .ref h0_row, .int h0_rowLength, .int h0_bends, .int h0_full, .int h0_first, .int h0_punch])), (h0_kind, .inl (g.2.1.1, 9, .inl f_h0_kind)), (h0_switches, .inl (g.2.1.1, 2048, .inl f_h0_switches))] H := hP
          have hD : va_D A [(h0_room, .inl (g.2.1.1, 2048, .inl f_h0_room)), (h0_ways, .inl (g.2.1.1, 256, .inl f_h0_ways)), (h0, .inr (3, [.ref h0_room, .ref h0_clashing, .ref h0_reach, .ref h0_ways, .ref h0_switches, .ref h0_kind, .ref h0_best, .ref h0_row, .int h0_rowLength, .int h0_bends, .int h0_full, .int h0_first, .int h0_punch])), (h0_kind, .inl (g.2.1.1, 9, .inl f_h0_kind)), (h0_switches, .inl (g.2.1.1, 2048, .inl f_h0_switches))] := hD
          refine lv_iload_n hx hb dX3_firstThrifty_37 rfl (lv_at hl 3 rfl) ?_
          refine lv_icmp_ne (tgt := 44) hx hb dX3_firstThrifty_38 (by decide) (fun c127 => ?_) (fun c127 => ?_)
          · skip
            have c127i : ¬ (r126.toInt = r1.toInt) := fun q => c127 ((zc_eq (rfl : r126.toInt = _) (rfl : r1.toInt = _)).mpr q)
            exact J121 H locs ls  (hP.sub [3, 4, 2, 0, 1] rfl) (hD.sub [3, 4, 2, 0, 1] (by decide) rfl) hS (lv_sub hl [0, 1, 2, 3, 4] rfl)
          · skip
            have c127i : r126.toInt = r1.toInt := (zc_eq (rfl : r126.toInt = _) (rfl : r1.toInt = _)).mp c127
            refine lv_iload hx hb dX3_firstThrifty_41 (lv_at hl 4 rfl) ?_
            exact hret v96 () (Nat.le_of_ble_eq_true rfl) (Nat.le_of_ble_eq_true rfl) rfl (ox_276 c115i hy3 i113) (hP.sub [2, 0, 1, 3, 4] rfl) (hD.sub [2, 0, 1, 3, 4] (by decide) rfl) hS dX3_firstThrifty_43
  exact L110 _ (1 : Int32) H locs ls ((show 1 ≤ (1 : Int) ∧ (1 : Int) ≤ 9 from by decide)) (Nat.lt_succ_self _) hP hD hS (lv_sub hl [2, 3, 4, 1, 0] rfl)
theorem dX3_walkThrifty_0 : decode cX3_walkThrifty 0 = .ok (.aload_n 0, 1) := by decide +kernel
theorem dX3_walkThrifty_1 : decode cX3_walkThrifty 1 = .ok (.getfield 84, 3) := by decide +kernel
theorem dX3_walkThrifty_4 : decode cX3_walkThrifty 4 = .ok (.istore_n 1, 1) := by decide +kernel
theorem dX3_walkThrifty_5 : decode cX3_walkThrifty 5 = .ok (.iconst 0, 1) := by decide +kernel
theorem dX3_walkThrifty_6 : decode cX3_walkThrifty 6 = .ok (.istore_n 2, 1) := by decide +kernel
theorem dX3_walkThrifty_7 : decode cX3_walkThrifty 7 = .ok (.aload_n 0, 1) := by decide +kernel
theorem dX3_walkThrifty_8 : decode cX3_walkThrifty 8 = .ok (.iconst 0, 1) := by decide +kernel
theorem dX3_walkThrifty_9 : decode cX3_walkThrifty 9 = .ok (.putfield 108, 3) := by decide +kernel
theorem dX3_walkThrifty_12 : decode cX3_walkThrifty 12 = .ok (.iconst 0, 1) := by decide +kernel
theorem dX3_walkThrifty_13 : decode cX3_walkThrifty 13 = .ok (.istore_n 3, 1) := by decide +kernel
theorem dX3_walkThrifty_14 : decode cX3_walkThrifty 14 = .ok (.iload_n 3, 1) := by decide +kernel
theorem dX3_walkThrifty_15 : decode cX3_walkThrifty 15 = .ok (.bipush 8, 2) := by decide +kernel
theorem dX3_walkThrifty_17 : decode cX3_walkThrifty 17 = .ok (.if_icmp .ge 36, 3) := by decide +kernel
theorem dX3_walkThrifty_53 : decode cX3_walkThrifty 53 = .ok (.return_, 1) := by decide +kernel
theorem dX3_walkThrifty_20 : decode cX3_walkThrifty 20 = .ok (.iload_n 1, 1) := by decide +kernel
theorem dX3_walkThrifty_21 : decode cX3_walkThrifty 21 = .ok (.aload_n 0, 1) := by decide +kernel
theorem dX3_walkThrifty_22 : decode cX3_walkThrifty 22 = .ok (.getfield 43, 3) := by decide +kernel
theorem dX3_walkThrifty_25 : decode cX3_walkThrifty 25 = .ok (.if_icmp .eq 28, 3) := by decide +kernel
theorem dX3_walkThrifty_28 : decode cX3_walkThrifty 28 = .ok (.aload_n 0, 1) := by decide +kernel
theorem dX3_walkThrifty_29 : decode cX3_walkThrifty 29 = .ok (.iload_n 1, 1) := by decide +kernel
theorem dX3_walkThrifty_30 : decode cX3_walkThrifty 30 = .ok (.iload_n 2, 1) := by decide +kernel
theorem dX3_walkThrifty_31 : decode cX3_walkThrifty 31 = .ok (.invokevirtual 144, 3) := by decide +kernel
theorem dX3_walkThrifty_34 : decode cX3_walkThrifty 34 = .ok (.istore_n 2, 1) := by decide +kernel
theorem dX3_walkThrifty_35 : decode cX3_walkThrifty 35 = .ok (.iload_n 2, 1) := by decide +kernel
theorem dX3_walkThrifty_36 : decode cX3_walkThrifty 36 = .ok (.ifCond .ne 4, 3) := by decide +kernel
theorem dX3_walkThrifty_40 : decode cX3_walkThrifty 40 = .ok (.aload_n 0, 1) := by decide +kernel
theorem dX3_walkThrifty_41 : decode cX3_walkThrifty 41 = .ok (.iload_n 1, 1) := by decide +kernel
theorem dX3_walkThrifty_42 : decode cX3_walkThrifty 42 = .ok (.iload_n 2, 1) := by decide +kernel
theorem dX3_walkThrifty_43 : decode cX3_walkThrifty 43 = .ok (.invokevirtual 114, 3) := by decide +kernel
theorem dX3_walkThrifty_46 : decode cX3_walkThrifty 46 = .ok (.istore_n 1, 1) := by decide +kernel
theorem dX3_walkThrifty_47 : decode cX3_walkThrifty 47 = .ok (.iinc 3 1, 3) := by decide +kernel
theorem dX3_walkThrifty_50 : decode cX3_walkThrifty 50 = .ok (.goto (-36), 3) := by decide +kernel
theorem dX3_walkThrifty_39 : decode cX3_walkThrifty 39 = .ok (.return_, 1) := by decide +kernel
abbrev rm_kX3_walkThrifty : Room := { frames := 5, cells := 0, slots := 0, locals := 113 }
set_option maxHeartbeats 4000000 in
set_option maxRecDepth 100000 in
theorem kX3_walkThrifty (l : Launch) (g : zL) (h0 : Nat) (h0_room : Nat) (h0_clashing : Nat) (h0_reach : Nat) (h0_ways : Nat) (h0_switches : Nat) (h0_kind : Nat) (h0_best : Nat) (h0_row : Nat) (h0_rowLength : Int32) (h0_bends : Int32) (h0_full : Int32) (h0_first : Int32) (h0_punch : Int32) (f_h0_room : Nat → Int32) (f_h0_ways : Nat → Int32) (f_h0_kind : Nat → Int32) (f_h0_switches : Nat → Int32) (f_h0_row : Nat → Int32) (hy0 : 0 ≤ h0_rowLength.toInt ∧ h0_rowLength.toInt ≤ 8) (hy1 : (-1) ≤ h0_bends.toInt ∧ h0_bends.toInt ≤ 8) (hy2 : 0 ≤ h0_full.toInt ∧ h0_full.toInt ≤ 255) (hy3 : 0 ≤ h0_first.toInt ∧ h0_first.toInt ≤ 255) (hy4 : True) : zCv l g yX3_walkThrifty cX3_walkThrifty 4 none rm_kX3_walkThrifty [.ref h0] [(h0, .inr (3, [.ref h0_room, .ref h0_clashing, .ref h0_reach, .ref h0_ways, .ref h0_switches, .ref h0_kind, .ref h0_best, .ref h0_row, .int h0_rowLength, .int h0_bends, .int h0_full, .int h0_first, .int h0_punch])), (h0_room, .inl (g.2.1.1, 2048, .inl f_h0_room)), (h0_ways, .inl (g.2.1.1, 256, .inl f_h0_ways)), (h0_kind, .inl (g.2.1.1, 9, .inl f_h0_kind)), (h0_switches, .inl (g.2.1.1, 2048, .inl f_h0_switches)), (h0_row, .inl (g.2.1.1, 8, .inl f_h0_row))] (fun (u : Int32 × (Nat → Int32)) => (0 ≤ u.1.toInt ∧ u.1.toInt ≤ 8) ∧ (True) ∧ (pRow u.1 u.2)) (fun (u : Int32 × (Nat → Int32)) => [(h0, .inr (3, [.ref h0_room, .ref h0_clashing, .ref h0_reach, .ref h0_ways, .ref h0_switches, .ref h0_kind, .ref h0_best, .ref h0_row, .int u.1, .int h0_bends, .int h0_full, .int h0_first, .int h0_punch])), (h0_room, .inl (g.2.1.1, 2048, .inl f_h0_room)), (h0_ways, .inl (g.2.1.1, 256, .inl f_h0_ways)), (h0_kind, .inl (g.2.1.1, 9, .inl f_h0_kind)), (h0_switches, .inl (g.2.1.1, 2048, .inl f_h0_switches)), (h0_row, .inl (g.2.1.1, 8, .inl u.2))]) := by
  refine zCv.mk2 (by decide) (Nat.le_of_ble_eq_true rfl) ?_
  intro p e s m below meth c A args Q hE hret hP hD hS ls hl
  obtain ⟨hx, hb, hr, hml, hown, hG, hlocks, hnm, hX, hA⟩ := hE
  have hown : s.vm.findClass RX3 = some m.cls := hown
  have hl : lv_has ls 4 [(0, .ref h0)] := hl
  refine lv_aload_n hx hb dX3_walkThrifty_0 rfl (lv_at hl 0 rfl) ?_
  refine va_get (D := g.1) (ci := 3) (v := .int h0_first) (C := RX3) (T := TX3) (N := 13) hx hb hG iX3 hown hX.1 hP 0 rfl rfl 11 (by decide) (hG _ wf_X3_84) (fun _ h9 => h9) rfl dX3_walkThrifty_1 ?_
  refine lv_istore_n (lv' := [(1, .int h0_first), (0, .ref h0)]) hx hb dX3_walkThrifty_4 rfl hl (by decide) rfl (fun ls hl => ?_)
  refine lv_iconst (v := 0) hx hb dX3_walkThrifty_5 (by decide) ?_
  refine lv_istore_n (lv' := [(2, .int 0), (1, .int h0_first), (0, .ref h0)]) hx hb dX3_walkThrifty_6 rfl hl (by decide) rfl (fun ls hl => ?_)
  refine lv_aload_n hx hb dX3_walkThrifty_7 rfl (lv_at hl 2 rfl) ?_
  refine lv_iconst (v := 0) hx hb dX3_walkThrifty_8 (by decide) ?_
  refine va_put (D := g.1) (ci := 3) (v := .int 0) (ty := .int) (C := RX3) (T := TX3) (N := 13) hx hb hG iX3 tyX3 tyX3_ok nmX3 hown hX.1 hP hD hS 0 rfl rfl 8 (by decide) (hG _ wf_X3_108) (fun _ h9 => h9) rfl (by decide +kernel) rfl rfl (Nat.le_of_ble_eq_true rfl) dX3_walkThrifty_9 (fun H locs hP hD hS => ?_)
  have hP : va_P g.1 vwCl [(h0, .inr (3, [.ref h0_room, .ref h0_clashing, .ref h0_reach, .ref h0_ways, .ref h0_switches, .ref h0_kind, .ref h0_best, .ref h0_row, .int 0, .int h0_bends, .int h0_full, .int h0_first, .int h0_punch])), (h0_room, .inl (g.2.1.1, 2048, .inl f_h0_room)), (h0_ways, .inl (g.2.1.1, 256, .inl f_h0_ways)), (h0_kind, .inl (g.2.1.1, 9, .inl f_h0_kind)), (h0_switches, .inl (g.2.1.1, 2048, .inl f_h0_switches)), (h0_row, .inl (g.2.1.1, 8, .inl f_h0_row))] H := hP
  have hD : va_D A [(h0, .inr (3, [.ref h0_room, .ref h0_clashing, .ref h0_reach, .ref h0_ways, .ref h0_switches, .ref h0_kind, .ref h0_best, .ref h0_row, .int 0, .int h0_bends, .int h0_full, .int h0_first, .int h0_punch])), (h0_room, .inl (g.2.1.1, 2048, .inl f_h0_room)), (h0_ways, .inl (g.2.1.1, 256, .inl f_h0_ways)), (h0_kind, .inl (g.2.1.1, 9, .inl f_h0_kind)), (h0_switches, .inl (g.2.1.1, 2048, .inl f_h0_switches)), (h0_row, .inl (g.2.1.1, 8, .inl f_h0_row))] := hD
  refine lv_iconst (v := 0) hx hb dX3_walkThrifty_12 (by decide) ?_
  refine lv_istore_n (lv' := [(3, .int 0), (2, .int 0), (1, .int h0_first), (0, .ref h0)]) hx hb dX3_walkThrifty_13 rfl hl (by decide) rfl (fun ls hl => ?_)
  have L196 : ∀ (n : Nat) (v170 : Int32) (v171 : Int32) (v172 : Int32) (v173 : Int32) (fn174 : Nat → Int32) (H : Heap) (locs : List Loc) (ls : Array Slot), 0 ≤ v170.toInt ∧ v170.toInt ≤ 255 → 0 ≤ v171.toInt ∧ v171.toInt ≤ 8 → 0 ≤ v172.toInt ∧ v172.toInt ≤ 8 → 0 ≤ v173.toInt ∧ v173.toInt ≤ 8 → True → pRow v173 fn174 → (9 - v172.toInt).toNat < n → va_P g.1 vwCl [(h0, .inr (3, [.ref h0_room, .ref h0_clashing, .ref h0_reach, .ref h0_ways, .ref h0_switches, .ref h0_kind, .ref h0_best, .ref h0_row, .int v173, .int h0_bends, .int h0_full, .int h0_first, .int h0_punch])), (h0_room, .inl (g.2.1.1, 2048, .inl f_h0_room)), (h0_ways, .inl (g.2.1.1, 256, .inl f_h0_ways)), (h0_kind, .inl (g.2.1.1, 9, .inl f_h0_kind)), (h0_switches, .inl (g.2.1.1, 2048, .inl f_h0_switches)), (h0_row, .inl (g.2.1.1, 8, .inl fn174))] H → va_D A [(h0, .inr (3, [.ref h0_room, .ref h0_clashing, .ref h0_reach, .ref h0_ways, .ref h0_switches, .ref h0_kind, .ref h0_best, .ref h0_row, .int v173, .int h0_bends, .int h0_full, .int h0_first, .int h0_punch])), (h0_room, .inl (g.2.1.1, 2048, .inl f_h0_room)), (h0_ways, .inl (g.2.1.1, 256, .inl f_h0_ways)), (h0_kind, .inl (g.2.1.1, 9, .inl f_h0_kind)), (h0_switches, .inl (g.2.1.1, 2048, .inl f_h0_switches)), (h0_row, .inl (g.2.1.1, 8, .inl fn174))] → va_S A s.heap H locs → lv_has ls 4 [(0, .ref h0), (1, .int v170), (2, .int v171), (3, .int v172)] → W p l e rm_kX3_walkThrifty s m args below meth c H locs 0 0 Q (F0 m 14 ls []) := by
    intro n197
    induction n197 with
    | zero => intro v170 v171 v172 v173 fn174 H locs ls i199 i200 i201 i202 hf203 hc204 hm205; exact absurd hm205 (Nat.not_lt_zero _)
    | succ n197 ih198 =>
      intro v170 v171 v172 v173 fn174 H locs ls i199 i200 i201 i202 hf203 hc204 hm205 hP hD hS hl
      refine lv_iload_n hx hb dX3_walkThrifty_14 rfl (lv_at hl 3 rfl) ?_
      refine lv_bipush (v := 8) hx hb dX3_walkThrifty_15 (by decide) ?_
      refine lv_icmp_ge (tgt := 53) hx hb dX3_walkThrifty_17 (by decide) (fun c206 => ?_) (fun c206 => ?_)
      · skip
        have c206i : (8 : Int) ≤ v172.toInt := (zc_le (show (8 : Int32).toInt = (8 : Int) from by decide) (rfl : v172.toInt = _)).mp c206
        exact hret (v173, fn174) (Nat.le_of_ble_eq_true rfl) (Nat.le_of_ble_eq_true rfl) ⟨ox_1 i202, trivial, hc204⟩ hP hD hS dX3_walkThrifty_53
      · skip
        have c206i : ¬ ((8 : Int) ≤ v172.toInt) := fun q => c206 ((zc_le (show (8 : Int32).toInt = (8 : Int) from by decide) (rfl : v172.toInt = _)).mpr q)
        refine lv_iload_n hx hb dX3_walkThrifty_20 rfl (lv_at hl 1 rfl) ?_
        refine lv_aload_n hx hb dX3_walkThrifty_21 rfl (lv_at hl 0 rfl) ?_
        refine va_get (D := g.1) (ci := 3) (v := .int h0_full) (C := RX3) (T := TX3) (N := 13) hx hb hG iX3 hown hX.1 hP 0 rfl rfl 10 (by decide) (hG _ wf_X3_43) (fun _ h9 => h9) rfl dX3_walkThrifty_22 ?_
        refine lv_icmp_eq (tgt := 53) hx hb dX3_walkThrifty_25 (by decide) (fun c207 => ?_) (fun c207 => ?_)
        · skip
          have c207i : v170.toInt = h0_full.toInt := (zc_eq (rfl : v170.toInt = _) (rfl : h0_full.toInt = _)).mp c207
          exact hret (v173, fn174) (Nat.le_of_ble_eq_true rfl) (Nat.le_of_ble_eq_true rfl) ⟨ox_1 i202, trivial, hc204⟩ hP hD hS dX3_walkThrifty_53
        · skip
          have c207i : ¬ (v170.toInt = h0_full.toInt) := fun q => c207 ((zc_eq (rfl : v170.toInt = _) (rfl : h0_full.toInt = _)).mpr q)
          refine lv_aload_n hx hb dX3_walkThrifty_28 rfl (lv_at hl 0 rfl) ?_
          refine lv_iload_n hx hb dX3_walkThrifty_29 rfl (lv_at hl 1 rfl) ?_
          refine lv_iload_n hx hb dX3_walkThrifty_30 rfl (lv_at hl 2 rfl) ?_
          refine zfi (wr := [(h0_row, .inl (g.2.1.1, 8, .inl fn174))]) (va_runV (As := [.int v170, .int v171]) (rest := []) ⟨hx, hb, hml, hown, hG⟩ (kX3_firstThrifty l g h0 v170 v171 h0_room h0_clashing h0_reach h0_ways h0_switches h0_kind h0_best h0_row v173 h0_bends h0_full h0_first h0_punch f_h0_room f_h0_ways f_h0_kind f_h0_switches (ox_284 c207i hy2 i199) (ox_1 i200) (ox_1 i202) (ox_274 hy1) (ox_285 c207i hy2 i199) (ox_228 hy3) _) ⟨callB_of 2 hG (zGood wc_X3_firstThrifty) rfl rfl rfl (hG _ wini_X3) (hG _ wm_X3_144) hX3_firstThrifty ⟨Nat.le_of_ble_eq_true rfl, Nat.le_of_ble_eq_true rfl⟩, hG _ wi_X3_firstThrifty, hG _ wse_X3_X3_firstThrifty⟩ (zpreV (va_recv hX.1 hP (ci := 3) (q0 := 0) rfl rfl) hX hP hD hS hA [0, 1, 2, 3, 4] rfl (by decide)) rfl rfl hl.1 rfl (lv_room (Nat.le_of_ble_eq_true rfl)) dX3_walkThrifty_31 ⟨Nat.le_of_ble_eq_true rfl, Nat.le_of_ble_eq_true rfl⟩) hP hD hS hA [0, 1, 2, 3, 4] [5] rfl rfl (by decide) (by decide) (fun r208 _ H locs hp hP hD hS => ?_)
          refine W.cs (cells' := 0) (slots' := 0) rfl rfl ?_
          have hq209 : 0 ≤ r208.toInt ∧ r208.toInt ≤ 8 := hp
          have hP : va_P g.1 vwCl [(h0_row, .inl (g.2.1.1, 8, .inl fn174)), (h0, .inr (3, [.ref h0_room, .ref h0_clashing, .ref h0_reach, .ref h0_ways, .ref h0_switches, .ref h0_kind, .ref h0_best, .ref h0_row, .int v173, .int h0_bends, .int h0_full, .int h0_first, .int h0_punch])), (h0_room, .inl (g.2.1.1, 2048, .inl f_h0_room)), (h0_ways, .inl (g.2.1.1, 256, .inl f_h0_ways)), (h0_kind, .inl (g.2.1.1, 9, .inl f_h0_kind)), (h0_switches, .inl (g.2.1.1, 2048, .inl f_h0_switches))] H := hP
          have hD : va_D A [(h0_row, .inl (g.2.1.1, 8, .inl fn174)), (h0, .inr (3, [.ref h0_room, .ref h0_clashing, .ref h0_reach, .ref h0_ways, .ref h0_switches, .ref h0_kind, .ref h0_best, .ref h0_row, .int v173, .int h0_bends, .int h0_full, .int h0_first, .int h0_punch])), (h0_room, .inl (g.2.1.1, 2048, .inl f_h0_room)), (h0_ways, .inl (g.2.1.1, 256, .inl f_h0_ways)), (h0_kind, .inl (g.2.1.1, 9, .inl f_h0_kind)), (h0_switches, .inl (g.2.1.1, 2048, .inl f_h0_switches))] := hD
          refine lv_istore_n (lv' := [(2, .int r208), (0, .ref h0), (1, .int v170), (3, .int v172)]) hx hb dX3_walkThrifty_34 rfl hl (by decide) rfl (fun ls hl => ?_)
          refine lv_iload_n hx hb dX3_walkThrifty_35 rfl (lv_at hl 0 rfl) ?_
          refine lv_if_ne (tgt := 40) hx hb dX3_walkThrifty_36 (by decide) (fun c210 => ?_) (fun c210 => ?_)
          · skip
            have c210i : ¬ (r208.toInt = (0 : Int)) := fun q => c210 ((zc_eq (rfl : r208.toInt = _) (show (0 : Int32).toInt = (0 : Int) from by decide)).mpr q)
            refine lv_aload_n hx hb dX3_walkThrifty_40 rfl (lv_at hl 1 rfl) ?_
            refine lv_iload_n hx hb dX3_walkThrifty_41 rfl (lv_at hl 2 rfl) ?_
            refine lv_iload_n hx hb dX3_walkThrifty_42 rfl (lv_at hl 0 rfl) ?_
            refine zfi (wr := [(h0_room, .inl (g.2.1.1, 2048, .inl f_h0_room)), (h0_ways, .inl (g.2.1.1, 256, .inl f_h0_ways)), (h0_kind, .inl (g.2.1.1, 9, .inl f_h0_kind)), (h0_switches, .inl (g.2.1.1, 2048, .inl f_h0_switches))]) (va_runV (As := [.int v170, .int r208]) (rest := []) ⟨hx, hb, hml, hown, hG⟩ (kX3_append l g h0 v170 r208 h0_room h0_clashing h0_reach h0_ways h0_switches h0_kind h0_best h0_row v173 h0_bends h0_full h0_first h0_punch fn174 (ox_284 c207i hy2 i199) (ox_286 c210i hq209) (ox_1 i202) (ox_274 hy1) (ox_285 c207i hy2 i199) (ox_228 hy3) trivial hc204 _) ⟨callB_of 2 hG (zGood wc_X3_append) rfl rfl rfl (hG _ wini_X3) (hG _ wm_X3_114) hX3_append ⟨Nat.le_of_ble_eq_true rfl, Nat.le_of_ble_eq_true rfl⟩, hG _ wi_X3_append, hG _ wse_X3_X3_append⟩ (zpreV (va_recv hX.1 hP (ci := 3) (q0 := 1) rfl rfl) hX hP hD hS hA [1, 0] rfl (by decide)) rfl rfl hl.1 rfl (lv_room (Nat.le_of_ble_eq_true rfl)) dX3_walkThrifty_43 ⟨Nat.le_of_ble_eq_true rfl, Nat.le_of_ble_eq_true rfl⟩) hP hD hS hA [1, 0] [2, 3, 4, 5] rfl rfl (by decide) (by decide) (fun r211 u212 H locs hp hP hD hS => ?_)
            refine W.cs (cells' := 0) (slots' := 0) rfl rfl ?_
            obtain ⟨v213, f214⟩ := u212
            obtain ⟨hq215, hq216, hq217, hq218⟩ : (1 ≤ v213.toInt ∧ v213.toInt ≤ 8) ∧ (True) ∧ (0 ≤ r211.toInt ∧ r211.toInt ≤ 255) ∧ (pRow v213 f214) := hp
            have hP : va_P g.1 vwCl [(h0_room, .inl (g.2.1.1, 2048, .inl f_h0_room)), (h0_ways, .inl (g.2.1.1, 256, .inl f_h0_ways)), (h0_kind, .inl (g.2.1.1, 9, .inl f_h0_kind)), (h0_switches, .inl (g.2.1.1, 2048, .inl f_h0_switches)), (h0, .inr (3, [.ref h0_room, .ref h0_clashing, .ref h0_reach, .ref h0_ways, .ref h0_switches, .ref h0_kind, .ref h0_best, .ref h0_row, .int v213, .int h0_bends, .int h0_full, .int h0_first, .int h0_punch])), (h0_row, .inl (g.2.1.1, 8, .inl f214))] H := hP
            have hD : va_D A [(h0_room, .inl (g.2.1.1, 2048, .inl f_h0_room)), (h0_ways, .inl (g.2.1.1, 256, .inl f_h0_ways)), (h0_kind, .inl (g.2.1.1, 9, .inl f_h0_kind)), (h0_switches, .inl (g.2.1.1, 2048, .inl f_h0_switches)), (h0, .inr (3, [.ref h0_room, .ref h0_clashing, .ref h0_reach, .ref h0_ways, .ref h0_switches, .ref h0_kind, .ref h0_best, .ref h0_row, .int v213, .int h0_bends, .int h0_full, .int h0_first, .int h0_punch])), (h0_row, .inl (g.2.1.1, 8, .inl f214))] := hD
            refine lv_istore_n (lv' := [(1, .int r211), (2, .int r208), (0, .ref h0), (3, .int v172)]) hx hb dX3_walkThrifty_46 rfl hl (by decide) rfl (fun ls hl => ?_)
            obtain ⟨z219, e220⟩ : ∃ y9 : Int32, y9 = v172 + 1 := ⟨_, rfl⟩
            have f221 : z219.toInt = v172.toInt + 1 := za e220 (rfl : v172.toInt = _) (show (1 : Int32).toInt = (1 : Int) from by decide) (ox_287 (zr v172) c206i i201)
            refine lv_iinc (v := z219) (lv' := [(3, .int z219), (1, .int r211), (2, .int r208), (0, .ref h0)]) hx hb dX3_walkThrifty_47 hl (k := 3) rfl (by rw [e220]; rfl) (by decide) rfl (fun ls hl => ?_)
            refine lv_goto (tgt := 14) hx hb dX3_walkThrifty_50 (by decide) ?_
            exact ih198 r211 r208 z219 v213 f214 H locs ls (ox_228 hq217) (ox_325 c210i hq209) (ox_288 c206i f221 i201) (ox_207 hq215) trivial hq218 (zdec hm205 (ox_289 c206i f221 i201)) (hP.sub [4, 0, 1, 2, 3, 5] rfl) (hD.sub [4, 0, 1, 2, 3, 5] (by decide) rfl) hS (lv_sub hl [3, 1, 2, 0] rfl)
          · skip
            have c210i : r208.toInt = (0 : Int) := (zc_eq (rfl : r208.toInt = _) (show (0 : Int32).toInt = (0 : Int) from by decide)).mp c210
            exact hret (v173, fn174) (Nat.le_of_ble_eq_true rfl) (Nat.le_of_ble_eq_true rfl) ⟨ox_1 i202, trivial, hc204⟩ (hP.sub [1, 2, 3, 4, 5, 0] rfl) (hD.sub [1, 2, 3, 4, 5, 0] (by decide) rfl) hS dX3_walkThrifty_39
  exact L196 _ h0_first (0 : Int32) (0 : Int32) (0 : Int32) f_h0_row H locs ls (ox_228 hy3) ((show 0 ≤ (0 : Int) ∧ (0 : Int) ≤ 8 from by decide)) ((show 0 ≤ (0 : Int) ∧ (0 : Int) ≤ 8 from by decide)) ((show 0 ≤ (0 : Int) ∧ (0 : Int) ≤ 8 from by decide)) trivial (pRow.zero (by decide)) (Nat.lt_succ_self _) hP hD hS (lv_sub hl [3, 2, 1, 0] rfl)
theorem dX3_tallestPunch_0 : decode cX3_tallestPunch 0 = .ok (.aload_n 0, 1) := by decide +kernel
theorem dX3_tallestPunch_1 : decode cX3_tallestPunch 1 = .ok (.getfield 31, 3) := by decide +kernel
theorem dX3_tallestPunch_4 : decode cX3_tallestPunch 4 = .ok (.aload_n 0, 1) := by decide +kernel
theorem dX3_tallestPunch_5 : decode cX3_tallestPunch 5 = .ok (.getfield 43, 3) := by decide +kernel
theorem dX3_tallestPunch_8 : decode cX3_tallestPunch 8 = .ok (.bipush 99, 2) := by decide +kernel
theorem dX3_tallestPunch_10 : decode cX3_tallestPunch 10 = .ok (.iastore, 1) := by decide +kernel
theorem dX3_tallestPunch_11 : decode cX3_tallestPunch 11 = .ok (.aload_n 0, 1) := by decide +kernel
theorem dX3_tallestPunch_12 : decode cX3_tallestPunch 12 = .ok (.getfield 43, 3) := by decide +kernel
theorem dX3_tallestPunch_15 : decode cX3_tallestPunch 15 = .ok (.iconst 1, 1) := by decide +kernel
theorem dX3_tallestPunch_16 : decode cX3_tallestPunch 16 = .ok (.isub, 1) := by decide +kernel
theorem dX3_tallestPunch_17 : decode cX3_tallestPunch 17 = .ok (.istore_n 1, 1) := by decide +kernel
theorem dX3_tallestPunch_18 : decode cX3_tallestPunch 18 = .ok (.iload_n 1, 1) := by decide +kernel
theorem dX3_tallestPunch_19 : decode cX3_tallestPunch 19 = .ok (.aload_n 0, 1) := by decide +kernel
theorem dX3_tallestPunch_20 : decode cX3_tallestPunch 20 = .ok (.getfield 84, 3) := by decide +kernel
theorem dX3_tallestPunch_23 : decode cX3_tallestPunch 23 = .ok (.if_icmp .lt 84, 3) := by decide +kernel
theorem dX3_tallestPunch_107 : decode cX3_tallestPunch 107 = .ok (.aload_n 0, 1) := by decide +kernel
theorem dX3_tallestPunch_108 : decode cX3_tallestPunch 108 = .ok (.getfield 31, 3) := by decide +kernel
theorem dX3_tallestPunch_111 : decode cX3_tallestPunch 111 = .ok (.aload_n 0, 1) := by decide +kernel
theorem dX3_tallestPunch_112 : decode cX3_tallestPunch 112 = .ok (.getfield 84, 3) := by decide +kernel
theorem dX3_tallestPunch_115 : decode cX3_tallestPunch 115 = .ok (.iaload, 1) := by decide +kernel
theorem dX3_tallestPunch_116 : decode cX3_tallestPunch 116 = .ok (.ireturn, 1) := by decide +kernel
theorem dX3_tallestPunch_26 : decode cX3_tallestPunch 26 = .ok (.aload_n 0, 1) := by decide +kernel
theorem dX3_tallestPunch_27 : decode cX3_tallestPunch 27 = .ok (.getfield 31, 3) := by decide +kernel
theorem dX3_tallestPunch_30 : decode cX3_tallestPunch 30 = .ok (.iload_n 1, 1) := by decide +kernel
theorem dX3_tallestPunch_31 : decode cX3_tallestPunch 31 = .ok (.iconst 0, 1) := by decide +kernel
theorem dX3_tallestPunch_32 : decode cX3_tallestPunch 32 = .ok (.iastore, 1) := by decide +kernel
theorem dX3_tallestPunch_33 : decode cX3_tallestPunch 33 = .ok (.iconst 1, 1) := by decide +kernel
theorem dX3_tallestPunch_34 : decode cX3_tallestPunch 34 = .ok (.istore_n 2, 1) := by decide +kernel
theorem dX3_tallestPunch_35 : decode cX3_tallestPunch 35 = .ok (.iload_n 2, 1) := by decide +kernel
theorem dX3_tallestPunch_36 : decode cX3_tallestPunch 36 = .ok (.aload_n 0, 1) := by decide +kernel
theorem dX3_tallestPunch_37 : decode cX3_tallestPunch 37 = .ok (.getfield 50, 3) := by decide +kernel
theorem dX3_tallestPunch_40 : decode cX3_tallestPunch 40 = .ok (.if_icmp .gt 61, 3) := by decide +kernel
theorem dX3_tallestPunch_101 : decode cX3_tallestPunch 101 = .ok (.iinc 1 (-1), 3) := by decide +kernel
theorem dX3_tallestPunch_104 : decode cX3_tallestPunch 104 = .ok (.goto (-86), 3) := by decide +kernel
theorem dX3_tallestPunch_43 : decode cX3_tallestPunch 43 = .ok (.aload_n 0, 1) := by decide +kernel
theorem dX3_tallestPunch_44 : decode cX3_tallestPunch 44 = .ok (.getfield 9, 3) := by decide +kernel
theorem dX3_tallestPunch_47 : decode cX3_tallestPunch 47 = .ok (.iload_n 1, 1) := by decide +kernel
theorem dX3_tallestPunch_48 : decode cX3_tallestPunch 48 = .ok (.iload_n 2, 1) := by decide +kernel
theorem dX3_tallestPunch_49 : decode cX3_tallestPunch 49 = .ok (.invokestatic 74, 3) := by decide +kernel
theorem dX3_tallestPunch_52 : decode cX3_tallestPunch 52 = .ok (.iaload, 1) := by decide +kernel
theorem dX3_tallestPunch_95 : decode cX3_tallestPunch 95 = .ok (.iinc 2 1, 3) := by decide +kernel
theorem dX3_tallestPunch_98 : decode cX3_tallestPunch 98 = .ok (.goto (-63), 3) := by decide +kernel
theorem dX3_tallestPunch_53 : decode cX3_tallestPunch 53 = .ok (.ifCond .le 42, 3) := by decide +kernel
theorem dX3_tallestPunch_56 : decode cX3_tallestPunch 56 = .ok (.aload_n 0, 1) := by decide +kernel
theorem dX3_tallestPunch_57 : decode cX3_tallestPunch 57 = .ok (.getfield 31, 3) := by decide +kernel
theorem dX3_tallestPunch_60 : decode cX3_tallestPunch 60 = .ok (.iload_n 1, 1) := by decide +kernel
theorem dX3_tallestPunch_61 : decode cX3_tallestPunch 61 = .ok (.aload_n 0, 1) := by decide +kernel
theorem dX3_tallestPunch_62 : decode cX3_tallestPunch 62 = .ok (.getfield 31, 3) := by decide +kernel
theorem dX3_tallestPunch_65 : decode cX3_tallestPunch 65 = .ok (.iload_n 1, 1) := by decide +kernel
theorem dX3_tallestPunch_66 : decode cX3_tallestPunch 66 = .ok (.iaload, 1) := by decide +kernel
theorem dX3_tallestPunch_67 : decode cX3_tallestPunch 67 = .ok (.aload_n 0, 1) := by decide +kernel
theorem dX3_tallestPunch_68 : decode cX3_tallestPunch 68 = .ok (.getfield 9, 3) := by decide +kernel
theorem dX3_tallestPunch_71 : decode cX3_tallestPunch 71 = .ok (.iload_n 1, 1) := by decide +kernel
theorem dX3_tallestPunch_72 : decode cX3_tallestPunch 72 = .ok (.iload_n 2, 1) := by decide +kernel
theorem dX3_tallestPunch_73 : decode cX3_tallestPunch 73 = .ok (.invokestatic 74, 3) := by decide +kernel
theorem dX3_tallestPunch_76 : decode cX3_tallestPunch 76 = .ok (.iaload, 1) := by decide +kernel
theorem dX3_tallestPunch_77 : decode cX3_tallestPunch 77 = .ok (.aload_n 0, 1) := by decide +kernel
theorem dX3_tallestPunch_78 : decode cX3_tallestPunch 78 = .ok (.getfield 31, 3) := by decide +kernel
theorem dX3_tallestPunch_81 : decode cX3_tallestPunch 81 = .ok (.iload_n 1, 1) := by decide +kernel
theorem dX3_tallestPunch_82 : decode cX3_tallestPunch 82 = .ok (.iload_n 2, 1) := by decide +kernel
theorem dX3_tallestPunch_83 : decode cX3_tallestPunch 83 = .ok (.invokestatic 70, 3) := by decide +kernel
theorem dX3_tallestPunch_86 : decode cX3_tallestPunch 86 = .ok (.ior, 1) := by decide +kernel
theorem dX3_tallestPunch_87 : decode cX3_tallestPunch 87 = .ok (.iaload, 1) := by decide +kernel
theorem dX3_tallestPunch_88 : decode cX3_tallestPunch 88 = .ok (.invokestatic 141, 3) := by decide +kernel
theorem dX3_tallestPunch_91 : decode cX3_tallestPunch 91 = .ok (.invokestatic 87, 3) := by decide +kernel
theorem dX3_tallestPunch_94 : decode cX3_tallestPunch 94 = .ok (.iastore, 1) := by decide +kernel
abbrev rm_kX3_tallestPunch : Room := { frames := 1, cells := 0, slots := 0, locals := 21 }
set_option maxHeartbeats 4000000 in
set_option maxRecDepth 100000 in
theorem kX3_tallestPunch (l : Launch) (g : zL) (h0 : Nat) (h0_room : Nat) (h0_clashing : Nat) (h0_reach : Nat) (h0_ways : Nat) (h0_switches : Nat) (h0_kind : Nat) (h0_best : Nat) (h0_row : Nat) (h0_rowLength : Int32) (h0_bends : Int32) (h0_full : Int32) (h0_first : Int32) (h0_punch : Int32) (f_h0_best : Nat → Int32) (f_h0_room : Nat → Int32) (hy0 : 0 ≤ h0_rowLength.toInt ∧ h0_rowLength.toInt ≤ 8) (hy1 : (-1) ≤ h0_bends.toInt ∧ h0_bends.toInt ≤ 8) (hy2 : 0 ≤ h0_full.toInt ∧ h0_full.toInt ≤ 255) (hy3 : 0 ≤ h0_first.toInt ∧ h0_first.toInt ≤ 255) : zCi l g yX3_tallestPunch cX3_tallestPunch 3 (some .int) rm_kX3_tallestPunch [.ref h0] [(h0, .inr (3, [.ref h0_room, .ref h0_clashing, .ref h0_reach, .ref h0_ways, .ref h0_switches, .ref h0_kind, .ref h0_best, .ref h0_row, .int h0_rowLength, .int h0_bends, .int h0_full, .int h0_first, .int h0_punch])), (h0_best, .inl (g.2.1.1, 256, .inl f_h0_best)), (h0_room, .inl (g.2.1.1, 2048, .inl f_h0_room))] (fun (r : Int32) (u : (Nat → Int32)) => True) (fun (u : (Nat → Int32)) => [(h0, .inr (3, [.ref h0_room, .ref h0_clashing, .ref h0_reach, .ref h0_ways, .ref h0_switches, .ref h0_kind, .ref h0_best, .ref h0_row, .int h0_rowLength, .int h0_bends, .int h0_full, .int h0_first, .int h0_punch])), (h0_best, .inl (g.2.1.1, 256, .inl u)), (h0_room, .inl (g.2.1.1, 2048, .inl f_h0_room))]) := by
  refine zCi.mk2 (by decide) (Nat.le_of_ble_eq_true rfl) ?_
  intro p e s m below meth c A args Q hE hret hP hD hS ls hl
  obtain ⟨hx, hb, hr, hml, hown, hG, hlocks, hnm, hX, hA⟩ := hE
  have hown : s.vm.findClass RX3 = some m.cls := hown
  have hl : lv_has ls 3 [(0, .ref h0)] := hl
  refine lv_aload_n hx hb dX3_tallestPunch_0 rfl (lv_at hl 0 rfl) ?_
  refine va_get (D := g.1) (ci := 3) (v := .ref h0_best) (C := RX3) (T := TX3) (N := 13) hx hb hG iX3 hown hX.1 hP 0 rfl rfl 6 (by decide) (hG _ wf_X3_31) (fun _ h9 => h9) rfl dX3_tallestPunch_1 ?_
  refine lv_aload_n hx hb dX3_tallestPunch_4 rfl (lv_at hl 0 rfl) ?_
  refine va_get (D := g.1) (ci := 3) (v := .int h0_full) (C := RX3) (T := TX3) (N := 13) hx hb hG iX3 hown hX.1 hP 0 rfl rfl 10 (by decide) (hG _ wf_X3_43) (fun _ h9 => h9) rfl dX3_tallestPunch_5 ?_
  refine lv_bipush (v := 99) hx hb dX3_tallestPunch_8 (by decide) ?_
  refine va_iast hx hb hX.1 hP hD hS 1 0 rfl rfl (zin (rfl : h0_full.toInt = _) (ox_230 hy2)) dX3_tallestPunch_10 (fun H locs hP hD hS => ?_)
  obtain ⟨f1, e2⟩ : ∃ z9 : Nat → Int32, z9 = upd f_h0_best h0_full.toNatClampNeg (99 : Int32) := ⟨_, rfl⟩
  rw [← e2] at hP hD
  have hP : va_P g.1 vwCl [(h0, .inr (3, [.ref h0_room, .ref h0_clashing, .ref h0_reach, .ref h0_ways, .ref h0_switches, .ref h0_kind, .ref h0_best, .ref h0_row, .int h0_rowLength, .int h0_bends, .int h0_full, .int h0_first, .int h0_punch])), (h0_best, .inl (g.2.1.1, 256, .inl f1)), (h0_room, .inl (g.2.1.1, 2048, .inl f_h0_room))] H := hP
  have hD : va_D A [(h0, .inr (3, [.ref h0_room, .ref h0_clashing, .ref h0_reach, .ref h0_ways, .ref h0_switches, .ref h0_kind, .ref h0_best, .ref h0_row, .int h0_rowLength, .int h0_bends, .int h0_full, .int h0_first, .int h0_punch])), (h0_best, .inl (g.2.1.1, 256, .inl f1)), (h0_room, .inl (g.2.1.1, 2048, .inl f_h0_room))] := hD
  refine lv_aload_n hx hb dX3_tallestPunch_11 rfl (lv_at hl 0 rfl) ?_
  refine va_get (D := g.1) (ci := 3) (v := .int h0_full) (C := RX3) (T := TX3) (N := 13) hx hb hG iX3 hown hX.1 hP 0 rfl rfl 10 (by decide) (hG _ wf_X3_43) (fun _ h9 => h9) rfl dX3_tallestPunch_12 ?_
  refine lv_iconst (v := 1) hx hb dX3_tallestPunch_15 (by decide) ?_
  refine lv_isub hx hb dX3_tallestPunch_16 ?_
  refine lv_topi (fun z3 e4 => ?_)
  have f5 : z3.toInt = h0_full.toInt - (1 : Int) := zs e4 (rfl : h0_full.toInt = _) (show (1 : Int32).toInt = (1 : Int) from by decide) (ox_326 (zr h0_full) hy2)
  refine lv_istore_n (lv' := [(1, .int z3), (0, .ref h0)]) hx hb dX3_tallestPunch_17 rfl hl (by decide) rfl (fun ls hl => ?_)
  have L1596 : ∀ (n : Nat) (v1065 : Int32) (fn1066 : Nat → Int32) (H : Heap) (locs : List Loc) (ls : Array Slot), (-1) ≤ v1065.toInt ∧ v1065.toInt ≤ 254 → (v1065.toInt - (-2)).toNat < n → va_P g.1 vwCl [(h0, .inr (3, [.ref h0_room, .ref h0_clashing, .ref h0_reach, .ref h0_ways, .ref h0_switches, .ref h0_kind, .ref h0_best, .ref h0_row, .int h0_rowLength, .int h0_bends, .int h0_full, .int h0_first, .int h0_punch])), (h0_best, .inl (g.2.1.1, 256, .inl fn1066)), (h0_room, .inl (g.2.1.1, 2048, .inl f_h0_room))] H → va_D A [(h0, .inr (3, [.ref h0_room, .ref h0_clashing, .ref h0_reach, .ref h0_ways, .ref h0_switches, .ref h0_kind, .ref h0_best, .ref h0_row, .int h0_rowLength, .int h0_bends, .int h0_full, .int h0_first, .int h0_punch])), (h0_best, .inl (g.2.1.1, 256, .inl fn1066)), (h0_room, .inl (g.2.1.1, 2048, .inl f_h0_room))] → va_S A s.heap H locs → lv_has ls 3 [(0, .ref h0), (1, .int v1065)] → W p l e rm_kX3_tallestPunch s m args below meth c H locs 0 0 Q (F0 m 18 ls []) := by
    intro n1597
    induction n1597 with
    | zero => intro v1065 fn1066 H locs ls i1599 hm1600; exact absurd hm1600 (Nat.not_lt_zero _)
    | succ n1597 ih1598 =>
      intro v1065 fn1066 H locs ls i1599 hm1600 hP hD hS hl
      refine lv_iload_n hx hb dX3_tallestPunch_18 rfl (lv_at hl 1 rfl) ?_
      refine lv_aload_n hx hb dX3_tallestPunch_19 rfl (lv_at hl 0 rfl) ?_
      refine va_get (D := g.1) (ci := 3) (v := .int h0_first) (C := RX3) (T := TX3) (N := 13) hx hb hG iX3 hown hX.1 hP 0 rfl rfl 11 (by decide) (hG _ wf_X3_84) (fun _ h9 => h9) rfl dX3_tallestPunch_20 ?_
      refine lv_icmp_lt (tgt := 107) hx hb dX3_tallestPunch_23 (by decide) (fun c1601 => ?_) (fun c1601 => ?_)
      · skip
        have c1601i : v1065.toInt < h0_first.toInt := (zc_lt (rfl : v1065.toInt = _) (rfl : h0_first.toInt = _)).mp c1601
        refine lv_aload_n hx hb dX3_tallestPunch_107 rfl (lv_at hl 0 rfl) ?_
        refine va_get (D := g.1) (ci := 3) (v := .ref h0_best) (C := RX3) (T := TX3) (N := 13) hx hb hG iX3 hown hX.1 hP 0 rfl rfl 6 (by decide) (hG _ wf_X3_31) (fun _ h9 => h9) rfl dX3_tallestPunch_108 ?_
        refine lv_aload_n hx hb dX3_tallestPunch_111 rfl (lv_at hl 0 rfl) ?_
        refine va_get (D := g.1) (ci := 3) (v := .int h0_first) (C := RX3) (T := TX3) (N := 13) hx hb hG iX3 hown hX.1 hP 0 rfl rfl 11 (by decide) (hG _ wf_X3_84) (fun _ h9 => h9) rfl dX3_tallestPunch_112 ?_
        refine va_iald hx hb hX.1 hP 1 0 rfl rfl (zin (rfl : h0_first.toInt = _) (ox_327 c1601i hy3 i1599)) dX3_tallestPunch_115 ?_
        refine lv_topi (fun z1602 e1603 => ?_)
        exact hret z1602 fn1066 (Nat.le_of_ble_eq_true rfl) (Nat.le_of_ble_eq_true rfl) rfl trivial hP hD hS dX3_tallestPunch_116
      · skip
        have c1601i : ¬ (v1065.toInt < h0_first.toInt) := fun q => c1601 ((zc_lt (rfl : v1065.toInt = _) (rfl : h0_first.toInt = _)).mpr q)
        refine lv_aload_n hx hb dX3_tallestPunch_26 rfl (lv_at hl 0 rfl) ?_
        refine va_get (D := g.1) (ci := 3) (v := .ref h0_best) (C := RX3) (T := TX3) (N := 13) hx hb hG iX3 hown hX.1 hP 0 rfl rfl 6 (by decide) (hG _ wf_X3_31) (fun _ h9 => h9) rfl dX3_tallestPunch_27 ?_
        refine lv_iload_n hx hb dX3_tallestPunch_30 rfl (lv_at hl 1 rfl) ?_
        refine lv_iconst (v := 0) hx hb dX3_tallestPunch_31 (by decide) ?_
        refine va_iast hx hb hX.1 hP hD hS 1 0 rfl rfl (zin (rfl : v1065.toInt = _) (ox_260 c1601i hy3 i1599)) dX3_tallestPunch_32 (fun H locs hP hD hS => ?_)
        obtain ⟨f1604, e1605⟩ : ∃ z9 : Nat → Int32, z9 = upd fn1066 v1065.toNatClampNeg (0 : Int32) := ⟨_, rfl⟩
        rw [← e1605] at hP hD
        have hP : va_P g.1 vwCl [(h0, .inr (3, [.ref h0_room, .ref h0_clashing, .ref h0_reach, .ref h0_ways, .ref h0_switches, .ref h0_kind, .ref h0_best, .ref h0_row, .int h0_rowLength, .int h0_bends, .int h0_full, .int h0_first, .int h0_punch])), (h0_best, .inl (g.2.1.1, 256, .inl f1604)), (h0_room, .inl (g.2.1.1, 2048, .inl f_h0_room))] H := hP
        have hD : va_D A [(h0, .inr (3, [.ref h0_room, .ref h0_clashing, .ref h0_reach, .ref h0_ways, .ref h0_switches, .ref h0_kind, .ref h0_best, .ref h0_row, .int h0_rowLength, .int h0_bends, .int h0_full, .int h0_first, .int h0_punch])), (h0_best, .inl (g.2.1.1, 256, .inl f1604)), (h0_room, .inl (g.2.1.1, 2048, .inl f_h0_room))] := hD
        refine lv_iconst (v := 1) hx hb dX3_tallestPunch_33 (by decide) ?_
        refine lv_istore_n (lv' := [(2, .int 1), (0, .ref h0), (1, .int v1065)]) hx hb dX3_tallestPunch_34 rfl hl (by decide) rfl (fun ls hl => ?_)
        have L2072 : ∀ (n : Nat) (v2013 : Int32) (fn2014 : Nat → Int32) (H : Heap) (locs : List Loc) (ls : Array Slot), 1 ≤ v2013.toInt ∧ v2013.toInt ≤ 9 → (10 - v2013.toInt).toNat < n → va_P g.1 vwCl [(h0, .inr (3, [.ref h0_room, .ref h0_clashing, .ref h0_reach, .ref h0_ways, .ref h0_switches, .ref h0_kind, .ref h0_best, .ref h0_row, .int h0_rowLength, .int h0_bends, .int h0_full, .int h0_first, .int h0_punch])), (h0_best, .inl (g.2.1.1, 256, .inl fn2014)), (h0_room, .inl (g.2.1.1, 2048, .inl f_h0_room))] H → va_D A [(h0, .inr (3, [.ref h0_room, .ref h0_clashing, .ref h0_reach, .ref h0_ways, .ref h0_switches, .ref h0_kind, .ref h0_best, .ref h0_row, .int h0_rowLength, .int h0_bends, .int h0_full, .int h0_first, .int h0_punch])), (h0_best, .inl (g.2.1.1, 256, .inl fn2014)), (h0_room, .inl (g.2.1.1, 2048, .inl f_h0_room))] → va_S A s.heap H locs → lv_has ls 3 [(0, .ref h0), (1, .int v1065), (2, .int v2013)] → W p l e rm_kX3_tallestPunch s m args below meth c H locs 0 0 Q (F0 m 35 ls []) := by
          intro n2073
          induction n2073 with
          | zero => intro v2013 fn2014 H locs ls i2075 hm2076; exact absurd hm2076 (Nat.not_lt_zero _)
          | succ n2073 ih2074 =>
            intro v2013 fn2014 H locs ls i2075 hm2076 hP hD hS hl
            refine lv_iload_n hx hb dX3_tallestPunch_35 rfl (lv_at hl 2 rfl) ?_
            refine lv_aload_n hx hb dX3_tallestPunch_36 rfl (lv_at hl 0 rfl) ?_
            refine va_get (D := g.1) (ci := 3) (v := .int h0_bends) (C := RX3) (T := TX3) (N := 13) hx hb hG iX3 hown hX.1 hP 0 rfl rfl 9 (by decide) (hG _ wf_X3_50) (fun _ h9 => h9) rfl dX3_tallestPunch_37 ?_
            refine lv_icmp_gt (tgt := 101) hx hb dX3_tallestPunch_40 (by decide) (fun c2077 => ?_) (fun c2077 => ?_)
            · skip
              have c2077i : h0_bends.toInt < v2013.toInt := (zc_lt (rfl : h0_bends.toInt = _) (rfl : v2013.toInt = _)).mp c2077
              obtain ⟨z2078, e2079⟩ : ∃ y9 : Int32, y9 = v1065 + (-1) := ⟨_, rfl⟩
              have f2080 : z2078.toInt = v1065.toInt + (-1) := za e2079 (rfl : v1065.toInt = _) (show (-1 : Int32).toInt = (-1 : Int) from by decide) (ox_328 (zr h0_first) (zr v1065) c1601i hy3 i1599)
              refine lv_iinc (v := z2078) (lv' := [(1, .int z2078), (0, .ref h0), (2, .int v2013)]) hx hb dX3_tallestPunch_101 hl (k := 1) rfl (by rw [e2079]; rfl) (by decide) rfl (fun ls hl => ?_)
              refine lv_goto (tgt := 18) hx hb dX3_tallestPunch_104 (by decide) ?_
              exact ih1598 z2078 fn2014 H locs ls (ox_254 c1601i f2080 hy3 i1599) (zdec hm1600 (ox_255 c1601i f2080 hy3 i1599)) hP hD hS (lv_sub hl [1, 0] rfl)
            · skip
              have c2077i : ¬ (h0_bends.toInt < v2013.toInt) := fun q => c2077 ((zc_lt (rfl : h0_bends.toInt = _) (rfl : v2013.toInt = _)).mpr q)
              refine lv_aload_n hx hb dX3_tallestPunch_43 rfl (lv_at hl 0 rfl) ?_
              refine va_get (D := g.1) (ci := 3) (v := .ref h0_room) (C := RX3) (T := TX3) (N := 13) hx hb hG iX3 hown hX.1 hP 0 rfl rfl 0 (by decide) (hG _ wf_X3_9) (fun _ h9 => h9) rfl dX3_tallestPunch_44 ?_
              refine lv_iload_n hx hb dX3_tallestPunch_47 rfl (lv_at hl 1 rfl) ?_
              refine lv_iload_n hx hb dX3_tallestPunch_48 rfl (lv_at hl 2 rfl) ?_
              refine zfi (wr := [(h0, .inr (3, [.ref h0_room, .ref h0_clashing, .ref h0_reach, .ref h0_ways, .ref h0_switches, .ref h0_kind, .ref h0_best, .ref h0_row, .int h0_rowLength, .int h0_bends, .int h0_full, .int h0_first, .int h0_punch])), (h0_best, .inl (g.2.1.1, 256, .inl fn2014)), (h0_room, .inl (g.2.1.1, 2048, .inl f_h0_room))]) (va_runS (As := [.int v1065, .int v2013]) (rest := [.ref h0_room]) ⟨hx, hb, hml, hown, hG⟩ (kX3_cell l g v1065 v2013 (ox_256 c1601i hy3 i1599) (ox_261 c2077i hy1 i2075) _) ⟨callB_of 2 hG (zGood wc_X3_cell) rfl rfl rfl (hG _ wini_X3) (hG _ wm_X3_74) hX3_cell ⟨Nat.le_of_ble_eq_true rfl, Nat.le_of_ble_eq_true rfl⟩, hG _ ws_X3_cell⟩ (zpreS hX hP hD hS hA [] rfl (by decide)) rfl rfl hl.1 rfl (lv_room (Nat.le_of_ble_eq_true rfl)) dX3_tallestPunch_49 ⟨Nat.le_of_ble_eq_true rfl, Nat.le_of_ble_eq_true rfl⟩) hP hD hS hA [] [0, 1, 2] rfl rfl (by decide) (by decide) (fun r2081 _ H locs hp hP hD hS => ?_)
              refine W.cs (cells' := 0) (slots' := 0) rfl rfl ?_
              have hq2082 : 0 ≤ r2081.toInt ∧ r2081.toInt ≤ 2047 := hp
              have hP : va_P g.1 vwCl [(h0, .inr (3, [.ref h0_room, .ref h0_clashing, .ref h0_reach, .ref h0_ways, .ref h0_switches, .ref h0_kind, .ref h0_best, .ref h0_row, .int h0_rowLength, .int h0_bends, .int h0_full, .int h0_first, .int h0_punch])), (h0_best, .inl (g.2.1.1, 256, .inl fn2014)), (h0_room, .inl (g.2.1.1, 2048, .inl f_h0_room))] H := hP
              have hD : va_D A [(h0, .inr (3, [.ref h0_room, .ref h0_clashing, .ref h0_reach, .ref h0_ways, .ref h0_switches, .ref h0_kind, .ref h0_best, .ref h0_row, .int h0_rowLength, .int h0_bends, .int h0_full, .int h0_first, .int h0_punch])), (h0_best, .inl (g.2.1.1, 256, .inl fn2014)), (h0_room, .inl (g.2.1.1, 2048, .inl f_h0_room))] := hD
              refine va_iald hx hb hX.1 hP 2 0 rfl rfl (zin (rfl : r2081.toInt = _) (ox_229 hq2082)) dX3_tallestPunch_52 ?_
              refine lv_topi (fun z2083 e2084 => ?_)
              have J2108 : ∀  (fn2107 : Nat → Int32) (H : Heap) (locs : List Loc) (ls : Array Slot), va_P g.1 vwCl [(h0, .inr (3, [.ref h0_room, .ref h0_clashing, .ref h0_reach, .ref h0_ways, .ref h0_switches, .ref h0_kind, .ref h0_best, .ref h0_row, .int h0_rowLength, .int h0_bends, .int h0_full, .int h0_first, .int h0_punch])), (h0_best, .inl (g.2.1.1, 256, .inl fn2107)), (h0_room, .inl (g.2.1.1, 2048, .inl f_h0_room))] H → va_D A [(h0, .inr (3, [.ref h0_room, .ref h0_clashing, .ref h0_reach, .ref h0_ways, .ref h0_switches, .ref h0_kind, .ref h0_best, .ref h0_row, .int h0_rowLength, .int h0_bends, .int h0_full, .int h0_first, .int h0_punch])), (h0_best, .inl (g.2.1.1, 256, .inl fn2107)), (h0_room, .inl (g.2.1.1, 2048, .inl f_h0_room))] → va_S A s.heap H locs → lv_has ls 3 [(0, .ref h0), (1, .int v1065), (2, .int v2013)] → W p l e rm_kX3_tallestPunch s m args below meth c H locs 0 0 Q (F0 m 95 ls []) := by
                intro fn2107 H locs ls  hP hD hS hl
                obtain ⟨z2109, e2110⟩ : ∃ y9 : Int32, y9 = v2013 + 1 := ⟨_, rfl⟩
                have f2111 : z2109.toInt = v2013.toInt + 1 := za e2110 (rfl : v2013.toInt = _) (show (1 : Int32).toInt = (1 : Int) from by decide) (ox_262 (zr h0_bends) (zr v2013) c2077i hy1 i2075)
                refine lv_iinc (v := z2109) (lv' := [(2, .int z2109), (0, .ref h0), (1, .int v1065)]) hx hb dX3_tallestPunch_95 hl (k := 2) rfl (by rw [e2110]; rfl) (by decide) rfl (fun ls hl => ?_)
                refine lv_goto (tgt := 35) hx hb dX3_tallestPunch_98 (by decide) ?_
                exact ih2074 z2109 fn2107 H locs ls (ox_263 c2077i f2111 hy1 i2075) (zdec hm2076 (ox_264 c2077i f2111 hy1 i2075)) hP hD hS (lv_sub hl [1, 2, 0] rfl)
              refine lv_if_le (tgt := 95) hx hb dX3_tallestPunch_53 (by decide) (fun c2112 => ?_) (fun c2112 => ?_)
              · skip
                have c2112i : z2083.toInt ≤ (0 : Int) := (zc_le (rfl : z2083.toInt = _) (show (0 : Int32).toInt = (0 : Int) from by decide)).mp c2112
                exact J2108 fn2014 H locs ls  hP hD hS (lv_sub hl [0, 1, 2] rfl)
              · skip
                have c2112i : ¬ (z2083.toInt ≤ (0 : Int)) := fun q => c2112 ((zc_le (rfl : z2083.toInt = _) (show (0 : Int32).toInt = (0 : Int) from by decide)).mpr q)
                refine lv_aload_n hx hb dX3_tallestPunch_56 rfl (lv_at hl 0 rfl) ?_
                refine va_get (D := g.1) (ci := 3) (v := .ref h0_best) (C := RX3) (T := TX3) (N := 13) hx hb hG iX3 hown hX.1 hP 0 rfl rfl 6 (by decide) (hG _ wf_X3_31) (fun _ h9 => h9) rfl dX3_tallestPunch_57 ?_
                refine lv_iload_n hx hb dX3_tallestPunch_60 rfl (lv_at hl 1 rfl) ?_
                refine lv_aload_n hx hb dX3_tallestPunch_61 rfl (lv_at hl 0 rfl) ?_
                refine va_get (D := g.1) (ci := 3) (v := .ref h0_best) (C := RX3) (T := TX3) (N := 13) hx hb hG iX3 hown hX.1 hP 0 rfl rfl 6 (by decide) (hG _ wf_X3_31) (fun _ h9 => h9) rfl dX3_tallestPunch_62 ?_
                refine lv_iload_n hx hb dX3_tallestPunch_65 rfl (lv_at hl 1 rfl) ?_
                refine va_iald hx hb hX.1 hP 1 0 rfl rfl (zin (rfl : v1065.toInt = _) (ox_260 c1601i hy3 i1599)) dX3_tallestPunch_66 ?_
                refine lv_topi (fun z2113 e2114 => ?_)
                refine lv_aload_n hx hb dX3_tallestPunch_67 rfl (lv_at hl 0 rfl) ?_
                refine va_get (D := g.1) (ci := 3) (v := .ref h0_room) (C := RX3) (T := TX3) (N := 13) hx hb hG iX3 hown hX.1 hP 0 rfl rfl 0 (by decide) (hG _ wf_X3_9) (fun _ h9 => h9) rfl dX3_tallestPunch_68 ?_
                refine lv_iload_n hx hb dX3_tallestPunch_71 rfl (lv_at hl 1 rfl) ?_
                refine lv_iload_n hx hb dX3_tallestPunch_72 rfl (lv_at hl 2 rfl) ?_
                refine zfi (wr := [(h0, .inr (3, [.ref h0_room, .ref h0_clashing, .ref h0_reach, .ref h0_ways, .ref h0_switches, .ref h0_kind, .ref h0_best, .ref h0_row, .int h0_rowLength, .int h0_bends, .int h0_full, .int h0_first, .int h0_punch])), (h0_best, .inl (g.2.1.1, 256, .inl fn2014)), (h0_room, .inl (g.2.1.1, 2048, .inl f_h0_room))]) (va_runS (As := [.int v1065, .int v2013]) (rest := [.ref h0_room, .int z2113, .int v1065, .ref h0_best]) ⟨hx, hb, hml, hown, hG⟩ (kX3_cell l g v1065 v2013 (ox_256 c1601i hy3 i1599) (ox_261 c2077i hy1 i2075) _) ⟨callB_of 2 hG (zGood wc_X3_cell) rfl rfl rfl (hG _ wini_X3) (hG _ wm_X3_74) hX3_cell ⟨Nat.le_of_ble_eq_true rfl, Nat.le_of_ble_eq_true rfl⟩, hG _ ws_X3_cell⟩ (zpreS hX hP hD hS hA [] rfl (by decide)) rfl rfl hl.1 rfl (lv_room (Nat.le_of_ble_eq_true rfl)) dX3_tallestPunch_73 ⟨Nat.le_of_ble_eq_true rfl, Nat.le_of_ble_eq_true rfl⟩) hP hD hS hA [] [0, 1, 2] rfl rfl (by decide) (by decide) (fun r2115 _ H locs hp hP hD hS => ?_)
                refine W.cs (cells' := 0) (slots' := 0) rfl rfl ?_
                have hq2116 : 0 ≤ r2115.toInt ∧ r2115.toInt ≤ 2047 := hp
                have hP : va_P g.1 vwCl [(h0, .inr (3, [.ref h0_room, .ref h0_clashing, .ref h0_reach, .ref h0_ways, .ref h0_switches, .ref h0_kind, .ref h0_best, .ref h0_row, .int h0_rowLength, .int h0_bends, .int h0_full, .int h0_first, .int h0_punch])), (h0_best, .inl (g.2.1.1, 256, .inl fn2014)), (h0_room, .inl (g.2.1.1, 2048, .inl f_h0_room))] H := hP
                have hD : va_D A [(h0, .inr (3, [.ref h0_room, .ref h0_clashing, .ref h0_reach, .ref h0_ways, .ref h0_switches, .ref h0_kind, .ref h0_best, .ref h0_row, .int h0_rowLength, .int h0_bends, .int h0_full, .int h0_first, .int h0_punch])), (h0_best, .inl (g.2.1.1, 256, .inl fn2014)), (h0_room, .inl (g.2.1.1, 2048, .inl f_h0_room))] := hD
                refine va_iald hx hb hX.1 hP 2 0 rfl rfl (zin (rfl : r2115.toInt = _) (ox_229 hq2116)) dX3_tallestPunch_76 ?_
                refine lv_topi (fun z2117 e2118 => ?_)
                refine lv_aload_n hx hb dX3_tallestPunch_77 rfl (lv_at hl 0 rfl) ?_
                refine va_get (D := g.1) (ci := 3) (v := .ref h0_best) (C := RX3) (T := TX3) (N := 13) hx hb hG iX3 hown hX.1 hP 0 rfl rfl 6 (by decide) (hG _ wf_X3_31) (fun _ h9 => h9) rfl dX3_tallestPunch_78 ?_
                refine lv_iload_n hx hb dX3_tallestPunch_81 rfl (lv_at hl 1 rfl) ?_
                refine lv_iload_n hx hb dX3_tallestPunch_82 rfl (lv_at hl 2 rfl) ?_
                refine zfi (wr := [(h0, .inr (3, [.ref h0_room, .ref h0_clashing, .ref h0_reach, .ref h0_ways, .ref h0_switches, .ref h0_kind, .ref h0_best, .ref h0_row, .int h0_rowLength, .int h0_bends, .int h0_full, .int h0_first, .int h0_punch])), (h0_best, .inl (g.2.1.1, 256, .inl fn2014)), (h0_room, .inl (g.2.1.1, 2048, .inl f_h0_room))]) (va_runSN (As := [.int v2013]) (rest := [.int v1065, .ref h0_best, .int z2117, .int z2113, .int v1065, .ref h0_best]) ⟨hx, hb, hml, hown, hG⟩ (kX8_bitb l g v2013 (ox_261 c2077i hy1 i2075) _) ⟨va_cnB 1 hG (zGood wc_X8_bit) rfl rfl rfl (hX.2.1.ml wmn_X3_70) (hG _ wini_X8) hX8_bit ⟨Nat.le_of_ble_eq_true rfl, Nat.le_of_ble_eq_true rfl⟩, hG _ ws_X8_bit, trivial⟩ (zpreS hX hP hD hS hA [] rfl (by decide)) rfl rfl hl.1 rfl (lv_room (Nat.le_of_ble_eq_true rfl)) dX3_tallestPunch_83 ⟨Nat.le_of_ble_eq_true rfl, Nat.le_of_ble_eq_true rfl⟩) hP hD hS hA [] [0, 1, 2] rfl rfl (by decide) (by decide) (fun r2119 _ H locs hp hP hD hS => ?_)
                refine W.cs (cells' := 0) (slots' := 0) rfl rfl ?_
                have hq2120 : 1 ≤ r2119.toInt ∧ r2119.toInt ≤ 128 := hp
                have hP : va_P g.1 vwCl [(h0, .inr (3, [.ref h0_room, .ref h0_clashing, .ref h0_reach, .ref h0_ways, .ref h0_switches, .ref h0_kind, .ref h0_best, .ref h0_row, .int h0_rowLength, .int h0_bends, .int h0_full, .int h0_first, .int h0_punch])), (h0_best, .inl (g.2.1.1, 256, .inl fn2014)), (h0_room, .inl (g.2.1.1, 2048, .inl f_h0_room))] H := hP
                have hD : va_D A [(h0, .inr (3, [.ref h0_room, .ref h0_clashing, .ref h0_reach, .ref h0_ways, .ref h0_switches, .ref h0_kind, .ref h0_best, .ref h0_row, .int h0_rowLength, .int h0_bends, .int h0_full, .int h0_first, .int h0_punch])), (h0_best, .inl (g.2.1.1, 256, .inl fn2014)), (h0_room, .inl (g.2.1.1, 2048, .inl f_h0_room))] := hD
                refine lv_ior hx hb dX3_tallestPunch_86 ?_
                refine lv_topi (fun z2121 e2122 => ?_)
                have f2123 : 0 ≤ z2121.toInt ∧ z2121.toInt < 256 := zor 8 e2122 (rfl : v1065.toInt = _) (rfl : r2119.toInt = _) (by decide) (ox_265 c1601i hq2120 hy3 i1599)
                refine va_iald hx hb hX.1 hP 1 0 rfl rfl (zin (rfl : z2121.toInt = _) (ox_248 f2123)) dX3_tallestPunch_87 ?_
                refine lv_topi (fun z2124 e2125 => ?_)
                refine va_mmin hx hb (by rw [hml]; exact hl.1.symm) hown (hG _ wm_X3_141) (hG _ ws_J9_min_7cf53) (hG _ wini_J9) (hG _ wc_J9_min_7cf53) (Nat.le_of_ble_eq_true rfl) (Nat.le_of_ble_eq_true rfl) (Nat.le_of_ble_eq_true rfl) (Nat.le_of_ble_eq_true rfl) dX3_tallestPunch_88 ?_
                refine lv_topi (fun z2126 e2127 => ?_)
                have f2128 : z2126.toInt ≤ z2117.toInt ∧ z2126.toInt ≤ z2124.toInt ∧ (z2126.toInt = z2117.toInt ∨ z2126.toInt = z2124.toInt) := zmn e2127 (rfl : z2117.toInt = _) (rfl : z2124.toInt = _)
                refine va_mmax hx hb (by rw [hml]; exact hl.1.symm) hown (hG _ wm_X3_87) (hG _ ws_J9_max_7cf53) (hG _ wini_J9) (hG _ wc_J9_max_7cf53) (Nat.le_of_ble_eq_true rfl) (Nat.le_of_ble_eq_true rfl) (Nat.le_of_ble_eq_true rfl) (Nat.le_of_ble_eq_true rfl) dX3_tallestPunch_91 ?_
                refine lv_topi (fun z2129 e2130 => ?_)
                have f2131 : z2129.toInt ≥ z2113.toInt ∧ z2129.toInt ≥ z2126.toInt ∧ (z2129.toInt = z2113.toInt ∨ z2129.toInt = z2126.toInt) := zmx e2130 (rfl : z2113.toInt = _) (rfl : z2126.toInt = _)
                refine va_iast hx hb hX.1 hP hD hS 1 0 rfl rfl (zin (rfl : v1065.toInt = _) (ox_260 c1601i hy3 i1599)) dX3_tallestPunch_94 (fun H locs hP hD hS => ?_)
                obtain ⟨f2132, e2133⟩ : ∃ z9 : Nat → Int32, z9 = upd fn2014 v1065.toNatClampNeg z2129 := ⟨_, rfl⟩
                rw [← e2133] at hP hD
                have hP : va_P g.1 vwCl [(h0, .inr (3, [.ref h0_room, .ref h0_clashing, .ref h0_reach, .ref h0_ways, .ref h0_switches, .ref h0_kind, .ref h0_best, .ref h0_row, .int h0_rowLength, .int h0_bends, .int h0_full, .int h0_first, .int h0_punch])), (h0_best, .inl (g.2.1.1, 256, .inl f2132)), (h0_room, .inl (g.2.1.1, 2048, .inl f_h0_room))] H := hP
                have hD : va_D A [(h0, .inr (3, [.ref h0_room, .ref h0_clashing, .ref h0_reach, .ref h0_ways, .ref h0_switches, .ref h0_kind, .ref h0_best, .ref h0_row, .int h0_rowLength, .int h0_bends, .int h0_full, .int h0_first, .int h0_punch])), (h0_best, .inl (g.2.1.1, 256, .inl f2132)), (h0_room, .inl (g.2.1.1, 2048, .inl f_h0_room))] := hD
                exact J2108 f2132 H locs ls  hP hD hS (lv_sub hl [0, 1, 2] rfl)
        exact L2072 _ (1 : Int32) f1604 H locs ls ((show 1 ≤ (1 : Int) ∧ (1 : Int) ≤ 9 from by decide)) (Nat.lt_succ_self _) hP hD hS (lv_sub hl [1, 2, 0] rfl)
  exact L1596 _ z3 f1 H locs ls (ox_329 f5 hy2) (Nat.lt_succ_self _) hP hD hS (lv_sub hl [1, 0] rfl)
theorem dX0_keep_0 : decode cX0_keep 0 = .ok (.aload_n 0, 1) := by decide +kernel
theorem dX0_keep_1 : decode cX0_keep 1 = .ok (.getfield 15, 3) := by decide +kernel
theorem dX0_keep_4 : decode cX0_keep 4 = .ok (.bipush 12, 2) := by decide +kernel
theorem dX0_keep_6 : decode cX0_keep 6 = .ok (.imul, 1) := by decide +kernel
theorem dX0_keep_7 : decode cX0_keep 7 = .ok (.istore_n 3, 1) := by decide +kernel
theorem dX0_keep_8 : decode cX0_keep 8 = .ok (.aload_n 0, 1) := by decide +kernel
theorem dX0_keep_9 : decode cX0_keep 9 = .ok (.getfield 11, 3) := by decide +kernel
theorem dX0_keep_12 : decode cX0_keep 12 = .ok (.iload_n 3, 1) := by decide +kernel
theorem dX0_keep_13 : decode cX0_keep 13 = .ok (.iload_n 2, 1) := by decide +kernel
theorem dX0_keep_14 : decode cX0_keep 14 = .ok (.iastore, 1) := by decide +kernel
theorem dX0_keep_15 : decode cX0_keep 15 = .ok (.aload_n 0, 1) := by decide +kernel
theorem dX0_keep_16 : decode cX0_keep 16 = .ok (.getfield 11, 3) := by decide +kernel
theorem dX0_keep_19 : decode cX0_keep 19 = .ok (.iload_n 3, 1) := by decide +kernel
theorem dX0_keep_20 : decode cX0_keep 20 = .ok (.iconst 1, 1) := by decide +kernel
theorem dX0_keep_21 : decode cX0_keep 21 = .ok (.iadd, 1) := by decide +kernel
theorem dX0_keep_22 : decode cX0_keep 22 = .ok (.aload_n 1, 1) := by decide +kernel
theorem dX0_keep_23 : decode cX0_keep 23 = .ok (.getfield 19, 3) := by decide +kernel
theorem dX0_keep_26 : decode cX0_keep 26 = .ok (.iastore, 1) := by decide +kernel
theorem dX0_keep_27 : decode cX0_keep 27 = .ok (.aload_n 0, 1) := by decide +kernel
theorem dX0_keep_28 : decode cX0_keep 28 = .ok (.getfield 11, 3) := by decide +kernel
theorem dX0_keep_31 : decode cX0_keep 31 = .ok (.iload_n 3, 1) := by decide +kernel
theorem dX0_keep_32 : decode cX0_keep 32 = .ok (.iconst 2, 1) := by decide +kernel
theorem dX0_keep_33 : decode cX0_keep 33 = .ok (.iadd, 1) := by decide +kernel
theorem dX0_keep_34 : decode cX0_keep 34 = .ok (.aload_n 1, 1) := by decide +kernel
theorem dX0_keep_35 : decode cX0_keep 35 = .ok (.getfield 24, 3) := by decide +kernel
theorem dX0_keep_38 : decode cX0_keep 38 = .ok (.iastore, 1) := by decide +kernel
theorem dX0_keep_39 : decode cX0_keep 39 = .ok (.aload_n 1, 1) := by decide +kernel
theorem dX0_keep_40 : decode cX0_keep 40 = .ok (.getfield 27, 3) := by decide +kernel
theorem dX0_keep_43 : decode cX0_keep 43 = .ok (.iconst 1, 1) := by decide +kernel
theorem dX0_keep_44 : decode cX0_keep 44 = .ok (.aload_n 0, 1) := by decide +kernel
theorem dX0_keep_45 : decode cX0_keep 45 = .ok (.getfield 11, 3) := by decide +kernel
theorem dX0_keep_48 : decode cX0_keep 48 = .ok (.iload_n 3, 1) := by decide +kernel
theorem dX0_keep_49 : decode cX0_keep 49 = .ok (.iconst 3, 1) := by decide +kernel
theorem dX0_keep_50 : decode cX0_keep 50 = .ok (.iadd, 1) := by decide +kernel
theorem dX0_keep_51 : decode cX0_keep 51 = .ok (.bipush 9, 2) := by decide +kernel
theorem dX0_keep_53 : decode cX0_keep 53 = .ok (.invokestatic 30, 3) := by decide +kernel
theorem dX0_keep_56 : decode cX0_keep 56 = .ok (.aload_n 0, 1) := by decide +kernel
theorem dX0_keep_57 : decode cX0_keep 57 = .ok (.aload_n 0, 1) := by decide +kernel
theorem dX0_keep_58 : decode cX0_keep 58 = .ok (.getfield 15, 3) := by decide +kernel
theorem dX0_keep_61 : decode cX0_keep 61 = .ok (.iconst 1, 1) := by decide +kernel
theorem dX0_keep_62 : decode cX0_keep 62 = .ok (.iadd, 1) := by decide +kernel
theorem dX0_keep_63 : decode cX0_keep 63 = .ok (.bipush 20, 2) := by decide +kernel
theorem dX0_keep_65 : decode cX0_keep 65 = .ok (.irem, 1) := by decide +kernel
theorem dX0_keep_66 : decode cX0_keep 66 = .ok (.putfield 15, 3) := by decide +kernel
theorem dX0_keep_69 : decode cX0_keep 69 = .ok (.aload_n 0, 1) := by decide +kernel
theorem dX0_keep_70 : decode cX0_keep 70 = .ok (.aload_n 0, 1) := by decide +kernel
theorem dX0_keep_71 : decode cX0_keep 71 = .ok (.getfield 36, 3) := by decide +kernel
theorem dX0_keep_74 : decode cX0_keep 74 = .ok (.iconst 1, 1) := by decide +kernel
theorem dX0_keep_75 : decode cX0_keep 75 = .ok (.iadd, 1) := by decide +kernel
theorem dX0_keep_76 : decode cX0_keep 76 = .ok (.bipush 20, 2) := by decide +kernel
theorem dX0_keep_78 : decode cX0_keep 78 = .ok (.invokestatic 39, 3) := by decide +kernel
theorem dX0_keep_81 : decode cX0_keep 81 = .ok (.putfield 36, 3) := by decide +kernel
theorem dX0_keep_84 : decode cX0_keep 84 = .ok (.return_, 1) := by decide +kernel
abbrev rm_kX0_keep : Room := { frames := 1, cells := 0, slots := 0, locals := 18 }
set_option maxHeartbeats 4000000 in
set_option maxRecDepth 100000 in
theorem kX0_keep (l : Launch) (g : zL) (h0 : Nat) (y1 : Nat) (x2 : Int32) (h0_rows : Nat) (h0_size : Int32) (h0_next : Int32) (f_h0_rows : Nat → Int32) (y1_count : Int32) (y1_statements : Int32) (y1_thick : Int32) (y1_punch : Int32) (y1_ups : Int32) (y1_toolCount : Int32) (y1_toolWidth : Nat) (y1_told : Nat) (y1_name : Nat) (y1_parent : Nat) (y1_side : Nat) (y1_from : Nat) (y1_width : Nat) (y1_height : Nat) (y1_radius : Nat) (y1_toolSet : Nat) (f_y1_told : Nat → Int32) (hy0 : 0 ≤ x2.toInt ∧ x2.toInt ≤ 255) (hy1 : 0 ≤ h0_size.toInt ∧ h0_size.toInt ≤ 20) (hy2 : 0 ≤ h0_next.toInt ∧ h0_next.toInt ≤ 19) (hy3 : hI f_h0_rows) (hy4 : 0 ≤ y1_count.toInt ∧ y1_count.toInt ≤ 9) (hy5 : 0 ≤ y1_toolCount.toInt ∧ y1_toolCount.toInt ≤ 8) : zCv l g yX0_keep cX0_keep 4 none rm_kX0_keep [.ref h0, .ref y1, .int x2] [(h0, .inr (0, [.ref h0_rows, .int h0_size, .int h0_next])), (h0_rows, .inl (g.2.1.1, 240, .inl f_h0_rows)), (y1, .inr (4, [.int y1_count, .int y1_statements, .int y1_thick, .int y1_punch, .int y1_ups, .int y1_toolCount, .ref y1_toolWidth, .ref y1_told, .ref y1_name, .ref y1_parent, .ref y1_side, .ref y1_from, .ref y1_width, .ref y1_height, .ref y1_radius, .ref y1_toolSet])), (y1_told, .inl (g.2.1.1, 10, .inl f_y1_told))] (fun (u : Int32 × Int32 × (Nat → Int32)) => (1 ≤ u.1.toInt ∧ u.1.toInt ≤ 20) ∧ (0 ≤ u.2.1.toInt ∧ u.2.1.toInt ≤ 19) ∧ (hI u.2.2)) (fun (u : Int32 × Int32 × (Nat → Int32)) => [(h0, .inr (0, [.ref h0_rows, .int u.1, .int u.2.1])), (h0_rows, .inl (g.2.1.1, 240, .inl u.2.2)), (y1, .inr (4, [.int y1_count, .int y1_statements, .int y1_thick, .int y1_punch, .int y1_ups, .int y1_toolCount, .ref y1_toolWidth, .ref y1_told, .ref y1_name, .ref y1_parent, .ref y1_side, .ref y1_from, .ref y1_width, .ref y1_height, .ref y1_radius, .ref y1_toolSet])), (y1_told, .inl (g.2.1.1, 10, .inl f_y1_told))]) := by
  refine zCv.mk2 (by decide) (Nat.le_of_ble_eq_true rfl) ?_
  intro p e s m below meth c A args Q hE hret hP hD hS ls hl
  obtain ⟨hx, hb, hr, hml, hown, hG, hlocks, hnm, hX, hA⟩ := hE
  have hown : s.vm.findClass RX0 = some m.cls := hown
  have hl : lv_has ls 4 [(0, .ref h0), (1, .ref y1), (2, .int x2)] := hl
  refine lv_aload_n hx hb dX0_keep_0 rfl (lv_at hl 0 rfl) ?_
  refine va_get (D := g.1) (ci := 0) (v := .int h0_next) (C := RX0) (T := TX0) (N := 3) hx hb hG iX0 hown hX.1 hP 0 rfl rfl 2 (by decide) (hG _ wf_X0_15) (fun _ h9 => h9) rfl dX0_keep_1 ?_
  refine lv_bipush (v := 12) hx hb dX0_keep_4 (by decide) ?_
  refine lv_imul hx hb dX0_keep_6 ?_
  refine lv_topi (fun z1 e2 => ?_)
  have f3 : z1.toInt = h0_next.toInt * (12 : Int) := zm e2 (rfl : h0_next.toInt = _) (show (12 : Int32).toInt = (12 : Int) from by decide) (ox_330 (zr h0_next) hy2)
  refine lv_istore_n (lv' := [(3, .int z1), (0, .ref h0), (1, .ref y1), (2, .int x2)]) hx hb dX0_keep_7 rfl hl (by decide) rfl (fun ls hl => ?_)
  refine lv_aload_n hx hb dX0_keep_8 rfl (lv_at hl 1 rfl) ?_
  refine va_get (D := g.1) (ci := 0) (v := .ref h0_rows) (C := RX0) (T := TX0) (N := 3) hx hb hG iX0 hown hX.1 hP 0 rfl rfl 0 (by decide) (hG _ wf_X0_11) (fun _ h9 => h9) rfl dX0_keep_9 ?_
  refine lv_iload_n hx hb dX0_keep_12 rfl (lv_at hl 0 rfl) ?_
  refine lv_iload_n hx hb dX0_keep_13 rfl (lv_at hl 3 rfl) ?_
  refine va_iast hx hb hX.1 hP hD hS 1 0 rfl rfl (zin (rfl : z1.toInt = _) (ox_331 f3 hy2)) dX0_keep_14 (fun H locs hP hD hS => ?_)
  obtain ⟨f4, e5⟩ : ∃ z9 : Nat → Int32, z9 = upd f_h0_rows z1.toNatClampNeg x2 := ⟨_, rfl⟩
  rw [← e5] at hP hD
  have hf6 : hI f4 := hy3.up e5 (rfl : z1.toInt = _) (rfl : x2.toInt = _) (ox_332 f3 hy0 hy2)
  have hP : va_P g.1 vwCl [(h0, .inr (0, [.ref h0_rows, .int h0_size, .int h0_next])), (h0_rows, .inl (g.2.1.1, 240, .inl f4)), (y1, .inr (4, [.int y1_count, .int y1_statements, .int y1_thick, .int y1_punch, .int y1_ups, .int y1_toolCount, .ref y1_toolWidth, .ref y1_told, .ref y1_name, .ref y1_parent, .ref y1_side, .ref y1_from, .ref y1_width, .ref y1_height, .ref y1_radius, .ref y1_toolSet])), (y1_told, .inl (g.2.1.1, 10, .inl f_y1_told))] H := hP
  have hD : va_D A [(h0, .inr (0, [.ref h0_rows, .int h0_size, .int h0_next])), (h0_rows, .inl (g.2.1.1, 240, .inl f4)), (y1, .inr (4, [.int y1_count, .int y1_statements, .int y1_thick, .int y1_punch, .int y1_ups, .int y1_toolCount, .ref y1_toolWidth, .ref y1_told, .ref y1_name, .ref y1_parent, .ref y1_side, .ref y1_from, .ref y1_width, .ref y1_height, .ref y1_radius, .ref y1_toolSet])), (y1_told, .inl (g.2.1.1, 10, .inl f_y1_told))] := hD
  refine lv_aload_n hx hb dX0_keep_15 rfl (lv_at hl 1 rfl) ?_
  refine va_get (D := g.1) (ci := 0) (v := .ref h0_rows) (C := RX0) (T := TX0) (N := 3) hx hb hG iX0 hown hX.1 hP 0 rfl rfl 0 (by decide) (hG _ wf_X0_11) (fun _ h9 => h9) rfl dX0_keep_16 ?_
  refine lv_iload_n hx hb dX0_keep_19 rfl (lv_at hl 0 rfl) ?_
  refine lv_iconst (v := 1) hx hb dX0_keep_20 (by decide) ?_
  refine lv_iadd hx hb dX0_keep_21 ?_
  refine lv_topi (fun z7 e8 => ?_)
  have f9 : z7.toInt = z1.toInt + (1 : Int) := za e8 (rfl : z1.toInt = _) (show (1 : Int32).toInt = (1 : Int) from by decide) (ox_333 (zr h0_next) (zr z1) f3 hy2)
  refine lv_aload_n hx hb dX0_keep_22 rfl (lv_at hl 2 rfl) ?_
  refine va_getN (D := g.1) (ci := 4) (v := .int y1_ups) (C := RX4) (T := TX4) (N := 16) hx hb hG iX4 hown hX.1 hP 2 rfl rfl 4 (by decide) (hX.2.1.fl wfn_X0_19) (fun _ h9 => h9) rfl dX0_keep_23 ?_
  refine va_iast hx hb hX.1 hP hD hS 1 0 rfl rfl (zin (rfl : z7.toInt = _) (ox_334 f3 f9 hy2)) dX0_keep_26 (fun H locs hP hD hS => ?_)
  obtain ⟨f10, e11⟩ : ∃ z9 : Nat → Int32, z9 = upd f4 z7.toNatClampNeg y1_ups := ⟨_, rfl⟩
  rw [← e11] at hP hD
  have hf12 : hI f10 := hf6.up e11 (rfl : z7.toInt = _) (rfl : y1_ups.toInt = _) (ox_335 f3 f9 hy2)
  have hP : va_P g.1 vwCl [(h0, .inr (0, [.ref h0_rows, .int h0_size, .int h0_next])), (h0_rows, .inl (g.2.1.1, 240, .inl f10)), (y1, .inr (4, [.int y1_count, .int y1_statements, .int y1_thick, .int y1_punch, .int y1_ups, .int y1_toolCount, .ref y1_toolWidth, .ref y1_told, .ref y1_name, .ref y1_parent, .ref y1_side, .ref y1_from, .ref y1_width, .ref y1_height, .ref y1_radius, .ref y1_toolSet])), (y1_told, .inl (g.2.1.1, 10, .inl f_y1_told))] H := hP
  have hD : va_D A [(h0, .inr (0, [.ref h0_rows, .int h0_size, .int h0_next])), (h0_rows, .inl (g.2.1.1, 240, .inl f10)), (y1, .inr (4, [.int y1_count, .int y1_statements, .int y1_thick, .int y1_punch, .int y1_ups, .int y1_toolCount, .ref y1_toolWidth, .ref y1_told, .ref y1_name, .ref y1_parent, .ref y1_side, .ref y1_from, .ref y1_width, .ref y1_height, .ref y1_radius, .ref y1_toolSet])), (y1_told, .inl (g.2.1.1, 10, .inl f_y1_told))] := hD
  refine lv_aload_n hx hb dX0_keep_27 rfl (lv_at hl 1 rfl) ?_
  refine va_get (D := g.1) (ci := 0) (v := .ref h0_rows) (C := RX0) (T := TX0) (N := 3) hx hb hG iX0 hown hX.1 hP 0 rfl rfl 0 (by decide) (hG _ wf_X0_11) (fun _ h9 => h9) rfl dX0_keep_28 ?_
  refine lv_iload_n hx hb dX0_keep_31 rfl (lv_at hl 0 rfl) ?_
  refine lv_iconst (v := 2) hx hb dX0_keep_32 (by decide) ?_
  refine lv_iadd hx hb dX0_keep_33 ?_
  refine lv_topi (fun z13 e14 => ?_)
  have f15 : z13.toInt = z1.toInt + (2 : Int) := za e14 (rfl : z1.toInt = _) (show (2 : Int32).toInt = (2 : Int) from by decide) (ox_336 (zr h0_next) (zr z1) (zr z7) f3 f9 hy2)
  refine lv_aload_n hx hb dX0_keep_34 rfl (lv_at hl 2 rfl) ?_
  refine va_getN (D := g.1) (ci := 4) (v := .int y1_punch) (C := RX4) (T := TX4) (N := 16) hx hb hG iX4 hown hX.1 hP 2 rfl rfl 3 (by decide) (hX.2.1.fl wfn_X0_24) (fun _ h9 => h9) rfl dX0_keep_35 ?_
  refine va_iast hx hb hX.1 hP hD hS 1 0 rfl rfl (zin (rfl : z13.toInt = _) (ox_337 f15 f3 f9 hy2)) dX0_keep_38 (fun H locs hP hD hS => ?_)
  obtain ⟨f16, e17⟩ : ∃ z9 : Nat → Int32, z9 = upd f10 z13.toNatClampNeg y1_punch := ⟨_, rfl⟩
  rw [← e17] at hP hD
  have hf18 : hI f16 := hf12.up e17 (rfl : z13.toInt = _) (rfl : y1_punch.toInt = _) (ox_338 f15 f3 f9 hy2)
  have hP : va_P g.1 vwCl [(h0, .inr (0, [.ref h0_rows, .int h0_size, .int h0_next])), (h0_rows, .inl (g.2.1.1, 240, .inl f16)), (y1, .inr (4, [.int y1_count, .int y1_statements, .int y1_thick, .int y1_punch, .int y1_ups, .int y1_toolCount, .ref y1_toolWidth, .ref y1_told, .ref y1_name, .ref y1_parent, .ref y1_side, .ref y1_from, .ref y1_width, .ref y1_height, .ref y1_radius, .ref y1_toolSet])), (y1_told, .inl (g.2.1.1, 10, .inl f_y1_told))] H := hP
  have hD : va_D A [(h0, .inr (0, [.ref h0_rows, .int h0_size, .int h0_next])), (h0_rows, .inl (g.2.1.1, 240, .inl f16)), (y1, .inr (4, [.int y1_count, .int y1_statements, .int y1_thick, .int y1_punch, .int y1_ups, .int y1_toolCount, .ref y1_toolWidth, .ref y1_told, .ref y1_name, .ref y1_parent, .ref y1_side, .ref y1_from, .ref y1_width, .ref y1_height, .ref y1_radius, .ref y1_toolSet])), (y1_told, .inl (g.2.1.1, 10, .inl f_y1_told))] := hD
  refine lv_aload_n hx hb dX0_keep_39 rfl (lv_at hl 2 rfl) ?_
  refine va_getN (D := g.1) (ci := 4) (v := .ref y1_told) (C := RX4) (T := TX4) (N := 16) hx hb hG iX4 hown hX.1 hP 2 rfl rfl 7 (by decide) (hX.2.1.fl wfn_X0_27) (fun _ h9 => h9) rfl dX0_keep_40 ?_
  refine lv_iconst (v := 1) hx hb dX0_keep_43 (by decide) ?_
  refine lv_aload_n hx hb dX0_keep_44 rfl (lv_at hl 1 rfl) ?_
  refine va_get (D := g.1) (ci := 0) (v := .ref h0_rows) (C := RX0) (T := TX0) (N := 3) hx hb hG iX0 hown hX.1 hP 0 rfl rfl 0 (by decide) (hG _ wf_X0_11) (fun _ h9 => h9) rfl dX0_keep_45 ?_
  refine lv_iload_n hx hb dX0_keep_48 rfl (lv_at hl 0 rfl) ?_
  refine lv_iconst (v := 3) hx hb dX0_keep_49 (by decide) ?_
  refine lv_iadd hx hb dX0_keep_50 ?_
  refine lv_topi (fun z19 e20 => ?_)
  have f21 : z19.toInt = z1.toInt + (3 : Int) := za e20 (rfl : z1.toInt = _) (show (3 : Int32).toInt = (3 : Int) from by decide) (ox_339 (zr h0_next) (zr z1) (zr z13) (zr z7) f15 f3 f9 hy2)
  refine lv_bipush (v := 9) hx hb dX0_keep_51 (by decide) ?_
  refine va_copyi (ty := .int) hx hb (by rw [hml]; exact hl.1.symm) hown (hG _ wm_X0_30) (hG _ wn_java_lang_System_arraycopy__Ljava_lang_Object_ILjava_lang_Object_II_V) (hG _ ws_java_lang_System_arraycopy__Ljava_lang_Object_ILjava_lang_Object_II_V) (hG _ wini_J10) hX.1 hP hD hS 3 1 0 0 rfl rfl rfl rfl rfl (znl (show (1 : Int32).toInt = (1 : Int) from by decide) ((show (0 : Int) ≤ (1 : Int) from by decide))) (znl (rfl : z19.toInt = _) (ox_340 f15 f21 f3 f9 hy2)) (znl (show (9 : Int32).toInt = (9 : Int) from by decide) ((show (0 : Int) ≤ (9 : Int) from by decide))) (zcp (show (1 : Int32).toInt = (1 : Int) from by decide) (show (9 : Int32).toInt = (9 : Int) from by decide) ((show (0 : Int) ≤ (1 : Int) ∧ (0 : Int) ≤ (9 : Int) ∧ ((1 : Int) : Int) + (9 : Int) ≤ 10 from by decide))) (zcp (rfl : z19.toInt = _) (show (9 : Int32).toInt = (9 : Int) from by decide) (ox_341 f15 f21 f3 f9 hy2)) (fun _ _ => rfl) (Nat.le_of_ble_eq_true rfl) (Nat.le_of_ble_eq_true rfl) dX0_keep_53 (fun H locs hP hD hS => ?_)
  obtain ⟨f22, e23⟩ : ∃ z9 : Nat → Int32, z9 = va_cpy f_y1_told f16 (1 : Int32).toNatClampNeg z19.toNatClampNeg (9 : Int32).toNatClampNeg := ⟨_, rfl⟩
  rw [← e23] at hP hD
  have hf24 : hI f22 := hf18.cp e23 (rfl : z19.toInt = _) (show (9 : Int32).toInt = (9 : Int) from by decide) (ox_342 f15 f21 f3 f9 hy2)
  have hP : va_P g.1 vwCl [(h0, .inr (0, [.ref h0_rows, .int h0_size, .int h0_next])), (h0_rows, .inl (g.2.1.1, 240, .inl f22)), (y1, .inr (4, [.int y1_count, .int y1_statements, .int y1_thick, .int y1_punch, .int y1_ups, .int y1_toolCount, .ref y1_toolWidth, .ref y1_told, .ref y1_name, .ref y1_parent, .ref y1_side, .ref y1_from, .ref y1_width, .ref y1_height, .ref y1_radius, .ref y1_toolSet])), (y1_told, .inl (g.2.1.1, 10, .inl f_y1_told))] H := hP
  have hD : va_D A [(h0, .inr (0, [.ref h0_rows, .int h0_size, .int h0_next])), (h0_rows, .inl (g.2.1.1, 240, .inl f22)), (y1, .inr (4, [.int y1_count, .int y1_statements, .int y1_thick, .int y1_punch, .int y1_ups, .int y1_toolCount, .ref y1_toolWidth, .ref y1_told, .ref y1_name, .ref y1_parent, .ref y1_side, .ref y1_from, .ref y1_width, .ref y1_height, .ref y1_radius, .ref y1_toolSet])), (y1_told, .inl (g.2.1.1, 10, .inl f_y1_told))] := hD
  refine lv_aload_n hx hb dX0_keep_56 rfl (lv_at hl 1 rfl) ?_
  refine lv_aload_n hx hb dX0_keep_57 rfl (lv_at hl 1 rfl) ?_
  refine va_get (D := g.1) (ci := 0) (v := .int h0_next) (C := RX0) (T := TX0) (N := 3) hx hb hG iX0 hown hX.1 hP 0 rfl rfl 2 (by decide) (hG _ wf_X0_15) (fun _ h9 => h9) rfl dX0_keep_58 ?_
  refine lv_iconst (v := 1) hx hb dX0_keep_61 (by decide) ?_
  refine lv_iadd hx hb dX0_keep_62 ?_
  refine lv_topi (fun z25 e26 => ?_)
  have f27 : z25.toInt = h0_next.toInt + (1 : Int) := za e26 (rfl : h0_next.toInt = _) (show (1 : Int32).toInt = (1 : Int) from by decide) (ox_343 (zr h0_next) (zr z1) (zr z13) (zr z19) (zr z7) f15 f21 f3 f9 hy2)
  refine lv_bipush (v := 20) hx hb dX0_keep_63 (by decide) ?_
  refine lv_irem hx hb dX0_keep_65 (zne0 (show (20 : Int32).toInt = (20 : Int) from by decide) ((show ¬ (20 : Int) = 0 from by decide))) ?_
  refine lv_topi (fun z28 e29 => ?_)
  have f30 : z28.toInt = z25.toInt % (20 : Int) := zrm e29 (rfl : z25.toInt = _) (show (20 : Int32).toInt = (20 : Int) from by decide) (ox_344 f15 f21 f27 f3 f9 hy2)
  refine va_put (D := g.1) (ci := 0) (v := .int z28) (ty := .int) (C := RX0) (T := TX0) (N := 3) hx hb hG iX0 tyX0 tyX0_ok nmX0 hown hX.1 hP hD hS 0 rfl rfl 2 (by decide) (hG _ wf_X0_15) (fun _ h9 => h9) rfl (by decide +kernel) rfl rfl (Nat.le_of_ble_eq_true rfl) dX0_keep_66 (fun H locs hP hD hS => ?_)
  have hP : va_P g.1 vwCl [(h0, .inr (0, [.ref h0_rows, .int h0_size, .int z28])), (h0_rows, .inl (g.2.1.1, 240, .inl f22)), (y1, .inr (4, [.int y1_count, .int y1_statements, .int y1_thick, .int y1_punch, .int y1_ups, .int y1_toolCount, .ref y1_toolWidth, .ref y1_told, .ref y1_name, .ref y1_parent, .ref y1_side, .ref y1_from, .ref y1_width, .ref y1_height, .ref y1_radius, .ref y1_toolSet])), (y1_told, .inl (g.2.1.1, 10, .inl f_y1_told))] H := hP
  have hD : va_D A [(h0, .inr (0, [.ref h0_rows, .int h0_size, .int z28])), (h0_rows, .inl (g.2.1.1, 240, .inl f22)), (y1, .inr (4, [.int y1_count, .int y1_statements, .int y1_thick, .int y1_punch, .int y1_ups, .int y1_toolCount, .ref y1_toolWidth, .ref y1_told, .ref y1_name, .ref y1_parent, .ref y1_side, .ref y1_from, .ref y1_width, .ref y1_height, .ref y1_radius, .ref y1_toolSet])), (y1_told, .inl (g.2.1.1, 10, .inl f_y1_told))] := hD
  refine lv_aload_n hx hb dX0_keep_69 rfl (lv_at hl 1 rfl) ?_
  refine lv_aload_n hx hb dX0_keep_70 rfl (lv_at hl 1 rfl) ?_
  refine va_get (D := g.1) (ci := 0) (v := .int h0_size) (C := RX0) (T := TX0) (N := 3) hx hb hG iX0 hown hX.1 hP 0 rfl rfl 1 (by decide) (hG _ wf_X0_36) (fun _ h9 => h9) rfl dX0_keep_71 ?_
  refine lv_iconst (v := 1) hx hb dX0_keep_74 (by decide) ?_
  refine lv_iadd hx hb dX0_keep_75 ?_
  refine lv_topi (fun z31 e32 => ?_)
  have f33 : z31.toInt = h0_size.toInt + (1 : Int) := za e32 (rfl : h0_size.toInt = _) (show (1 : Int32).toInt = (1 : Int) from by decide) (ox_345 (zr h0_size) hy1)
  refine lv_bipush (v := 20) hx hb dX0_keep_76 (by decide) ?_
  refine va_mmin hx hb (by rw [hml]; exact hl.1.symm) hown (hG _ wm_X0_39) (hG _ ws_J9_min_7cf53) (hG _ wini_J9) (hG _ wc_J9_min_7cf53) (Nat.le_of_ble_eq_true rfl) (Nat.le_of_ble_eq_true rfl) (Nat.le_of_ble_eq_true rfl) (Nat.le_of_ble_eq_true rfl) dX0_keep_78 ?_
  refine lv_topi (fun z34 e35 => ?_)
  have f36 : z34.toInt ≤ z31.toInt ∧ z34.toInt ≤ (20 : Int) ∧ (z34.toInt = z31.toInt ∨ z34.toInt = (20 : Int)) := zmn e35 (rfl : z31.toInt = _) (show (20 : Int32).toInt = (20 : Int) from by decide)
  refine va_put (D := g.1) (ci := 0) (v := .int z34) (ty := .int) (C := RX0) (T := TX0) (N := 3) hx hb hG iX0 tyX0 tyX0_ok nmX0 hown hX.1 hP hD hS 0 rfl rfl 1 (by decide) (hG _ wf_X0_36) (fun _ h9 => h9) rfl (by decide +kernel) rfl rfl (Nat.le_of_ble_eq_true rfl) dX0_keep_81 (fun H locs hP hD hS => ?_)
  have hP : va_P g.1 vwCl [(h0, .inr (0, [.ref h0_rows, .int z34, .int z28])), (h0_rows, .inl (g.2.1.1, 240, .inl f22)), (y1, .inr (4, [.int y1_count, .int y1_statements, .int y1_thick, .int y1_punch, .int y1_ups, .int y1_toolCount, .ref y1_toolWidth, .ref y1_told, .ref y1_name, .ref y1_parent, .ref y1_side, .ref y1_from, .ref y1_width, .ref y1_height, .ref y1_radius, .ref y1_toolSet])), (y1_told, .inl (g.2.1.1, 10, .inl f_y1_told))] H := hP
  have hD : va_D A [(h0, .inr (0, [.ref h0_rows, .int z34, .int z28])), (h0_rows, .inl (g.2.1.1, 240, .inl f22)), (y1, .inr (4, [.int y1_count, .int y1_statements, .int y1_thick, .int y1_punch, .int y1_ups, .int y1_toolCount, .ref y1_toolWidth, .ref y1_told, .ref y1_name, .ref y1_parent, .ref y1_side, .ref y1_from, .ref y1_width, .ref y1_height, .ref y1_radius, .ref y1_toolSet])), (y1_told, .inl (g.2.1.1, 10, .inl f_y1_told))] := hD
  exact hret (z34, z28, f22) (Nat.le_of_ble_eq_true rfl) (Nat.le_of_ble_eq_true rfl) ⟨ox_346 f33 f36 hy1, ox_347 f15 f21 f27 f3 f30 f9 hy2, hf24⟩ hP hD hS dX0_keep_84
theorem dX0_takeBack_0 : decode cX0_takeBack 0 = .ok (.aload_n 0, 1) := by decide +kernel
theorem dX0_takeBack_1 : decode cX0_takeBack 1 = .ok (.aload_n 0, 1) := by decide +kernel
theorem dX0_takeBack_2 : decode cX0_takeBack 2 = .ok (.getfield 15, 3) := by decide +kernel
theorem dX0_takeBack_5 : decode cX0_takeBack 5 = .ok (.bipush 20, 2) := by decide +kernel
theorem dX0_takeBack_7 : decode cX0_takeBack 7 = .ok (.iadd, 1) := by decide +kernel
theorem dX0_takeBack_8 : decode cX0_takeBack 8 = .ok (.iconst 1, 1) := by decide +kernel
theorem dX0_takeBack_9 : decode cX0_takeBack 9 = .ok (.isub, 1) := by decide +kernel
theorem dX0_takeBack_10 : decode cX0_takeBack 10 = .ok (.bipush 20, 2) := by decide +kernel
theorem dX0_takeBack_12 : decode cX0_takeBack 12 = .ok (.irem, 1) := by decide +kernel
theorem dX0_takeBack_13 : decode cX0_takeBack 13 = .ok (.putfield 15, 3) := by decide +kernel
theorem dX0_takeBack_16 : decode cX0_takeBack 16 = .ok (.aload_n 0, 1) := by decide +kernel
theorem dX0_takeBack_17 : decode cX0_takeBack 17 = .ok (.iconst 0, 1) := by decide +kernel
theorem dX0_takeBack_18 : decode cX0_takeBack 18 = .ok (.aload_n 0, 1) := by decide +kernel
theorem dX0_takeBack_19 : decode cX0_takeBack 19 = .ok (.getfield 36, 3) := by decide +kernel
theorem dX0_takeBack_22 : decode cX0_takeBack 22 = .ok (.iconst 1, 1) := by decide +kernel
theorem dX0_takeBack_23 : decode cX0_takeBack 23 = .ok (.isub, 1) := by decide +kernel
theorem dX0_takeBack_24 : decode cX0_takeBack 24 = .ok (.invokestatic 45, 3) := by decide +kernel
theorem dX0_takeBack_27 : decode cX0_takeBack 27 = .ok (.putfield 36, 3) := by decide +kernel
theorem dX0_takeBack_30 : decode cX0_takeBack 30 = .ok (.aload_n 0, 1) := by decide +kernel
theorem dX0_takeBack_31 : decode cX0_takeBack 31 = .ok (.getfield 15, 3) := by decide +kernel
theorem dX0_takeBack_34 : decode cX0_takeBack 34 = .ok (.bipush 12, 2) := by decide +kernel
theorem dX0_takeBack_36 : decode cX0_takeBack 36 = .ok (.imul, 1) := by decide +kernel
theorem dX0_takeBack_37 : decode cX0_takeBack 37 = .ok (.istore_n 2, 1) := by decide +kernel
theorem dX0_takeBack_38 : decode cX0_takeBack 38 = .ok (.aload_n 1, 1) := by decide +kernel
theorem dX0_takeBack_39 : decode cX0_takeBack 39 = .ok (.aload_n 0, 1) := by decide +kernel
theorem dX0_takeBack_40 : decode cX0_takeBack 40 = .ok (.getfield 11, 3) := by decide +kernel
theorem dX0_takeBack_43 : decode cX0_takeBack 43 = .ok (.iload_n 2, 1) := by decide +kernel
theorem dX0_takeBack_44 : decode cX0_takeBack 44 = .ok (.iconst 1, 1) := by decide +kernel
theorem dX0_takeBack_45 : decode cX0_takeBack 45 = .ok (.iadd, 1) := by decide +kernel
theorem dX0_takeBack_46 : decode cX0_takeBack 46 = .ok (.iaload, 1) := by decide +kernel
theorem dX0_takeBack_47 : decode cX0_takeBack 47 = .ok (.putfield 19, 3) := by decide +kernel
theorem dX0_takeBack_50 : decode cX0_takeBack 50 = .ok (.aload_n 1, 1) := by decide +kernel
theorem dX0_takeBack_51 : decode cX0_takeBack 51 = .ok (.aload_n 0, 1) := by decide +kernel
theorem dX0_takeBack_52 : decode cX0_takeBack 52 = .ok (.getfield 11, 3) := by decide +kernel
theorem dX0_takeBack_55 : decode cX0_takeBack 55 = .ok (.iload_n 2, 1) := by decide +kernel
theorem dX0_takeBack_56 : decode cX0_takeBack 56 = .ok (.iconst 2, 1) := by decide +kernel
theorem dX0_takeBack_57 : decode cX0_takeBack 57 = .ok (.iadd, 1) := by decide +kernel
theorem dX0_takeBack_58 : decode cX0_takeBack 58 = .ok (.iaload, 1) := by decide +kernel
theorem dX0_takeBack_59 : decode cX0_takeBack 59 = .ok (.putfield 24, 3) := by decide +kernel
theorem dX0_takeBack_62 : decode cX0_takeBack 62 = .ok (.aload_n 0, 1) := by decide +kernel
theorem dX0_takeBack_63 : decode cX0_takeBack 63 = .ok (.getfield 11, 3) := by decide +kernel
theorem dX0_takeBack_66 : decode cX0_takeBack 66 = .ok (.iload_n 2, 1) := by decide +kernel
theorem dX0_takeBack_67 : decode cX0_takeBack 67 = .ok (.iconst 3, 1) := by decide +kernel
theorem dX0_takeBack_68 : decode cX0_takeBack 68 = .ok (.iadd, 1) := by decide +kernel
theorem dX0_takeBack_69 : decode cX0_takeBack 69 = .ok (.aload_n 1, 1) := by decide +kernel
theorem dX0_takeBack_70 : decode cX0_takeBack 70 = .ok (.getfield 27, 3) := by decide +kernel
theorem dX0_takeBack_73 : decode cX0_takeBack 73 = .ok (.iconst 1, 1) := by decide +kernel
theorem dX0_takeBack_74 : decode cX0_takeBack 74 = .ok (.bipush 9, 2) := by decide +kernel
theorem dX0_takeBack_76 : decode cX0_takeBack 76 = .ok (.invokestatic 30, 3) := by decide +kernel
theorem dX0_takeBack_79 : decode cX0_takeBack 79 = .ok (.aload_n 0, 1) := by decide +kernel
theorem dX0_takeBack_80 : decode cX0_takeBack 80 = .ok (.getfield 11, 3) := by decide +kernel
theorem dX0_takeBack_83 : decode cX0_takeBack 83 = .ok (.iload_n 2, 1) := by decide +kernel
theorem dX0_takeBack_84 : decode cX0_takeBack 84 = .ok (.iaload, 1) := by decide +kernel
theorem dX0_takeBack_85 : decode cX0_takeBack 85 = .ok (.ireturn, 1) := by decide +kernel
abbrev rm_kX0_takeBack : Room := { frames := 1, cells := 0, slots := 0, locals := 18 }
set_option maxHeartbeats 4000000 in
set_option maxRecDepth 100000 in
theorem kX0_takeBack (l : Launch) (g : zL) (h0 : Nat) (y1 : Nat) (h0_rows : Nat) (h0_size : Int32) (h0_next : Int32) (f_h0_rows : Nat → Int32) (y1_count : Int32) (y1_statements : Int32) (y1_thick : Int32) (y1_punch : Int32) (y1_ups : Int32) (y1_toolCount : Int32) (y1_toolWidth : Nat) (y1_told : Nat) (y1_name : Nat) (y1_parent : Nat) (y1_side : Nat) (y1_from : Nat) (y1_width : Nat) (y1_height : Nat) (y1_radius : Nat) (y1_toolSet : Nat) (f_y1_told : Nat → Int32) (hy0 : 0 ≤ h0_size.toInt ∧ h0_size.toInt ≤ 20) (hy1 : 0 ≤ h0_next.toInt ∧ h0_next.toInt ≤ 19) (hy2 : hI f_h0_rows) (hy3 : 0 ≤ y1_count.toInt ∧ y1_count.toInt ≤ 9) (hy4 : 0 ≤ y1_toolCount.toInt ∧ y1_toolCount.toInt ≤ 8) : zCi l g yX0_takeBack cX0_takeBack 3 (some .int) rm_kX0_takeBack [.ref h0, .ref y1] [(h0, .inr (0, [.ref h0_rows, .int h0_size, .int h0_next])), (h0_rows, .inl (g.2.1.1, 240, .inl f_h0_rows)), (y1, .inr (4, [.int y1_count, .int y1_statements, .int y1_thick, .int y1_punch, .int y1_ups, .int y1_toolCount, .ref y1_toolWidth, .ref y1_told, .ref y1_name, .ref y1_parent, .ref y1_side, .ref y1_from, .ref y1_width, .ref y1_height, .ref y1_radius, .ref y1_toolSet])), (y1_told, .inl (g.2.1.1, 10, .inl f_y1_told))] (fun (r : Int32) (u : Int32 × Int32 × Int32 × Int32 × (Nat → Int32)) => (0 ≤ u.1.toInt ∧ u.1.toInt ≤ 19) ∧ (0 ≤ u.2.1.toInt ∧ u.2.1.toInt ≤ 19) ∧ (0 ≤ r.toInt ∧ r.toInt ≤ 255)) (fun (u : Int32 × Int32 × Int32 × Int32 × (Nat → Int32)) => [(h0, .inr (0, [.ref h0_rows, .int u.1, .int u.2.1])), (h0_rows, .inl (g.2.1.1, 240, .inl f_h0_rows)), (y1, .inr (4, [.int y1_count, .int y1_statements, .int y1_thick, .int u.2.2.1, .int u.2.2.2.1, .int y1_toolCount, .ref y1_toolWidth, .ref y1_told, .ref y1_name, .ref y1_parent, .ref y1_side, .ref y1_from, .ref y1_width, .ref y1_height, .ref y1_radius, .ref y1_toolSet])), (y1_told, .inl (g.2.1.1, 10, .inl u.2.2.2.2))]) := by
  refine zCi.mk2 (by decide) (Nat.le_of_ble_eq_true rfl) ?_
  intro p e s m below meth c A args Q hE hret hP hD hS ls hl
  obtain ⟨hx, hb, hr, hml, hown, hG, hlocks, hnm, hX, hA⟩ := hE
  have hown : s.vm.findClass RX0 = some m.cls := hown
  have hl : lv_has ls 3 [(0, .ref h0), (1, .ref y1)] := hl
  refine lv_aload_n hx hb dX0_takeBack_0 rfl (lv_at hl 0 rfl) ?_
  refine lv_aload_n hx hb dX0_takeBack_1 rfl (lv_at hl 0 rfl) ?_
  refine va_get (D := g.1) (ci := 0) (v := .int h0_next) (C := RX0) (T := TX0) (N := 3) hx hb hG iX0 hown hX.1 hP 0 rfl rfl 2 (by decide) (hG _ wf_X0_15) (fun _ h9 => h9) rfl dX0_takeBack_2 ?_
  refine lv_bipush (v := 20) hx hb dX0_takeBack_5 (by decide) ?_
  refine lv_iadd hx hb dX0_takeBack_7 ?_
  refine lv_topi (fun z1 e2 => ?_)
  have f3 : z1.toInt = h0_next.toInt + (20 : Int) := za e2 (rfl : h0_next.toInt = _) (show (20 : Int32).toInt = (20 : Int) from by decide) (ox_348 (zr h0_next) hy1)
  refine lv_iconst (v := 1) hx hb dX0_takeBack_8 (by decide) ?_
  refine lv_isub hx hb dX0_takeBack_9 ?_
  refine lv_topi (fun z4 e5 => ?_)
  have f6 : z4.toInt = z1.toInt - (1 : Int) := zs e5 (rfl : z1.toInt = _) (show (1 : Int32).toInt = (1 : Int) from by decide) (ox_349 (zr h0_next) (zr z1) f3 hy1)
  refine lv_bipush (v := 20) hx hb dX0_takeBack_10 (by decide) ?_
  refine lv_irem hx hb dX0_takeBack_12 (zne0 (show (20 : Int32).toInt = (20 : Int) from by decide) ((show ¬ (20 : Int) = 0 from by decide))) ?_
  refine lv_topi (fun z7 e8 => ?_)
  have f9 : z7.toInt = z4.toInt % (20 : Int) := zrm e8 (rfl : z4.toInt = _) (show (20 : Int32).toInt = (20 : Int) from by decide) (ox_350 f3 f6 hy1)
  refine va_put (D := g.1) (ci := 0) (v := .int z7) (ty := .int) (C := RX0) (T := TX0) (N := 3) hx hb hG iX0 tyX0 tyX0_ok nmX0 hown hX.1 hP hD hS 0 rfl rfl 2 (by decide) (hG _ wf_X0_15) (fun _ h9 => h9) rfl (by decide +kernel) rfl rfl (Nat.le_of_ble_eq_true rfl) dX0_takeBack_13 (fun H locs hP hD hS => ?_)
  have hP : va_P g.1 vwCl [(h0, .inr (0, [.ref h0_rows, .int h0_size, .int z7])), (h0_rows, .inl (g.2.1.1, 240, .inl f_h0_rows)), (y1, .inr (4, [.int y1_count, .int y1_statements, .int y1_thick, .int y1_punch, .int y1_ups, .int y1_toolCount, .ref y1_toolWidth, .ref y1_told, .ref y1_name, .ref y1_parent, .ref y1_side, .ref y1_from, .ref y1_width, .ref y1_height, .ref y1_radius, .ref y1_toolSet])), (y1_told, .inl (g.2.1.1, 10, .inl f_y1_told))] H := hP
  have hD : va_D A [(h0, .inr (0, [.ref h0_rows, .int h0_size, .int z7])), (h0_rows, .inl (g.2.1.1, 240, .inl f_h0_rows)), (y1, .inr (4, [.int y1_count, .int y1_statements, .int y1_thick, .int y1_punch, .int y1_ups, .int y1_toolCount, .ref y1_toolWidth, .ref y1_told, .ref y1_name, .ref y1_parent, .ref y1_side, .ref y1_from, .ref y1_width, .ref y1_height, .ref y1_radius, .ref y1_toolSet])), (y1_told, .inl (g.2.1.1, 10, .inl f_y1_told))] := hD
  refine lv_aload_n hx hb dX0_takeBack_16 rfl (lv_at hl 0 rfl) ?_
  refine lv_iconst (v := 0) hx hb dX0_takeBack_17 (by decide) ?_
  refine lv_aload_n hx hb dX0_takeBack_18 rfl (lv_at hl 0 rfl) ?_
  refine va_get (D := g.1) (ci := 0) (v := .int h0_size) (C := RX0) (T := TX0) (N := 3) hx hb hG iX0 hown hX.1 hP 0 rfl rfl 1 (by decide) (hG _ wf_X0_36) (fun _ h9 => h9) rfl dX0_takeBack_19 ?_
  refine lv_iconst (v := 1) hx hb dX0_takeBack_22 (by decide) ?_
  refine lv_isub hx hb dX0_takeBack_23 ?_
  refine lv_topi (fun z10 e11 => ?_)
  have f12 : z10.toInt = h0_size.toInt - (1 : Int) := zs e11 (rfl : h0_size.toInt = _) (show (1 : Int32).toInt = (1 : Int) from by decide) (ox_351 (zr h0_size) hy0)
  refine va_mmax hx hb (by rw [hml]; exact hl.1.symm) hown (hG _ wm_X0_45) (hG _ ws_J9_max_7cf53) (hG _ wini_J9) (hG _ wc_J9_max_7cf53) (Nat.le_of_ble_eq_true rfl) (Nat.le_of_ble_eq_true rfl) (Nat.le_of_ble_eq_true rfl) (Nat.le_of_ble_eq_true rfl) dX0_takeBack_24 ?_
  refine lv_topi (fun z13 e14 => ?_)
  have f15 : z13.toInt ≥ (0 : Int) ∧ z13.toInt ≥ z10.toInt ∧ (z13.toInt = (0 : Int) ∨ z13.toInt = z10.toInt) := zmx e14 (show (0 : Int32).toInt = (0 : Int) from by decide) (rfl : z10.toInt = _)
  refine va_put (D := g.1) (ci := 0) (v := .int z13) (ty := .int) (C := RX0) (T := TX0) (N := 3) hx hb hG iX0 tyX0 tyX0_ok nmX0 hown hX.1 hP hD hS 0 rfl rfl 1 (by decide) (hG _ wf_X0_36) (fun _ h9 => h9) rfl (by decide +kernel) rfl rfl (Nat.le_of_ble_eq_true rfl) dX0_takeBack_27 (fun H locs hP hD hS => ?_)
  have hP : va_P g.1 vwCl [(h0, .inr (0, [.ref h0_rows, .int z13, .int z7])), (h0_rows, .inl (g.2.1.1, 240, .inl f_h0_rows)), (y1, .inr (4, [.int y1_count, .int y1_statements, .int y1_thick, .int y1_punch, .int y1_ups, .int y1_toolCount, .ref y1_toolWidth, .ref y1_told, .ref y1_name, .ref y1_parent, .ref y1_side, .ref y1_from, .ref y1_width, .ref y1_height, .ref y1_radius, .ref y1_toolSet])), (y1_told, .inl (g.2.1.1, 10, .inl f_y1_told))] H := hP
  have hD : va_D A [(h0, .inr (0, [.ref h0_rows, .int z13, .int z7])), (h0_rows, .inl (g.2.1.1, 240, .inl f_h0_rows)), (y1, .inr (4, [.int y1_count, .int y1_statements, .int y1_thick, .int y1_punch, .int y1_ups, .int y1_toolCount, .ref y1_toolWidth, .ref y1_told, .ref y1_name, .ref y1_parent, .ref y1_side, .ref y1_from, .ref y1_width, .ref y1_height, .ref y1_radius, .ref y1_toolSet])), (y1_told, .inl (g.2.1.1, 10, .inl f_y1_told))] := hD
  refine lv_aload_n hx hb dX0_takeBack_30 rfl (lv_at hl 0 rfl) ?_
  refine va_get (D := g.1) (ci := 0) (v := .int z7) (C := RX0) (T := TX0) (N := 3) hx hb hG iX0 hown hX.1 hP 0 rfl rfl 2 (by decide) (hG _ wf_X0_15) (fun _ h9 => h9) rfl dX0_takeBack_31 ?_
  refine lv_bipush (v := 12) hx hb dX0_takeBack_34 (by decide) ?_
  refine lv_imul hx hb dX0_takeBack_36 ?_
  refine lv_topi (fun z16 e17 => ?_)
  have f18 : z16.toInt = z7.toInt * (12 : Int) := zm e17 (rfl : z7.toInt = _) (show (12 : Int32).toInt = (12 : Int) from by decide) (ox_352 (zr h0_next) (zr z1) (zr z4) (zr z7) f3 f6 f9 hy1)
  refine lv_istore_n (lv' := [(2, .int z16), (0, .ref h0), (1, .ref y1)]) hx hb dX0_takeBack_37 rfl hl (by decide) rfl (fun ls hl => ?_)
  refine lv_aload_n hx hb dX0_takeBack_38 rfl (lv_at hl 2 rfl) ?_
  refine lv_aload_n hx hb dX0_takeBack_39 rfl (lv_at hl 1 rfl) ?_
  refine va_get (D := g.1) (ci := 0) (v := .ref h0_rows) (C := RX0) (T := TX0) (N := 3) hx hb hG iX0 hown hX.1 hP 0 rfl rfl 0 (by decide) (hG _ wf_X0_11) (fun _ h9 => h9) rfl dX0_takeBack_40 ?_
  refine lv_iload_n hx hb dX0_takeBack_43 rfl (lv_at hl 0 rfl) ?_
  refine lv_iconst (v := 1) hx hb dX0_takeBack_44 (by decide) ?_
  refine lv_iadd hx hb dX0_takeBack_45 ?_
  refine lv_topi (fun z19 e20 => ?_)
  have f21 : z19.toInt = z16.toInt + (1 : Int) := za e20 (rfl : z16.toInt = _) (show (1 : Int32).toInt = (1 : Int) from by decide) (ox_353 (zr h0_next) (zr z1) (zr z16) (zr z4) (zr z7) f18 f3 f6 f9 hy1)
  refine va_iald hx hb hX.1 hP 1 0 rfl rfl (zin (rfl : z19.toInt = _) (ox_354 f18 f21 f3 f6 f9 hy1)) dX0_takeBack_46 ?_
  refine lv_topi (fun z22 e23 => ?_)
  refine va_putN (D := g.1) (ci := 4) (v := .int z22) (ty := .int) (C := RX4) (T := TX4) (N := 16) hx hb hG iX4 tyX4 tyX4_ok nmX4 hown hX.1 hP hD hS 2 rfl rfl 4 (by decide) (hX.2.1.fl wfn_X0_19) (fun _ h9 => h9) rfl (by decide +kernel) rfl rfl (Nat.le_of_ble_eq_true rfl) dX0_takeBack_47 (fun H locs hP hD hS => ?_)
  have hP : va_P g.1 vwCl [(h0, .inr (0, [.ref h0_rows, .int z13, .int z7])), (h0_rows, .inl (g.2.1.1, 240, .inl f_h0_rows)), (y1, .inr (4, [.int y1_count, .int y1_statements, .int y1_thick, .int y1_punch, .int z22, .int y1_toolCount, .ref y1_toolWidth, .ref y1_told, .ref y1_name, .ref y1_parent, .ref y1_side, .ref y1_from, .ref y1_width, .ref y1_height, .ref y1_radius, .ref y1_toolSet])), (y1_told, .inl (g.2.1.1, 10, .inl f_y1_told))] H := hP
  have hD : va_D A [(h0, .inr (0, [.ref h0_rows, .int z13, .int z7])), (h0_rows, .inl (g.2.1.1, 240, .inl f_h0_rows)), (y1, .inr (4, [.int y1_count, .int y1_statements, .int y1_thick, .int y1_punch, .int z22, .int y1_toolCount, .ref y1_toolWidth, .ref y1_told, .ref y1_name, .ref y1_parent, .ref y1_side, .ref y1_from, .ref y1_width, .ref y1_height, .ref y1_radius, .ref y1_toolSet])), (y1_told, .inl (g.2.1.1, 10, .inl f_y1_told))] := hD
  refine lv_aload_n hx hb dX0_takeBack_50 rfl (lv_at hl 2 rfl) ?_
  refine lv_aload_n hx hb dX0_takeBack_51 rfl (lv_at hl 1 rfl) ?_
  refine va_get (D := g.1) (ci := 0) (v := .ref h0_rows) (C := RX0) (T := TX0) (N := 3) hx hb hG iX0 hown hX.1 hP 0 rfl rfl 0 (by decide) (hG _ wf_X0_11) (fun _ h9 => h9) rfl dX0_takeBack_52 ?_
  refine lv_iload_n hx hb dX0_takeBack_55 rfl (lv_at hl 0 rfl) ?_
  refine lv_iconst (v := 2) hx hb dX0_takeBack_56 (by decide) ?_
  refine lv_iadd hx hb dX0_takeBack_57 ?_
  refine lv_topi (fun z24 e25 => ?_)
  have f26 : z24.toInt = z16.toInt + (2 : Int) := za e25 (rfl : z16.toInt = _) (show (2 : Int32).toInt = (2 : Int) from by decide) (ox_355 (zr h0_next) (zr z1) (zr z16) (zr z19) (zr z4) (zr z7) f18 f21 f3 f6 f9 hy1)
  refine va_iald hx hb hX.1 hP 1 0 rfl rfl (zin (rfl : z24.toInt = _) (ox_356 f18 f21 f26 f3 f6 f9 hy1)) dX0_takeBack_58 ?_
  refine lv_topi (fun z27 e28 => ?_)
  refine va_putN (D := g.1) (ci := 4) (v := .int z27) (ty := .int) (C := RX4) (T := TX4) (N := 16) hx hb hG iX4 tyX4 tyX4_ok nmX4 hown hX.1 hP hD hS 2 rfl rfl 3 (by decide) (hX.2.1.fl wfn_X0_24) (fun _ h9 => h9) rfl (by decide +kernel) rfl rfl (Nat.le_of_ble_eq_true rfl) dX0_takeBack_59 (fun H locs hP hD hS => ?_)
  have hP : va_P g.1 vwCl [(h0, .inr (0, [.ref h0_rows, .int z13, .int z7])), (h0_rows, .inl (g.2.1.1, 240, .inl f_h0_rows)), (y1, .inr (4, [.int y1_count, .int y1_statements, .int y1_thick, .int z27, .int z22, .int y1_toolCount, .ref y1_toolWidth, .ref y1_told, .ref y1_name, .ref y1_parent, .ref y1_side, .ref y1_from, .ref y1_width, .ref y1_height, .ref y1_radius, .ref y1_toolSet])), (y1_told, .inl (g.2.1.1, 10, .inl f_y1_told))] H := hP
  have hD : va_D A [(h0, .inr (0, [.ref h0_rows, .int z13, .int z7])), (h0_rows, .inl (g.2.1.1, 240, .inl f_h0_rows)), (y1, .inr (4, [.int y1_count, .int y1_statements, .int y1_thick, .int z27, .int z22, .int y1_toolCount, .ref y1_toolWidth, .ref y1_told, .ref y1_name, .ref y1_parent, .ref y1_side, .ref y1_from, .ref y1_width, .ref y1_height, .ref y1_radius, .ref y1_toolSet])), (y1_told, .inl (g.2.1.1, 10, .inl f_y1_told))] := hD
  refine lv_aload_n hx hb dX0_takeBack_62 rfl (lv_at hl 1 rfl) ?_
  refine va_get (D := g.1) (ci := 0) (v := .ref h0_rows) (C := RX0) (T := TX0) (N := 3) hx hb hG iX0 hown hX.1 hP 0 rfl rfl 0 (by decide) (hG _ wf_X0_11) (fun _ h9 => h9) rfl dX0_takeBack_63 ?_
  refine lv_iload_n hx hb dX0_takeBack_66 rfl (lv_at hl 0 rfl) ?_
  refine lv_iconst (v := 3) hx hb dX0_takeBack_67 (by decide) ?_
  refine lv_iadd hx hb dX0_takeBack_68 ?_
  refine lv_topi (fun z29 e30 => ?_)
  have f31 : z29.toInt = z16.toInt + (3 : Int) := za e30 (rfl : z16.toInt = _) (show (3 : Int32).toInt = (3 : Int) from by decide) (ox_357 (zr h0_next) (zr z1) (zr z16) (zr z19) (zr z24) (zr z4) (zr z7) f18 f21 f26 f3 f6 f9 hy1)
  refine lv_aload_n hx hb dX0_takeBack_69 rfl (lv_at hl 2 rfl) ?_
  refine va_getN (D := g.1) (ci := 4) (v := .ref y1_told) (C := RX4) (T := TX4) (N := 16) hx hb hG iX4 hown hX.1 hP 2 rfl rfl 7 (by decide) (hX.2.1.fl wfn_X0_27) (fun _ h9 => h9) rfl dX0_takeBack_70 ?_
  refine lv_iconst (v := 1) hx hb dX0_takeBack_73 (by decide) ?_
  refine lv_bipush (v := 9) hx hb dX0_takeBack_74 (by decide) ?_
  refine va_copyi (ty := .int) hx hb (by rw [hml]; exact hl.1.symm) hown (hG _ wm_X0_30) (hG _ wn_java_lang_System_arraycopy__Ljava_lang_Object_ILjava_lang_Object_II_V) (hG _ ws_java_lang_System_arraycopy__Ljava_lang_Object_ILjava_lang_Object_II_V) (hG _ wini_J10) hX.1 hP hD hS 1 3 0 0 rfl rfl rfl rfl rfl (znl (rfl : z29.toInt = _) (ox_358 f18 f21 f26 f3 f31 f6 f9 hy1)) (znl (show (1 : Int32).toInt = (1 : Int) from by decide) ((show (0 : Int) ≤ (1 : Int) from by decide))) (znl (show (9 : Int32).toInt = (9 : Int) from by decide) ((show (0 : Int) ≤ (9 : Int) from by decide))) (zcp (rfl : z29.toInt = _) (show (9 : Int32).toInt = (9 : Int) from by decide) (ox_359 f18 f21 f26 f3 f31 f6 f9 hy1)) (zcp (show (1 : Int32).toInt = (1 : Int) from by decide) (show (9 : Int32).toInt = (9 : Int) from by decide) ((show (0 : Int) ≤ (1 : Int) ∧ (0 : Int) ≤ (9 : Int) ∧ ((1 : Int) : Int) + (9 : Int) ≤ 10 from by decide))) (fun _ _ => rfl) (Nat.le_of_ble_eq_true rfl) (Nat.le_of_ble_eq_true rfl) dX0_takeBack_76 (fun H locs hP hD hS => ?_)
  obtain ⟨f32, e33⟩ : ∃ z9 : Nat → Int32, z9 = va_cpy f_h0_rows f_y1_told z29.toNatClampNeg (1 : Int32).toNatClampNeg (9 : Int32).toNatClampNeg := ⟨_, rfl⟩
  rw [← e33] at hP hD
  have hP : va_P g.1 vwCl [(h0, .inr (0, [.ref h0_rows, .int z13, .int z7])), (h0_rows, .inl (g.2.1.1, 240, .inl f_h0_rows)), (y1, .inr (4, [.int y1_count, .int y1_statements, .int y1_thick, .int z27, .int z22, .int y1_toolCount, .ref y1_toolWidth, .ref y1_told, .ref y1_name, .ref y1_parent, .ref y1_side, .ref y1_from, .ref y1_width, .ref y1_height, .ref y1_radius, .ref y1_toolSet])), (y1_told, .inl (g.2.1.1, 10, .inl f32))] H := hP
  have hD : va_D A [(h0, .inr (0, [.ref h0_rows, .int z13, .int z7])), (h0_rows, .inl (g.2.1.1, 240, .inl f_h0_rows)), (y1, .inr (4, [.int y1_count, .int y1_statements, .int y1_thick, .int z27, .int z22, .int y1_toolCount, .ref y1_toolWidth, .ref y1_told, .ref y1_name, .ref y1_parent, .ref y1_side, .ref y1_from, .ref y1_width, .ref y1_height, .ref y1_radius, .ref y1_toolSet])), (y1_told, .inl (g.2.1.1, 10, .inl f32))] := hD
  refine lv_aload_n hx hb dX0_takeBack_79 rfl (lv_at hl 1 rfl) ?_
  refine va_get (D := g.1) (ci := 0) (v := .ref h0_rows) (C := RX0) (T := TX0) (N := 3) hx hb hG iX0 hown hX.1 hP 0 rfl rfl 0 (by decide) (hG _ wf_X0_11) (fun _ h9 => h9) rfl dX0_takeBack_80 ?_
  refine lv_iload_n hx hb dX0_takeBack_83 rfl (lv_at hl 0 rfl) ?_
  refine va_iald hx hb hX.1 hP 1 0 rfl rfl (zin (rfl : z16.toInt = _) (ox_360 f18 f21 f26 f3 f31 f6 f9 hy1)) dX0_takeBack_84 ?_
  refine lv_topi (fun z34 e35 => ?_)
  have f36 : 0 ≤ z34.toInt ∧ z34.toInt ≤ 255 := hy2.at e35 (rfl : z16.toInt = _) (ox_361 f18 f21 f26 f3 f31 f6 f9 hy1)
  exact hret z34 (z13, z7, z27, z22, f32) (Nat.le_of_ble_eq_true rfl) (Nat.le_of_ble_eq_true rfl) rfl ⟨ox_362 f12 f15 hy0, ox_363 f18 f21 f26 f3 f31 f6 f9 hy1, ox_228 f36⟩ hP hD hS dX0_takeBack_85
