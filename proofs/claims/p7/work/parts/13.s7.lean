theorem ox_614 {a0 a1 : Int} (h0 : a0 < (1 : Int)) (h1 : 0 ≤ a1 ∧ a1 ≤ 9) : ((0 : Int) = 0 ∨ (1 ≤ a0 ∧ a0 < a1)) := by omega
theorem ox_615 {a0 a1 : Int} (h0 : ¬ (a0 < (1 : Int))) (h1 : a1 ≤ a0) (h2 : 0 ≤ a1 ∧ a1 ≤ 9) : ((0 : Int) = 0 ∨ (1 ≤ a0 ∧ a0 < a1)) := by omega
theorem ox_616 {a0 a1 : Int} (h0 : ¬ (a0 < (1 : Int))) (h1 : ¬ (a1 ≤ a0)) (h2 : 0 ≤ a1 ∧ a1 ≤ 9) : ((1 : Int) = 0 ∨ (1 ≤ a0 ∧ a0 < a1)) := by omega
theorem ox_617 {a0 : Int} (h0 : 0 ≤ a0 ∧ a0 ≤ 1200) : (0 : Int) ≤ a0 ∧ (0 : Int) < (3 : Int) := by omega
theorem ox_618 {a0 a1 : Int} (h0 : a1 = a0 / (3 : Int)) (h1 : 0 ≤ a0 ∧ a0 ≤ 1200) : (0 : Int) ≤ a0 ∧ (0 : Int) < (3 : Int) := by omega
theorem ox_619 {a0 a1 a2 a3 a4 a5 a6 : Int} (h0 : ¬ (a1 = (0 : Int))) (h1 : a0 ≤ a2) (h2 : a0 = a3 / (3 : Int)) (h3 : a4 = a3 % (3 : Int)) (h4 : 0 ≤ a3 ∧ a3 ≤ 1200) (h5 : 0 ≤ a5 ∧ a5 ≤ 1) (h6 : 0 ≤ a1 ∧ a1 ≤ 1) (h7 : 0 ≤ a6 ∧ a6 ≤ 400) (h8 : 0 ≤ a2 ∧ a2 ≤ 400) (h9 : (a5 = 0 ∨ (1 ≤ a0 ∧ a0 ≤ 8))) (h10 : (a1 = 0 ∨ (1 ≤ a0 ∧ a0 ≤ 8))) (h11 : (a1 = 0 ∨ a0 ≤ a6)) (h12 : (a1 = 0 ∨ (1 ≤ a0 ∧ a0 ≤ 8))) (h13 : (a1 = 0 ∨ (1 ≤ a0 ∧ a0 ≤ 8))) : 0 ≤ a0 ∧ a0 ≤ 8 := by omega
theorem ox_620 {a0 a1 a2 a3 a4 a5 a6 : Int} (h0 : ¬ (a2 = (0 : Int))) (h1 : a0 ≤ a1) (h2 : a0 = a3 / (3 : Int)) (h3 : a4 = a3 % (3 : Int)) (h4 : 0 ≤ a3 ∧ a3 ≤ 1200) (h5 : 0 ≤ a5 ∧ a5 ≤ 1) (h6 : 0 ≤ a2 ∧ a2 ≤ 1) (h7 : 0 ≤ a6 ∧ a6 ≤ 400) (h8 : 0 ≤ a1 ∧ a1 ≤ 400) (h9 : (a5 = 0 ∨ (1 ≤ a0 ∧ a0 ≤ 8))) (h10 : (a2 = 0 ∨ (1 ≤ a0 ∧ a0 ≤ 8))) (h11 : (a2 = 0 ∨ a0 ≤ a6)) (h12 : (a2 = 0 ∨ (1 ≤ a0 ∧ a0 ≤ 8))) (h13 : (a2 = 0 ∨ (1 ≤ a0 ∧ a0 ≤ 8))) : a0 ≤ a1 := by omega
theorem ox_621 {a0 a1 a2 a3 a4 a5 a6 : Int} (h0 : -2147483648 ≤ a1 ∧ a1 < 2147483648) (h1 : -2147483648 ≤ a2 ∧ a2 < 2147483648) (h2 : -2147483648 ≤ a3 ∧ a3 < 2147483648) (h3 : -2147483648 ≤ a0 ∧ a0 < 2147483648) (h4 : -2147483648 ≤ a4 ∧ a4 < 2147483648) (h5 : -2147483648 ≤ a5 ∧ a5 < 2147483648) (h6 : -2147483648 ≤ a6 ∧ a6 < 2147483648) (h7 : ¬ (a2 = (0 : Int))) (h8 : ¬ (a5 ≤ a0)) (h9 : a5 = a4 / (3 : Int)) (h10 : a6 = a4 % (3 : Int)) (h11 : 0 ≤ a4 ∧ a4 ≤ 1200) (h12 : 0 ≤ a1 ∧ a1 ≤ 1) (h13 : 0 ≤ a2 ∧ a2 ≤ 1) (h14 : 0 ≤ a3 ∧ a3 ≤ 400) (h15 : 0 ≤ a0 ∧ a0 ≤ 400) (h16 : (a1 = 0 ∨ (1 ≤ a5 ∧ a5 ≤ 8))) (h17 : (a2 = 0 ∨ (1 ≤ a5 ∧ a5 ≤ 8))) (h18 : (a2 = 0 ∨ a5 ≤ a3)) (h19 : (a2 = 0 ∨ (1 ≤ a5 ∧ a5 ≤ 8))) (h20 : (a2 = 0 ∨ (1 ≤ a5 ∧ a5 ≤ 8))) : -2147483648 ≤ (3 : Int) * a0 ∧ (3 : Int) * a0 < 2147483648 := by omega
theorem ox_622 {a0 a1 a2 a3 a4 a5 a6 a7 : Int} (h0 : ¬ (a1 = (0 : Int))) (h1 : ¬ (a2 ≤ a3)) (h2 : a2 = a0 / (3 : Int)) (h3 : a4 = (3 : Int) * a3) (h4 : a5 = a0 % (3 : Int)) (h5 : 0 ≤ a0 ∧ a0 ≤ 1200) (h6 : 0 ≤ a6 ∧ a6 ≤ 1) (h7 : 0 ≤ a1 ∧ a1 ≤ 1) (h8 : 0 ≤ a7 ∧ a7 ≤ 400) (h9 : 0 ≤ a3 ∧ a3 ≤ 400) (h10 : (a6 = 0 ∨ (1 ≤ a2 ∧ a2 ≤ 8))) (h11 : (a1 = 0 ∨ (1 ≤ a2 ∧ a2 ≤ 8))) (h12 : (a1 = 0 ∨ a2 ≤ a7)) (h13 : (a1 = 0 ∨ (1 ≤ a2 ∧ a2 ≤ 8))) (h14 : (a1 = 0 ∨ (1 ≤ a2 ∧ a2 ≤ 8))) : 0 ≤ a0 ∧ a0 ≤ 1200 := by omega
theorem ox_623 {a0 a1 a2 a3 a4 a5 a6 a7 : Int} (h0 : ¬ (a1 = (0 : Int))) (h1 : ¬ (a2 ≤ a0)) (h2 : a2 = a3 / (3 : Int)) (h3 : a4 = (3 : Int) * a0) (h4 : a5 = a3 % (3 : Int)) (h5 : 0 ≤ a3 ∧ a3 ≤ 1200) (h6 : 0 ≤ a6 ∧ a6 ≤ 1) (h7 : 0 ≤ a1 ∧ a1 ≤ 1) (h8 : 0 ≤ a7 ∧ a7 ≤ 400) (h9 : 0 ≤ a0 ∧ a0 ≤ 400) (h10 : (a6 = 0 ∨ (1 ≤ a2 ∧ a2 ≤ 8))) (h11 : (a1 = 0 ∨ (1 ≤ a2 ∧ a2 ≤ 8))) (h12 : (a1 = 0 ∨ a2 ≤ a7)) (h13 : (a1 = 0 ∨ (1 ≤ a2 ∧ a2 ≤ 8))) (h14 : (a1 = 0 ∨ (1 ≤ a2 ∧ a2 ≤ 8))) : 0 ≤ a0 ∧ a0 < 8 := by omega
theorem ox_624 {a0 a1 a2 a3 a4 a5 a6 a7 : Int} (h0 : -2147483648 ≤ a1 ∧ a1 < 2147483648) (h1 : -2147483648 ≤ a2 ∧ a2 < 2147483648) (h2 : -2147483648 ≤ a3 ∧ a3 < 2147483648) (h3 : -2147483648 ≤ a0 ∧ a0 < 2147483648) (h4 : -2147483648 ≤ a4 ∧ a4 < 2147483648) (h5 : -2147483648 ≤ a5 ∧ a5 < 2147483648) (h6 : -2147483648 ≤ a6 ∧ a6 < 2147483648) (h7 : -2147483648 ≤ a7 ∧ a7 < 2147483648) (h8 : ¬ (a2 = (0 : Int))) (h9 : ¬ (a5 ≤ a0)) (h10 : a5 = a4 / (3 : Int)) (h11 : a6 = (3 : Int) * a0) (h12 : a7 = a4 % (3 : Int)) (h13 : 0 ≤ a4 ∧ a4 ≤ 1200) (h14 : 0 ≤ a1 ∧ a1 ≤ 1) (h15 : 0 ≤ a2 ∧ a2 ≤ 1) (h16 : 0 ≤ a3 ∧ a3 ≤ 400) (h17 : 0 ≤ a0 ∧ a0 ≤ 400) (h18 : (a1 = 0 ∨ (1 ≤ a5 ∧ a5 ≤ 8))) (h19 : (a2 = 0 ∨ (1 ≤ a5 ∧ a5 ≤ 8))) (h20 : (a2 = 0 ∨ a5 ≤ a3)) (h21 : (a2 = 0 ∨ (1 ≤ a5 ∧ a5 ≤ 8))) (h22 : (a2 = 0 ∨ (1 ≤ a5 ∧ a5 ≤ 8))) : -2147483648 ≤ (3 : Int) * a0 ∧ (3 : Int) * a0 < 2147483648 := by omega
theorem ox_625 {a0 a1 a2 a3 a4 a5 a6 a7 a8 : Int} (h0 : -2147483648 ≤ a1 ∧ a1 < 2147483648) (h1 : -2147483648 ≤ a2 ∧ a2 < 2147483648) (h2 : -2147483648 ≤ a3 ∧ a3 < 2147483648) (h3 : -2147483648 ≤ a4 ∧ a4 < 2147483648) (h4 : -2147483648 ≤ a5 ∧ a5 < 2147483648) (h5 : -2147483648 ≤ a6 ∧ a6 < 2147483648) (h6 : -2147483648 ≤ a7 ∧ a7 < 2147483648) (h7 : -2147483648 ≤ a0 ∧ a0 < 2147483648) (h8 : -2147483648 ≤ a8 ∧ a8 < 2147483648) (h9 : ¬ (a2 = (0 : Int))) (h10 : ¬ (a6 ≤ a4)) (h11 : a6 = a5 / (3 : Int)) (h12 : a7 = (3 : Int) * a4) (h13 : a0 = (3 : Int) * a4) (h14 : a8 = a5 % (3 : Int)) (h15 : 0 ≤ a5 ∧ a5 ≤ 1200) (h16 : 0 ≤ a1 ∧ a1 ≤ 1) (h17 : 0 ≤ a2 ∧ a2 ≤ 1) (h18 : 0 ≤ a3 ∧ a3 ≤ 400) (h19 : 0 ≤ a4 ∧ a4 ≤ 400) (h20 : (a1 = 0 ∨ (1 ≤ a6 ∧ a6 ≤ 8))) (h21 : (a2 = 0 ∨ (1 ≤ a6 ∧ a6 ≤ 8))) (h22 : (a2 = 0 ∨ a6 ≤ a3)) (h23 : (a2 = 0 ∨ (1 ≤ a6 ∧ a6 ≤ 8))) (h24 : (a2 = 0 ∨ (1 ≤ a6 ∧ a6 ≤ 8))) : -2147483648 ≤ a0 + (1 : Int) ∧ a0 + (1 : Int) < 2147483648 := by omega
theorem ox_626 {a0 a1 a2 a3 a4 a5 a6 a7 a8 a9 : Int} (h0 : ¬ (a1 = (0 : Int))) (h1 : ¬ (a2 ≤ a3)) (h2 : a2 = a0 / (3 : Int)) (h3 : a4 = (3 : Int) * a3) (h4 : a5 = (3 : Int) * a3) (h5 : a6 = a5 + (1 : Int)) (h6 : a7 = a0 % (3 : Int)) (h7 : 0 ≤ a0 ∧ a0 ≤ 1200) (h8 : 0 ≤ a8 ∧ a8 ≤ 1) (h9 : 0 ≤ a1 ∧ a1 ≤ 1) (h10 : 0 ≤ a9 ∧ a9 ≤ 400) (h11 : 0 ≤ a3 ∧ a3 ≤ 400) (h12 : (a8 = 0 ∨ (1 ≤ a2 ∧ a2 ≤ 8))) (h13 : (a1 = 0 ∨ (1 ≤ a2 ∧ a2 ≤ 8))) (h14 : (a1 = 0 ∨ a2 ≤ a9)) (h15 : (a1 = 0 ∨ (1 ≤ a2 ∧ a2 ≤ 8))) (h16 : (a1 = 0 ∨ (1 ≤ a2 ∧ a2 ≤ 8))) : 0 ≤ a0 ∧ a0 ≤ 1200 := by omega
theorem ox_627 {a0 : Int} (h0 : -2147483648 ≤ a0 ∧ a0 < 2147483648) (h1 : (-1) ≤ a0 ∧ a0 ≤ 255) : -2147483648 ≤ (256 : Int) * a0 ∧ (256 : Int) * a0 < 2147483648 := by omega
theorem ox_628 {a0 a1 a2 a3 a4 a5 a6 a7 a8 a9 : Int} (h0 : -2147483648 ≤ a1 ∧ a1 < 2147483648) (h1 : -2147483648 ≤ a2 ∧ a2 < 2147483648) (h2 : -2147483648 ≤ a3 ∧ a3 < 2147483648) (h3 : -2147483648 ≤ a0 ∧ a0 < 2147483648) (h4 : -2147483648 ≤ a4 ∧ a4 < 2147483648) (h5 : -2147483648 ≤ a5 ∧ a5 < 2147483648) (h6 : -2147483648 ≤ a6 ∧ a6 < 2147483648) (h7 : -2147483648 ≤ a7 ∧ a7 < 2147483648) (h8 : -2147483648 ≤ a8 ∧ a8 < 2147483648) (h9 : -2147483648 ≤ a9 ∧ a9 < 2147483648) (h10 : ¬ (a2 = (0 : Int))) (h11 : ¬ (a5 ≤ a0)) (h12 : a5 = a4 / (3 : Int)) (h13 : a6 = (3 : Int) * a0) (h14 : a7 = (3 : Int) * a0) (h15 : a8 = a7 + (1 : Int)) (h16 : a9 = a4 % (3 : Int)) (h17 : 0 ≤ a4 ∧ a4 ≤ 1200) (h18 : 0 ≤ a1 ∧ a1 ≤ 1) (h19 : 0 ≤ a2 ∧ a2 ≤ 1) (h20 : 0 ≤ a3 ∧ a3 ≤ 400) (h21 : 0 ≤ a0 ∧ a0 ≤ 400) (h22 : (a1 = 0 ∨ (1 ≤ a5 ∧ a5 ≤ 8))) (h23 : (a2 = 0 ∨ (1 ≤ a5 ∧ a5 ≤ 8))) (h24 : (a2 = 0 ∨ a5 ≤ a3)) (h25 : (a2 = 0 ∨ (1 ≤ a5 ∧ a5 ≤ 8))) (h26 : (a2 = 0 ∨ (1 ≤ a5 ∧ a5 ≤ 8))) : -2147483648 ≤ (3 : Int) * a0 ∧ (3 : Int) * a0 < 2147483648 := by omega
theorem ox_629 {a0 a1 a2 a3 a4 a5 a6 a7 a8 a9 a10 : Int} (h0 : -2147483648 ≤ a1 ∧ a1 < 2147483648) (h1 : -2147483648 ≤ a2 ∧ a2 < 2147483648) (h2 : -2147483648 ≤ a3 ∧ a3 < 2147483648) (h3 : -2147483648 ≤ a4 ∧ a4 < 2147483648) (h4 : -2147483648 ≤ a5 ∧ a5 < 2147483648) (h5 : -2147483648 ≤ a6 ∧ a6 < 2147483648) (h6 : -2147483648 ≤ a7 ∧ a7 < 2147483648) (h7 : -2147483648 ≤ a8 ∧ a8 < 2147483648) (h8 : -2147483648 ≤ a9 ∧ a9 < 2147483648) (h9 : -2147483648 ≤ a0 ∧ a0 < 2147483648) (h10 : -2147483648 ≤ a10 ∧ a10 < 2147483648) (h11 : ¬ (a2 = (0 : Int))) (h12 : ¬ (a6 ≤ a4)) (h13 : a6 = a5 / (3 : Int)) (h14 : a7 = (3 : Int) * a4) (h15 : a8 = (3 : Int) * a4) (h16 : a9 = a8 + (1 : Int)) (h17 : a0 = (3 : Int) * a4) (h18 : a10 = a5 % (3 : Int)) (h19 : 0 ≤ a5 ∧ a5 ≤ 1200) (h20 : 0 ≤ a1 ∧ a1 ≤ 1) (h21 : 0 ≤ a2 ∧ a2 ≤ 1) (h22 : 0 ≤ a3 ∧ a3 ≤ 400) (h23 : 0 ≤ a4 ∧ a4 ≤ 400) (h24 : (a1 = 0 ∨ (1 ≤ a6 ∧ a6 ≤ 8))) (h25 : (a2 = 0 ∨ (1 ≤ a6 ∧ a6 ≤ 8))) (h26 : (a2 = 0 ∨ a6 ≤ a3)) (h27 : (a2 = 0 ∨ (1 ≤ a6 ∧ a6 ≤ 8))) (h28 : (a2 = 0 ∨ (1 ≤ a6 ∧ a6 ≤ 8))) : -2147483648 ≤ a0 + (2 : Int) ∧ a0 + (2 : Int) < 2147483648 := by omega
theorem ox_630 {a0 a1 a2 a3 a4 a5 a6 a7 a8 a9 a10 a11 : Int} (h0 : ¬ (a1 = (0 : Int))) (h1 : ¬ (a2 ≤ a3)) (h2 : a2 = a0 / (3 : Int)) (h3 : a4 = (3 : Int) * a3) (h4 : a5 = (3 : Int) * a3) (h5 : a6 = a5 + (1 : Int)) (h6 : a7 = (3 : Int) * a3) (h7 : a8 = a7 + (2 : Int)) (h8 : a9 = a0 % (3 : Int)) (h9 : 0 ≤ a0 ∧ a0 ≤ 1200) (h10 : 0 ≤ a10 ∧ a10 ≤ 1) (h11 : 0 ≤ a1 ∧ a1 ≤ 1) (h12 : 0 ≤ a11 ∧ a11 ≤ 400) (h13 : 0 ≤ a3 ∧ a3 ≤ 400) (h14 : (a10 = 0 ∨ (1 ≤ a2 ∧ a2 ≤ 8))) (h15 : (a1 = 0 ∨ (1 ≤ a2 ∧ a2 ≤ 8))) (h16 : (a1 = 0 ∨ a2 ≤ a11)) (h17 : (a1 = 0 ∨ (1 ≤ a2 ∧ a2 ≤ 8))) (h18 : (a1 = 0 ∨ (1 ≤ a2 ∧ a2 ≤ 8))) : 0 ≤ a0 ∧ a0 ≤ 1200 := by omega
theorem ox_631 {a0 a1 a2 : Int} (h0 : -2147483648 ≤ a2 ∧ a2 < 2147483648) (h1 : -2147483648 ≤ a1 ∧ a1 < 2147483648) (h2 : -2147483648 ≤ a0 ∧ a0 < 2147483648) (h3 : a0 = (256 : Int) * a2) (h4 : (-1) ≤ a2 ∧ a2 ≤ 255) (h5 : (-1) ≤ a1 ∧ a1 ≤ 255) : -2147483648 ≤ a0 + a1 ∧ a0 + a1 < 2147483648 := by omega
theorem ox_632 {a0 a1 a2 a3 a4 a5 a6 a7 a8 a9 a10 a11 : Int} (h0 : ¬ (a1 = (0 : Int))) (h1 : ¬ (a2 ≤ a0)) (h2 : a2 = a3 / (3 : Int)) (h3 : a4 = (3 : Int) * a0) (h4 : a5 = (3 : Int) * a0) (h5 : a6 = a5 + (1 : Int)) (h6 : a7 = (3 : Int) * a0) (h7 : a8 = a7 + (2 : Int)) (h8 : a9 = a3 % (3 : Int)) (h9 : 0 ≤ a3 ∧ a3 ≤ 1200) (h10 : 0 ≤ a10 ∧ a10 ≤ 1) (h11 : 0 ≤ a1 ∧ a1 ≤ 1) (h12 : 0 ≤ a11 ∧ a11 ≤ 400) (h13 : 0 ≤ a0 ∧ a0 ≤ 400) (h14 : (a10 = 0 ∨ (1 ≤ a2 ∧ a2 ≤ 8))) (h15 : (a1 = 0 ∨ (1 ≤ a2 ∧ a2 ≤ 8))) (h16 : (a1 = 0 ∨ a2 ≤ a11)) (h17 : (a1 = 0 ∨ (1 ≤ a2 ∧ a2 ≤ 8))) (h18 : (a1 = 0 ∨ (1 ≤ a2 ∧ a2 ≤ 8))) : 0 ≤ a0 ∧ a0 < 8 := by omega
theorem ox_633 {a0 a1 a2 a3 a4 a5 a6 a7 a8 a9 a10 a11 : Int} (h0 : -2147483648 ≤ a1 ∧ a1 < 2147483648) (h1 : -2147483648 ≤ a2 ∧ a2 < 2147483648) (h2 : -2147483648 ≤ a3 ∧ a3 < 2147483648) (h3 : -2147483648 ≤ a0 ∧ a0 < 2147483648) (h4 : -2147483648 ≤ a4 ∧ a4 < 2147483648) (h5 : -2147483648 ≤ a5 ∧ a5 < 2147483648) (h6 : -2147483648 ≤ a6 ∧ a6 < 2147483648) (h7 : -2147483648 ≤ a7 ∧ a7 < 2147483648) (h8 : -2147483648 ≤ a8 ∧ a8 < 2147483648) (h9 : -2147483648 ≤ a9 ∧ a9 < 2147483648) (h10 : -2147483648 ≤ a10 ∧ a10 < 2147483648) (h11 : -2147483648 ≤ a11 ∧ a11 < 2147483648) (h12 : ¬ (a2 = (0 : Int))) (h13 : ¬ (a5 ≤ a0)) (h14 : a5 = a4 / (3 : Int)) (h15 : a6 = (3 : Int) * a0) (h16 : a7 = (3 : Int) * a0) (h17 : a8 = a7 + (1 : Int)) (h18 : a9 = (3 : Int) * a0) (h19 : a10 = a9 + (2 : Int)) (h20 : a11 = a4 % (3 : Int)) (h21 : 0 ≤ a4 ∧ a4 ≤ 1200) (h22 : 0 ≤ a1 ∧ a1 ≤ 1) (h23 : 0 ≤ a2 ∧ a2 ≤ 1) (h24 : 0 ≤ a3 ∧ a3 ≤ 400) (h25 : 0 ≤ a0 ∧ a0 ≤ 400) (h26 : (a1 = 0 ∨ (1 ≤ a5 ∧ a5 ≤ 8))) (h27 : (a2 = 0 ∨ (1 ≤ a5 ∧ a5 ≤ 8))) (h28 : (a2 = 0 ∨ a5 ≤ a3)) (h29 : (a2 = 0 ∨ (1 ≤ a5 ∧ a5 ≤ 8))) (h30 : (a2 = 0 ∨ (1 ≤ a5 ∧ a5 ≤ 8))) : -2147483648 ≤ a0 + 1 ∧ a0 + 1 < 2147483648 := by omega
theorem ox_634 {a0 a1 a2 a3 a4 a5 a6 a7 a8 a9 a10 a11 a12 : Int} (h0 : ¬ (a1 = (0 : Int))) (h1 : ¬ (a2 ≤ a3)) (h2 : a2 = a4 / (3 : Int)) (h3 : a5 = (3 : Int) * a3) (h4 : a6 = (3 : Int) * a3) (h5 : a7 = a6 + (1 : Int)) (h6 : a8 = (3 : Int) * a3) (h7 : a9 = a8 + (2 : Int)) (h8 : a0 = a3 + 1) (h9 : a10 = a4 % (3 : Int)) (h10 : 0 ≤ a4 ∧ a4 ≤ 1200) (h11 : 0 ≤ a11 ∧ a11 ≤ 1) (h12 : 0 ≤ a1 ∧ a1 ≤ 1) (h13 : 0 ≤ a12 ∧ a12 ≤ 400) (h14 : 0 ≤ a3 ∧ a3 ≤ 400) (h15 : (a11 = 0 ∨ (1 ≤ a2 ∧ a2 ≤ 8))) (h16 : (a1 = 0 ∨ (1 ≤ a2 ∧ a2 ≤ 8))) (h17 : (a1 = 0 ∨ a2 ≤ a12)) (h18 : (a1 = 0 ∨ (1 ≤ a2 ∧ a2 ≤ 8))) (h19 : (a1 = 0 ∨ (1 ≤ a2 ∧ a2 ≤ 8))) : 0 ≤ a0 ∧ a0 ≤ 400 := by omega
theorem ox_635 {a0 a1 a2 a3 a4 a5 a6 a7 a8 a9 a10 a11 a12 : Int} (h0 : ¬ (a2 = (0 : Int))) (h1 : ¬ (a0 ≤ a3)) (h2 : a0 = a4 / (3 : Int)) (h3 : a5 = (3 : Int) * a3) (h4 : a6 = (3 : Int) * a3) (h5 : a7 = a6 + (1 : Int)) (h6 : a8 = (3 : Int) * a3) (h7 : a9 = a8 + (2 : Int)) (h8 : a10 = a3 + 1) (h9 : a11 = a4 % (3 : Int)) (h10 : 0 ≤ a4 ∧ a4 ≤ 1200) (h11 : 0 ≤ a12 ∧ a12 ≤ 1) (h12 : 0 ≤ a2 ∧ a2 ≤ 1) (h13 : 0 ≤ a1 ∧ a1 ≤ 400) (h14 : 0 ≤ a3 ∧ a3 ≤ 400) (h15 : (a12 = 0 ∨ (1 ≤ a0 ∧ a0 ≤ 8))) (h16 : (a2 = 0 ∨ (1 ≤ a0 ∧ a0 ≤ 8))) (h17 : (a2 = 0 ∨ a0 ≤ a1)) (h18 : (a2 = 0 ∨ (1 ≤ a0 ∧ a0 ≤ 8))) (h19 : (a2 = 0 ∨ (1 ≤ a0 ∧ a0 ≤ 8))) : a0 ≤ a1 := by omega
theorem ox_636 {a0 a1 a2 a3 a4 a5 a6 a7 a8 a9 a10 a11 a12 : Int} (h0 : ¬ (a0 = (0 : Int))) (h1 : ¬ (a1 ≤ a2)) (h2 : a1 = a3 / (3 : Int)) (h3 : a4 = (3 : Int) * a2) (h4 : a5 = (3 : Int) * a2) (h5 : a6 = a5 + (1 : Int)) (h6 : a7 = (3 : Int) * a2) (h7 : a8 = a7 + (2 : Int)) (h8 : a9 = a2 + 1) (h9 : a10 = a3 % (3 : Int)) (h10 : 0 ≤ a3 ∧ a3 ≤ 1200) (h11 : 0 ≤ a11 ∧ a11 ≤ 1) (h12 : 0 ≤ a0 ∧ a0 ≤ 1) (h13 : 0 ≤ a12 ∧ a12 ≤ 400) (h14 : 0 ≤ a2 ∧ a2 ≤ 400) (h15 : (a11 = 0 ∨ (1 ≤ a1 ∧ a1 ≤ 8))) (h16 : (a0 = 0 ∨ (1 ≤ a1 ∧ a1 ≤ 8))) (h17 : (a0 = 0 ∨ a1 ≤ a12)) (h18 : (a0 = 0 ∨ (1 ≤ a1 ∧ a1 ≤ 8))) (h19 : (a0 = 0 ∨ (1 ≤ a1 ∧ a1 ≤ 8))) : ¬ a0 = 0 := by omega
theorem ox_637 {a0 a1 a2 a3 a4 a5 a6 a7 a8 a9 a10 a11 a12 : Int} (h0 : ¬ (a2 = (0 : Int))) (h1 : ¬ (a1 ≤ a0)) (h2 : a1 = a3 / (3 : Int)) (h3 : a4 = (3 : Int) * a0) (h4 : a5 = (3 : Int) * a0) (h5 : a6 = a5 + (1 : Int)) (h6 : a7 = (3 : Int) * a0) (h7 : a8 = a7 + (2 : Int)) (h8 : a9 = a0 + 1) (h9 : a10 = a3 % (3 : Int)) (h10 : 0 ≤ a3 ∧ a3 ≤ 1200) (h11 : 0 ≤ a11 ∧ a11 ≤ 1) (h12 : 0 ≤ a2 ∧ a2 ≤ 1) (h13 : 0 ≤ a12 ∧ a12 ≤ 400) (h14 : 0 ≤ a0 ∧ a0 ≤ 400) (h15 : (a11 = 0 ∨ (1 ≤ a1 ∧ a1 ≤ 8))) (h16 : (a2 = 0 ∨ (1 ≤ a1 ∧ a1 ≤ 8))) (h17 : (a2 = 0 ∨ a1 ≤ a12)) (h18 : (a2 = 0 ∨ (1 ≤ a1 ∧ a1 ≤ 8))) (h19 : (a2 = 0 ∨ (1 ≤ a1 ∧ a1 ≤ 8))) : a0 < a1 := by omega
theorem ox_638 {a0 a1 a2 a3 a4 a5 a6 a7 a8 a9 a10 a11 a12 : Int} (h0 : ¬ (a1 = (0 : Int))) (h1 : ¬ (a2 ≤ a0)) (h2 : a2 = a3 / (3 : Int)) (h3 : a4 = (3 : Int) * a0) (h4 : a5 = (3 : Int) * a0) (h5 : a6 = a5 + (1 : Int)) (h6 : a7 = (3 : Int) * a0) (h7 : a8 = a7 + (2 : Int)) (h8 : a9 = a0 + 1) (h9 : a10 = a3 % (3 : Int)) (h10 : 0 ≤ a3 ∧ a3 ≤ 1200) (h11 : 0 ≤ a11 ∧ a11 ≤ 1) (h12 : 0 ≤ a1 ∧ a1 ≤ 1) (h13 : 0 ≤ a12 ∧ a12 ≤ 400) (h14 : 0 ≤ a0 ∧ a0 ≤ 400) (h15 : (a11 = 0 ∨ (1 ≤ a2 ∧ a2 ≤ 8))) (h16 : (a1 = 0 ∨ (1 ≤ a2 ∧ a2 ≤ 8))) (h17 : (a1 = 0 ∨ a2 ≤ a12)) (h18 : (a1 = 0 ∨ (1 ≤ a2 ∧ a2 ≤ 8))) (h19 : (a1 = 0 ∨ (1 ≤ a2 ∧ a2 ≤ 8))) : 0 ≤ a0 := by omega
theorem ox_639 {a0 a1 a2 a3 a4 a5 a6 a7 a8 a9 a10 a11 a12 : Int} (h0 : ¬ (a2 = (0 : Int))) (h1 : ¬ (a3 ≤ a1)) (h2 : a3 = a4 / (3 : Int)) (h3 : a0 = (3 : Int) * a1) (h4 : a5 = (3 : Int) * a1) (h5 : a6 = a5 + (1 : Int)) (h6 : a7 = (3 : Int) * a1) (h7 : a8 = a7 + (2 : Int)) (h8 : a9 = a1 + 1) (h9 : a10 = a4 % (3 : Int)) (h10 : 0 ≤ a4 ∧ a4 ≤ 1200) (h11 : 0 ≤ a11 ∧ a11 ≤ 1) (h12 : 0 ≤ a2 ∧ a2 ≤ 1) (h13 : 0 ≤ a12 ∧ a12 ≤ 400) (h14 : 0 ≤ a1 ∧ a1 ≤ 400) (h15 : (a11 = 0 ∨ (1 ≤ a3 ∧ a3 ≤ 8))) (h16 : (a2 = 0 ∨ (1 ≤ a3 ∧ a3 ≤ 8))) (h17 : (a2 = 0 ∨ a3 ≤ a12)) (h18 : (a2 = 0 ∨ (1 ≤ a3 ∧ a3 ≤ 8))) (h19 : (a2 = 0 ∨ (1 ≤ a3 ∧ a3 ≤ 8))) : a0 = 3 * a1 := by omega
theorem ox_640 {a0 a1 a2 a3 a4 a5 a6 a7 a8 a9 a10 a11 a12 : Int} (h0 : ¬ (a2 = (0 : Int))) (h1 : ¬ (a3 ≤ a1)) (h2 : a3 = a4 / (3 : Int)) (h3 : a5 = (3 : Int) * a1) (h4 : a6 = (3 : Int) * a1) (h5 : a7 = a6 + (1 : Int)) (h6 : a8 = (3 : Int) * a1) (h7 : a9 = a8 + (2 : Int)) (h8 : a0 = a1 + 1) (h9 : a10 = a4 % (3 : Int)) (h10 : 0 ≤ a4 ∧ a4 ≤ 1200) (h11 : 0 ≤ a11 ∧ a11 ≤ 1) (h12 : 0 ≤ a2 ∧ a2 ≤ 1) (h13 : 0 ≤ a12 ∧ a12 ≤ 400) (h14 : 0 ≤ a1 ∧ a1 ≤ 400) (h15 : (a11 = 0 ∨ (1 ≤ a3 ∧ a3 ≤ 8))) (h16 : (a2 = 0 ∨ (1 ≤ a3 ∧ a3 ≤ 8))) (h17 : (a2 = 0 ∨ a3 ≤ a12)) (h18 : (a2 = 0 ∨ (1 ≤ a3 ∧ a3 ≤ 8))) (h19 : (a2 = 0 ∨ (1 ≤ a3 ∧ a3 ≤ 8))) : a0 = a1 + 1 := by omega
theorem ox_641 {a0 a1 a2 a3 a4 a5 a6 a7 a8 a9 a10 a11 a12 : Int} (h0 : ¬ (a0 = (0 : Int))) (h1 : ¬ (a1 ≤ a2)) (h2 : a1 = a3 / (3 : Int)) (h3 : a4 = (3 : Int) * a2) (h4 : a5 = (3 : Int) * a2) (h5 : a6 = a5 + (1 : Int)) (h6 : a7 = (3 : Int) * a2) (h7 : a8 = a7 + (2 : Int)) (h8 : a9 = a2 + 1) (h9 : a10 = a3 % (3 : Int)) (h10 : 0 ≤ a3 ∧ a3 ≤ 1200) (h11 : 0 ≤ a11 ∧ a11 ≤ 1) (h12 : 0 ≤ a0 ∧ a0 ≤ 1) (h13 : 0 ≤ a12 ∧ a12 ≤ 400) (h14 : 0 ≤ a2 ∧ a2 ≤ 400) (h15 : (a11 = 0 ∨ (1 ≤ a1 ∧ a1 ≤ 8))) (h16 : (a0 = 0 ∨ (1 ≤ a1 ∧ a1 ≤ 8))) (h17 : (a0 = 0 ∨ a1 ≤ a12)) (h18 : (a0 = 0 ∨ (1 ≤ a1 ∧ a1 ≤ 8))) (h19 : (a0 = 0 ∨ (1 ≤ a1 ∧ a1 ≤ 8))) : (a0 = 0 ∨ (1 ≤ a1 ∧ a1 ≤ 8)) := by omega
theorem ox_642 {a0 a1 a2 a3 a4 a5 a6 a7 a8 a9 a10 a11 a12 : Int} (h0 : ¬ (a2 = (0 : Int))) (h1 : ¬ (a3 ≤ a1)) (h2 : a3 = a4 / (3 : Int)) (h3 : a5 = (3 : Int) * a1) (h4 : a6 = (3 : Int) * a1) (h5 : a7 = a6 + (1 : Int)) (h6 : a8 = (3 : Int) * a1) (h7 : a9 = a8 + (2 : Int)) (h8 : a0 = a1 + 1) (h9 : a10 = a4 % (3 : Int)) (h10 : 0 ≤ a4 ∧ a4 ≤ 1200) (h11 : 0 ≤ a11 ∧ a11 ≤ 1) (h12 : 0 ≤ a2 ∧ a2 ≤ 1) (h13 : 0 ≤ a12 ∧ a12 ≤ 400) (h14 : 0 ≤ a1 ∧ a1 ≤ 400) (h15 : (a11 = 0 ∨ (1 ≤ a3 ∧ a3 ≤ 8))) (h16 : (a2 = 0 ∨ (1 ≤ a3 ∧ a3 ≤ 8))) (h17 : (a2 = 0 ∨ a3 ≤ a12)) (h18 : (a2 = 0 ∨ (1 ≤ a3 ∧ a3 ≤ 8))) (h19 : (a2 = 0 ∨ (1 ≤ a3 ∧ a3 ≤ 8))) : (401 - a0).toNat < (401 - a1).toNat := by omega
theorem ox_643 {a0 a1 a2 a3 a4 a5 : Int} (h0 : ¬ (a0 = (0 : Int))) (h1 : a1 = a2 / (3 : Int)) (h2 : a3 = a2 % (3 : Int)) (h3 : 0 ≤ a2 ∧ a2 ≤ 1200) (h4 : 0 ≤ a4 ∧ a4 ≤ 1) (h5 : 0 ≤ a0 ∧ a0 ≤ 1) (h6 : 0 ≤ a5 ∧ a5 ≤ 400) (h7 : (a4 = 0 ∨ (1 ≤ a1 ∧ a1 ≤ 8))) (h8 : (a0 = 0 ∨ (1 ≤ a1 ∧ a1 ≤ 8))) (h9 : (a0 = 0 ∨ a1 ≤ a5)) (h10 : (a0 = 0 ∨ (1 ≤ a1 ∧ a1 ≤ 8))) : (a0 = 0 ∨ (1 ≤ a1 ∧ a1 ≤ 8)) := by omega
theorem ox_644 {a0 a1 a2 a3 a4 a5 : Int} (h0 : a0 = (0 : Int)) (h1 : a1 = a3 / (3 : Int)) (h2 : a4 = a3 % (3 : Int)) (h3 : 0 ≤ a3 ∧ a3 ≤ 1200) (h4 : 0 ≤ a5 ∧ a5 ≤ 1) (h5 : 0 ≤ a0 ∧ a0 ≤ 1) (h6 : 0 ≤ a2 ∧ a2 ≤ 400) (h7 : (a5 = 0 ∨ (1 ≤ a1 ∧ a1 ≤ 8))) (h8 : (a0 = 0 ∨ (1 ≤ a1 ∧ a1 ≤ 8))) : (a0 = 0 ∨ a1 ≤ a2) := by omega
theorem ox_645 {a0 a1 a2 a3 a4 : Int} (h0 : a0 = (0 : Int)) (h1 : a1 = a2 / (3 : Int)) (h2 : a3 = a2 % (3 : Int)) (h3 : 0 ≤ a2 ∧ a2 ≤ 1200) (h4 : 0 ≤ a4 ∧ a4 ≤ 1) (h5 : 0 ≤ a0 ∧ a0 ≤ 1) (h6 : (a4 = 0 ∨ (1 ≤ a1 ∧ a1 ≤ 8))) (h7 : (a0 = 0 ∨ (1 ≤ a1 ∧ a1 ≤ 8))) : (a0 = 0 ∨ (1 ≤ a1 ∧ a1 ≤ 8)) := by omega
theorem ox_646 {a0 a1 a2 a3 a4 a5 : Int} (h0 : ¬ (a0 = (0 : Int))) (h1 : a1 ≤ a2) (h2 : a1 = a3 / (3 : Int)) (h3 : a4 = a3 % (3 : Int)) (h4 : 0 ≤ a3 ∧ a3 ≤ 1200) (h5 : 0 ≤ a5 ∧ a5 ≤ 1) (h6 : 0 ≤ a0 ∧ a0 ≤ 1) (h7 : 0 ≤ a2 ∧ a2 ≤ 400) (h8 : (a5 = 0 ∨ (1 ≤ a1 ∧ a1 ≤ 8))) (h9 : (a0 = 0 ∨ (1 ≤ a1 ∧ a1 ≤ 8))) : (a0 = 0 ∨ a1 ≤ a2) := by omega
theorem ox_647 {a0 a1 a2 a3 a4 a5 : Int} (h0 : ¬ (a0 = (0 : Int))) (h1 : a1 ≤ a2) (h2 : a1 = a3 / (3 : Int)) (h3 : a4 = a3 % (3 : Int)) (h4 : 0 ≤ a3 ∧ a3 ≤ 1200) (h5 : 0 ≤ a5 ∧ a5 ≤ 1) (h6 : 0 ≤ a0 ∧ a0 ≤ 1) (h7 : 0 ≤ a2 ∧ a2 ≤ 400) (h8 : (a5 = 0 ∨ (1 ≤ a1 ∧ a1 ≤ 8))) (h9 : (a0 = 0 ∨ (1 ≤ a1 ∧ a1 ≤ 8))) : (a0 = 0 ∨ (1 ≤ a1 ∧ a1 ≤ 8)) := by omega
theorem ox_648 {a0 a1 a2 a3 a4 a5 : Int} (h0 : -2147483648 ≤ a1 ∧ a1 < 2147483648) (h1 : -2147483648 ≤ a2 ∧ a2 < 2147483648) (h2 : -2147483648 ≤ a0 ∧ a0 < 2147483648) (h3 : -2147483648 ≤ a3 ∧ a3 < 2147483648) (h4 : -2147483648 ≤ a4 ∧ a4 < 2147483648) (h5 : -2147483648 ≤ a5 ∧ a5 < 2147483648) (h6 : ¬ (a2 = (0 : Int))) (h7 : ¬ (a4 ≤ a0)) (h8 : a4 = a3 / (3 : Int)) (h9 : a5 = a3 % (3 : Int)) (h10 : 0 ≤ a3 ∧ a3 ≤ 1200) (h11 : 0 ≤ a1 ∧ a1 ≤ 1) (h12 : 0 ≤ a2 ∧ a2 ≤ 1) (h13 : 0 ≤ a0 ∧ a0 ≤ 400) (h14 : (a1 = 0 ∨ (1 ≤ a4 ∧ a4 ≤ 8))) (h15 : (a2 = 0 ∨ (1 ≤ a4 ∧ a4 ≤ 8))) : -2147483648 ≤ (3 : Int) * a0 ∧ (3 : Int) * a0 < 2147483648 := by omega
theorem ox_649 {a0 a1 a2 a3 a4 a5 a6 : Int} (h0 : ¬ (a1 = (0 : Int))) (h1 : ¬ (a2 ≤ a3)) (h2 : a2 = a0 / (3 : Int)) (h3 : a4 = (3 : Int) * a3) (h4 : a5 = a0 % (3 : Int)) (h5 : 0 ≤ a0 ∧ a0 ≤ 1200) (h6 : 0 ≤ a6 ∧ a6 ≤ 1) (h7 : 0 ≤ a1 ∧ a1 ≤ 1) (h8 : 0 ≤ a3 ∧ a3 ≤ 400) (h9 : (a6 = 0 ∨ (1 ≤ a2 ∧ a2 ≤ 8))) (h10 : (a1 = 0 ∨ (1 ≤ a2 ∧ a2 ≤ 8))) : 0 ≤ a0 ∧ a0 ≤ 1200 := by omega
theorem ox_650 {a0 a1 a2 a3 a4 a5 a6 : Int} (h0 : -2147483648 ≤ a1 ∧ a1 < 2147483648) (h1 : -2147483648 ≤ a2 ∧ a2 < 2147483648) (h2 : -2147483648 ≤ a0 ∧ a0 < 2147483648) (h3 : -2147483648 ≤ a3 ∧ a3 < 2147483648) (h4 : -2147483648 ≤ a4 ∧ a4 < 2147483648) (h5 : -2147483648 ≤ a5 ∧ a5 < 2147483648) (h6 : -2147483648 ≤ a6 ∧ a6 < 2147483648) (h7 : ¬ (a2 = (0 : Int))) (h8 : ¬ (a4 ≤ a0)) (h9 : a4 = a3 / (3 : Int)) (h10 : a5 = (3 : Int) * a0) (h11 : a6 = a3 % (3 : Int)) (h12 : 0 ≤ a3 ∧ a3 ≤ 1200) (h13 : 0 ≤ a1 ∧ a1 ≤ 1) (h14 : 0 ≤ a2 ∧ a2 ≤ 1) (h15 : 0 ≤ a0 ∧ a0 ≤ 400) (h16 : (a1 = 0 ∨ (1 ≤ a4 ∧ a4 ≤ 8))) (h17 : (a2 = 0 ∨ (1 ≤ a4 ∧ a4 ≤ 8))) : -2147483648 ≤ a0 + 1 ∧ a0 + 1 < 2147483648 := by omega
theorem ox_651 {a0 a1 a2 : Int} (h0 : (-1) ≤ a1 ∧ a1 ≤ 255) (h1 : 0 ≤ a0 ∧ a0 ≤ 1) (h2 : (a0 = 0 ∨ (1 ≤ a1 ∧ a1 < a2))) (h3 : 0 ≤ a2 ∧ a2 ≤ 9) : 0 ≤ a0 ∧ a0 ≤ 1 := by omega
theorem ox_652 {a0 a1 a2 a3 a4 a5 a6 a7 : Int} (h0 : ¬ (a1 = (0 : Int))) (h1 : ¬ (a2 ≤ a3)) (h2 : a2 = a4 / (3 : Int)) (h3 : a5 = (3 : Int) * a3) (h4 : a0 = a3 + 1) (h5 : a6 = a4 % (3 : Int)) (h6 : 0 ≤ a4 ∧ a4 ≤ 1200) (h7 : 0 ≤ a7 ∧ a7 ≤ 1) (h8 : 0 ≤ a1 ∧ a1 ≤ 1) (h9 : 0 ≤ a3 ∧ a3 ≤ 400) (h10 : (a7 = 0 ∨ (1 ≤ a2 ∧ a2 ≤ 8))) (h11 : (a1 = 0 ∨ (1 ≤ a2 ∧ a2 ≤ 8))) : 0 ≤ a0 ∧ a0 ≤ 400 := by omega
theorem ox_653 {a0 a1 a2 a3 a4 a5 a6 a7 : Int} (h0 : ¬ (a0 = (0 : Int))) (h1 : ¬ (a1 ≤ a2)) (h2 : a1 = a3 / (3 : Int)) (h3 : a4 = (3 : Int) * a2) (h4 : a5 = a2 + 1) (h5 : a6 = a3 % (3 : Int)) (h6 : 0 ≤ a3 ∧ a3 ≤ 1200) (h7 : 0 ≤ a7 ∧ a7 ≤ 1) (h8 : 0 ≤ a0 ∧ a0 ≤ 1) (h9 : 0 ≤ a2 ∧ a2 ≤ 400) (h10 : (a7 = 0 ∨ (1 ≤ a1 ∧ a1 ≤ 8))) (h11 : (a0 = 0 ∨ (1 ≤ a1 ∧ a1 ≤ 8))) : ¬ a0 = 0 := by omega
theorem ox_654 {a0 a1 a2 a3 a4 a5 a6 a7 : Int} (h0 : ¬ (a2 = (0 : Int))) (h1 : ¬ (a3 ≤ a1)) (h2 : a3 = a4 / (3 : Int)) (h3 : a0 = (3 : Int) * a1) (h4 : a5 = a1 + 1) (h5 : a6 = a4 % (3 : Int)) (h6 : 0 ≤ a4 ∧ a4 ≤ 1200) (h7 : 0 ≤ a7 ∧ a7 ≤ 1) (h8 : 0 ≤ a2 ∧ a2 ≤ 1) (h9 : 0 ≤ a1 ∧ a1 ≤ 400) (h10 : (a7 = 0 ∨ (1 ≤ a3 ∧ a3 ≤ 8))) (h11 : (a2 = 0 ∨ (1 ≤ a3 ∧ a3 ≤ 8))) : a0 = 3 * a1 := by omega
theorem ox_655 {a0 a1 a2 a3 a4 a5 a6 a7 : Int} (h0 : ¬ (a2 = (0 : Int))) (h1 : ¬ (a3 ≤ a1)) (h2 : a3 = a4 / (3 : Int)) (h3 : a5 = (3 : Int) * a1) (h4 : a0 = a1 + 1) (h5 : a6 = a4 % (3 : Int)) (h6 : 0 ≤ a4 ∧ a4 ≤ 1200) (h7 : 0 ≤ a7 ∧ a7 ≤ 1) (h8 : 0 ≤ a2 ∧ a2 ≤ 1) (h9 : 0 ≤ a1 ∧ a1 ≤ 400) (h10 : (a7 = 0 ∨ (1 ≤ a3 ∧ a3 ≤ 8))) (h11 : (a2 = 0 ∨ (1 ≤ a3 ∧ a3 ≤ 8))) : a0 = a1 + 1 := by omega
theorem ox_656 {a0 a1 a2 : Int} (h0 : (-1) ≤ a1 ∧ a1 ≤ 255) (h1 : 0 ≤ a0 ∧ a0 ≤ 1) (h2 : (a0 = 0 ∨ (1 ≤ a1 ∧ a1 < a2))) (h3 : 0 ≤ a2 ∧ a2 ≤ 9) : a0 = 0 ∨ (1 ≤ a1 ∧ a1 < a2) := by omega
theorem ox_657 {a0 a1 a2 a3 a4 a5 a6 a7 a8 a9 a10 : Int} (h0 : ¬ (a2 = (0 : Int))) (h1 : ¬ (a1 ≤ a3)) (h2 : a1 = a4 / (3 : Int)) (h3 : a5 = (3 : Int) * a3) (h4 : a6 = a3 + 1) (h5 : a7 = a4 % (3 : Int)) (h6 : (-1) ≤ a8 ∧ a8 ≤ 255) (h7 : 0 ≤ a0 ∧ a0 ≤ 1) (h8 : (a0 = 0 ∨ (1 ≤ a8 ∧ a8 < a9))) (h9 : 0 ≤ a9 ∧ a9 ≤ 9) (h10 : 0 ≤ a4 ∧ a4 ≤ 1200) (h11 : 0 ≤ a10 ∧ a10 ≤ 1) (h12 : 0 ≤ a2 ∧ a2 ≤ 1) (h13 : 0 ≤ a3 ∧ a3 ≤ 400) (h14 : (a10 = 0 ∨ (1 ≤ a1 ∧ a1 ≤ 8))) (h15 : (a2 = 0 ∨ (1 ≤ a1 ∧ a1 ≤ 8))) : (a0 = 0 ∨ (1 ≤ a1 ∧ a1 ≤ 8)) := by omega
theorem ox_658 {a0 a1 a2 a3 a4 a5 a6 a7 : Int} (h0 : ¬ (a2 = (0 : Int))) (h1 : ¬ (a3 ≤ a1)) (h2 : a3 = a4 / (3 : Int)) (h3 : a5 = (3 : Int) * a1) (h4 : a0 = a1 + 1) (h5 : a6 = a4 % (3 : Int)) (h6 : 0 ≤ a4 ∧ a4 ≤ 1200) (h7 : 0 ≤ a7 ∧ a7 ≤ 1) (h8 : 0 ≤ a2 ∧ a2 ≤ 1) (h9 : 0 ≤ a1 ∧ a1 ≤ 400) (h10 : (a7 = 0 ∨ (1 ≤ a3 ∧ a3 ≤ 8))) (h11 : (a2 = 0 ∨ (1 ≤ a3 ∧ a3 ≤ 8))) : (401 - a0).toNat < (401 - a1).toNat := by omega
theorem ox_659 {a0 a1 a2 a3 : Int} (h0 : a1 = a2 / (3 : Int)) (h1 : a3 = a2 % (3 : Int)) (h2 : 0 ≤ a2 ∧ a2 ≤ 1200) (h3 : 0 ≤ a0 ∧ a0 ≤ 1) (h4 : (a0 = 0 ∨ (1 ≤ a1 ∧ a1 ≤ 8))) : 0 ≤ a0 ∧ a0 ≤ 1 := by omega
theorem ox_660 {a0 a1 a2 a3 : Int} (h0 : a1 = a2 / (3 : Int)) (h1 : a3 = a2 % (3 : Int)) (h2 : 0 ≤ a2 ∧ a2 ≤ 1200) (h3 : 0 ≤ a0 ∧ a0 ≤ 1) (h4 : (a0 = 0 ∨ (1 ≤ a1 ∧ a1 ≤ 8))) : (a0 = 0 ∨ (1 ≤ a1 ∧ a1 ≤ 8)) := by omega
theorem ox_661 {a0 a1 a2 : Int} (h0 : a0 = a1 / (3 : Int)) (h1 : a2 = a1 % (3 : Int)) (h2 : 0 ≤ a1 ∧ a1 ≤ 1200) : ((0 : Int) = 0 ∨ (1 ≤ a0 ∧ a0 ≤ 8)) := by omega
theorem ox_662 {a0 a1 a2 : Int} (h0 : a1 = (0 : Int)) (h1 : ¬ (a0 < (1 : Int))) (h2 : ¬ ((8 : Int) < a0)) (h3 : a0 = a2 / (3 : Int)) (h4 : a1 = a2 % (3 : Int)) (h5 : 0 ≤ a2 ∧ a2 ≤ 1200) : ((1 : Int) = 0 ∨ (1 ≤ a0 ∧ a0 ≤ 8)) := by omega
theorem ox_663 {a0 a1 : Int} (h0 : ¬ (a1 ≤ a0)) (h1 : 0 ≤ a1 ∧ a1 ≤ 8) (h2 : 0 ≤ a0 ∧ a0 ≤ 8) : (0 : Int) ≤ a0 ∧ (a0 : Int) < a1 := by omega
theorem ox_664 {a0 a1 : Int} (h0 : 1 ≤ a0 ∧ a0 < a1) (h1 : 0 ≤ a1 ∧ a1 ≤ 9) : 0 ≤ a0 ∧ a0 ≤ 8 := by omega
theorem ox_665 {a0 a1 : Int} (h0 : 1 ≤ a1 ∧ a1 < a0) (h1 : 0 ≤ a0 ∧ a0 ≤ 9) : 0 ≤ a0 ∧ a0 ≤ 9 := by omega
theorem ox_666 {a0 a1 : Int} (h0 : 1 ≤ a0 ∧ a0 < a1) (h1 : 0 ≤ a1 ∧ a1 ≤ 9) : a0 < a1 := by omega
theorem ox_667 {a0 : Int} (h0 : -2147483648 ≤ a0 ∧ a0 < 2147483648) (h1 : ¬ ((60 : Int) < a0)) (h2 : 0 ≤ a0 ∧ a0 ≤ 61) : -2147483648 ≤ a0 + 1 ∧ a0 + 1 < 2147483648 := by omega
theorem ox_668 {a0 a1 : Int} (h0 : ¬ ((60 : Int) < a1)) (h1 : a0 = a1 + 1) (h2 : 0 ≤ a1 ∧ a1 ≤ 61) : 0 ≤ a0 ∧ a0 ≤ 61 := by omega
theorem ox_669 {a0 a1 : Int} (h0 : ¬ ((60 : Int) < a1)) (h1 : a0 = a1 + 1) (h2 : 0 ≤ a1 ∧ a1 ≤ 61) : (62 - a0).toNat < (62 - a1).toNat := by omega
theorem ox_670 {a0 a1 : Int} (h0 : ¬ (a1 ≤ a0)) (h1 : 0 ≤ a1 ∧ a1 ≤ 9) (h2 : 2 ≤ a0 ∧ a0 ≤ 9) : 0 ≤ a0 ∧ a0 ≤ 8 := by omega
theorem ox_671 {a0 a1 : Int} (h0 : ¬ (a0 ≤ a1)) (h1 : 0 ≤ a0 ∧ a0 ≤ 9) (h2 : 2 ≤ a1 ∧ a1 ≤ 9) : 0 ≤ a0 ∧ a0 ≤ 9 := by omega
theorem ox_672 {a0 a1 : Int} (h0 : -2147483648 ≤ a0 ∧ a0 < 2147483648) (h1 : -2147483648 ≤ a1 ∧ a1 < 2147483648) (h2 : ¬ (a1 ≤ a0)) (h3 : 0 ≤ a1 ∧ a1 ≤ 9) (h4 : 2 ≤ a0 ∧ a0 ≤ 9) : -2147483648 ≤ a0 + 1 ∧ a0 + 1 < 2147483648 := by omega
theorem ox_673 {a0 a1 a2 : Int} (h0 : ¬ (a1 ≤ a2)) (h1 : a0 = a2 + 1) (h2 : 0 ≤ a1 ∧ a1 ≤ 9) (h3 : 2 ≤ a2 ∧ a2 ≤ 9) : 2 ≤ a0 ∧ a0 ≤ 9 := by omega
theorem ox_674 {a0 a1 a2 : Int} (h0 : ¬ (a2 ≤ a1)) (h1 : a0 = a1 + 1) (h2 : 0 ≤ a2 ∧ a2 ≤ 9) (h3 : 2 ≤ a1 ∧ a1 ≤ 9) : (10 - a0).toNat < (10 - a1).toNat := by omega
theorem ox_675 {a0 a1 : Int} (h0 : ¬ (a1 ≤ a0)) (h1 : 0 ≤ a1 ∧ a1 ≤ 9) (h2 : 2 ≤ a0 ∧ a0 ≤ 9) : 1 ≤ a0 ∧ a0 ≤ 8 := by omega
theorem ox_676 {a0 a1 : Int} (h0 : ¬ (a1 ≤ a0)) (h1 : 1 ≤ a1 ∧ a1 ≤ 256) (h2 : 1 ≤ a0 ∧ a0 ≤ 256) : ¬ ((256 : Int) ≤ a0) := by omega
theorem ox_677 {a0 a1 : Int} (h0 : -2147483648 ≤ a0 ∧ a0 < 2147483648) (h1 : -2147483648 ≤ a1 ∧ a1 < 2147483648) (h2 : ¬ (a1 ≤ a0)) (h3 : 1 ≤ a1 ∧ a1 ≤ 256) (h4 : 1 ≤ a0 ∧ a0 ≤ 256) : -2147483648 ≤ a0 + 1 ∧ a0 + 1 < 2147483648 := by omega
theorem ox_678 {a0 a1 a2 : Int} (h0 : ¬ (a1 ≤ a2)) (h1 : a0 = a2 + 1) (h2 : 1 ≤ a1 ∧ a1 ≤ 256) (h3 : 1 ≤ a2 ∧ a2 ≤ 256) : 1 ≤ a0 ∧ a0 ≤ 256 := by omega
theorem ox_679 {a0 a1 a2 : Int} (h0 : ¬ (a2 ≤ a1)) (h1 : a0 = a1 + 1) (h2 : 1 ≤ a2 ∧ a2 ≤ 256) (h3 : 1 ≤ a1 ∧ a1 ≤ 256) : (257 - a0).toNat < (257 - a1).toNat := by omega
abbrev rm_kX7_atf : Room := { frames := 0, cells := 0, slots := 0, locals := 0 }
set_option maxHeartbeats 4000000 in
set_option maxRecDepth 100000 in
theorem kX7_atf (l : Launch) (g : zL) (h0 : Nat) (x1 : Int32) (h0_bytes : Nat) (h0_length : Int32) (f_h0_bytes : Nat → Int32) (hy0 : 0 ≤ h0_length.toInt ∧ h0_length.toInt ≤ 1200) : zCi l g yX7_at cX7_at 2 (some .int) rm_kX7_atf [.ref h0, .int x1] [(h0, .inr (7, [.ref h0_bytes, .int h0_length])), (h0_bytes, .inl (g.2.1.2.1, 1200, .inl f_h0_bytes))] (fun (r : Int32) (u : Unit) => ((-1) ≤ r.toInt ∧ r.toInt ≤ 255) ∧ (pAt r h0_length f_h0_bytes x1)) (fun (u : Unit) => [(h0, .inr (7, [.ref h0_bytes, .int h0_length])), (h0_bytes, .inl (g.2.1.2.1, 1200, .inl f_h0_bytes))]) := by
  refine zCi.mk2 (by decide) (Nat.le_of_ble_eq_true rfl) ?_
  intro p e s m below meth c A args Q hE hret hP hD hS ls hl
  obtain ⟨hx, hb, hr, hml, hown, hG, hlocks, hnm, hX, hA⟩ := hE
  have hown : s.vm.findClass RX7 = some m.cls := hown
  have hl : lv_has ls 2 [(0, .ref h0), (1, .int x1)] := hl
  refine lv_iload_n hx hb dX7_at_0 rfl (lv_at hl 1 rfl) ?_
  refine lv_if_lt (tgt := 32) hx hb dX7_at_1 (by decide) (fun c1 => ?_) (fun c1 => ?_)
  · skip
    have c1i : x1.toInt < (0 : Int) := (zc_lt (rfl : x1.toInt = _) (show (0 : Int32).toInt = (0 : Int) from by decide)).mp c1
    refine lv_iconst (v := (-1)) hx hb dX7_at_32 (by decide) ?_
    exact hret (-1 : Int32) () (Nat.le_of_ble_eq_true rfl) (Nat.le_of_ble_eq_true rfl) rfl ⟨(show (-1) ≤ (-1 : Int) ∧ (-1 : Int) ≤ 255 from by decide), (by unfold pAt tAt; repeat (first | rw [if_neg (by assumption)] | rw [if_pos (by assumption)]))⟩ hP hD hS dX7_at_33
  · skip
    have c1i : ¬ (x1.toInt < (0 : Int)) := fun q => c1 ((zc_lt (rfl : x1.toInt = _) (show (0 : Int32).toInt = (0 : Int) from by decide)).mpr q)
    refine lv_iload_n hx hb dX7_at_4 rfl (lv_at hl 1 rfl) ?_
    refine lv_aload_n hx hb dX7_at_5 rfl (lv_at hl 0 rfl) ?_
    refine va_get (D := g.1) (ci := 7) (v := .int h0_length) (C := RX7) (T := TX7) (N := 2) hx hb hG iX7 hown hX.1 hP 0 rfl rfl 1 (by decide) (hG _ wf_X7_15) (fun _ h9 => h9) rfl dX7_at_6 ?_
    refine lv_icmp_ge (tgt := 32) hx hb dX7_at_9 (by decide) (fun c2 => ?_) (fun c2 => ?_)
    · skip
      have c2i : h0_length.toInt ≤ x1.toInt := (zc_le (rfl : h0_length.toInt = _) (rfl : x1.toInt = _)).mp c2
      refine lv_iconst (v := (-1)) hx hb dX7_at_32 (by decide) ?_
      exact hret (-1 : Int32) () (Nat.le_of_ble_eq_true rfl) (Nat.le_of_ble_eq_true rfl) rfl ⟨(show (-1) ≤ (-1 : Int) ∧ (-1 : Int) ≤ 255 from by decide), (by unfold pAt tAt; repeat (first | rw [if_neg (by assumption)] | rw [if_pos (by assumption)]))⟩ hP hD hS dX7_at_33
    · skip
      have c2i : ¬ (h0_length.toInt ≤ x1.toInt) := fun q => c2 ((zc_le (rfl : h0_length.toInt = _) (rfl : x1.toInt = _)).mpr q)
      refine lv_iload_n hx hb dX7_at_12 rfl (lv_at hl 1 rfl) ?_
      refine lv_sipush (v := 1200) hx hb dX7_at_13 (by decide) ?_
      refine lv_icmp_ge (tgt := 32) hx hb dX7_at_16 (by decide) (fun c3 => absurd c3 (fun q9 => absurd ((zc_le (show (1200 : Int32).toInt = (1200 : Int) from by decide) (rfl : x1.toInt = _)).mp q9) (ox_45 c1i c2i hy0))) (fun c3 => ?_)
      refine lv_aload_n hx hb dX7_at_19 rfl (lv_at hl 0 rfl) ?_
      refine va_get (D := g.1) (ci := 7) (v := .ref h0_bytes) (C := RX7) (T := TX7) (N := 2) hx hb hG iX7 hown hX.1 hP 0 rfl rfl 0 (by decide) (hG _ wf_X7_9) (fun _ h9 => h9) rfl dX7_at_20 ?_
      refine lv_iload_n hx hb dX7_at_23 rfl (lv_at hl 1 rfl) ?_
      refine va_bald hx hb hX.1 hP 1 1 rfl rfl (zin (rfl : x1.toInt = _) (ox_46 c1i c2i hy0)) dX7_at_24 ?_
      refine lv_topi (fun z4 e5 => ?_)
      refine lv_sipush (v := 255) hx hb dX7_at_25 (by decide) ?_
      refine lv_iand hx hb dX7_at_28 ?_
      refine lv_topi (fun z6 e7 => ?_)
      have f8 : 0 ≤ z6.toInt ∧ z6.toInt ≤ (255 : Int) := zand e7 (show (255 : Int32).toInt = (255 : Int) from by decide) ((show 0 ≤ (255 : Int) from by decide))
      refine lv_goto (tgt := 33) hx hb dX7_at_29 (by decide) ?_
      exact hret z6 () (Nat.le_of_ble_eq_true rfl) (Nat.le_of_ble_eq_true rfl) rfl ⟨ox_47 f8, (by unfold pAt tAt; rw [if_neg (show ¬ x1 < 0 by assumption), if_neg (show ¬ h0_length ≤ x1 by assumption), if_neg (show ¬ (1200 : Int32) ≤ x1 by assumption), e7, e5])⟩ hP hD hS dX7_at_33
abbrev rm_kX4_isBendf : Room := { frames := 0, cells := 0, slots := 0, locals := 0 }
set_option maxHeartbeats 4000000 in
set_option maxRecDepth 100000 in
theorem kX4_isBendf (l : Launch) (g : zL) (h0 : Nat) (x1 : Int32) (h0_count : Int32) (h0_statements : Int32) (h0_thick : Int32) (h0_punch : Int32) (h0_ups : Int32) (h0_toolCount : Int32) (h0_toolWidth : Nat) (h0_told : Nat) (h0_name : Nat) (h0_parent : Nat) (h0_side : Nat) (h0_from : Nat) (h0_width : Nat) (h0_height : Nat) (h0_radius : Nat) (h0_toolSet : Nat) (hy0 : 0 ≤ h0_count.toInt ∧ h0_count.toInt ≤ 9) (hy1 : 0 ≤ h0_toolCount.toInt ∧ h0_toolCount.toInt ≤ 8) : zCi l g yX4_isBend cX4_isBend 2 (some .boolean) rm_kX4_isBendf [.ref h0, .int x1] [(h0, .inr (4, [.int h0_count, .int h0_statements, .int h0_thick, .int h0_punch, .int h0_ups, .int h0_toolCount, .ref h0_toolWidth, .ref h0_told, .ref h0_name, .ref h0_parent, .ref h0_side, .ref h0_from, .ref h0_width, .ref h0_height, .ref h0_radius, .ref h0_toolSet]))] (fun (r : Int32) (u : Unit) => (0 ≤ r.toInt ∧ r.toInt ≤ 1) ∧ ((r.toInt = 0 ∨ (1 ≤ x1.toInt ∧ x1.toInt < h0_count.toInt)))) (fun (u : Unit) => [(h0, .inr (4, [.int h0_count, .int h0_statements, .int h0_thick, .int h0_punch, .int h0_ups, .int h0_toolCount, .ref h0_toolWidth, .ref h0_told, .ref h0_name, .ref h0_parent, .ref h0_side, .ref h0_from, .ref h0_width, .ref h0_height, .ref h0_radius, .ref h0_toolSet]))]) := by
  refine zCi.mk2 (by decide) (Nat.le_of_ble_eq_true rfl) ?_
  intro p e s m below meth c A args Q hE hret hP hD hS ls hl
  obtain ⟨hx, hb, hr, hml, hown, hG, hlocks, hnm, hX, hA⟩ := hE
  have hown : s.vm.findClass RX4 = some m.cls := hown
  have hl : lv_has ls 2 [(0, .ref h0), (1, .int x1)] := hl
  refine lv_iload_n hx hb dX4_isBend_0 rfl (lv_at hl 1 rfl) ?_
  refine lv_iconst (v := 1) hx hb dX4_isBend_1 (by decide) ?_
  refine lv_icmp_lt (tgt := 17) hx hb dX4_isBend_2 (by decide) (fun c1 => ?_) (fun c1 => ?_)
  · skip
    have c1i : x1.toInt < (1 : Int) := (zc_lt (rfl : x1.toInt = _) (show (1 : Int32).toInt = (1 : Int) from by decide)).mp c1
    refine lv_iconst (v := 0) hx hb dX4_isBend_17 (by decide) ?_
    exact hret (0 : Int32) () (Nat.le_of_ble_eq_true rfl) (Nat.le_of_ble_eq_true rfl) rfl ⟨(show 0 ≤ (0 : Int) ∧ (0 : Int) ≤ 1 from by decide), ox_614 c1i hy0⟩ hP hD hS dX4_isBend_18
  · skip
    have c1i : ¬ (x1.toInt < (1 : Int)) := fun q => c1 ((zc_lt (rfl : x1.toInt = _) (show (1 : Int32).toInt = (1 : Int) from by decide)).mpr q)
    refine lv_iload_n hx hb dX4_isBend_5 rfl (lv_at hl 1 rfl) ?_
    refine lv_aload_n hx hb dX4_isBend_6 rfl (lv_at hl 0 rfl) ?_
    refine va_get (D := g.1) (ci := 4) (v := .int h0_count) (C := RX4) (T := TX4) (N := 16) hx hb hG iX4 hown hX.1 hP 0 rfl rfl 0 (by decide) (hG _ wf_X4_42) (fun _ h9 => h9) rfl dX4_isBend_7 ?_
    refine lv_icmp_ge (tgt := 17) hx hb dX4_isBend_10 (by decide) (fun c2 => ?_) (fun c2 => ?_)
    · skip
      have c2i : h0_count.toInt ≤ x1.toInt := (zc_le (rfl : h0_count.toInt = _) (rfl : x1.toInt = _)).mp c2
      refine lv_iconst (v := 0) hx hb dX4_isBend_17 (by decide) ?_
      exact hret (0 : Int32) () (Nat.le_of_ble_eq_true rfl) (Nat.le_of_ble_eq_true rfl) rfl ⟨(show 0 ≤ (0 : Int) ∧ (0 : Int) ≤ 1 from by decide), ox_615 c1i c2i hy0⟩ hP hD hS dX4_isBend_18
    · skip
      have c2i : ¬ (h0_count.toInt ≤ x1.toInt) := fun q => c2 ((zc_le (rfl : h0_count.toInt = _) (rfl : x1.toInt = _)).mpr q)
      refine lv_iconst (v := 1) hx hb dX4_isBend_13 (by decide) ?_
      refine lv_goto (tgt := 18) hx hb dX4_isBend_14 (by decide) ?_
      exact hret (1 : Int32) () (Nat.le_of_ble_eq_true rfl) (Nat.le_of_ble_eq_true rfl) rfl ⟨(show 0 ≤ (1 : Int) ∧ (1 : Int) ≤ 1 from by decide), ox_616 c1i c2i hy0⟩ hP hD hS dX4_isBend_18
theorem dX1_take_0 : decode cX1_take 0 = .ok (.aload_n 1, 1) := by decide +kernel
theorem dX1_take_1 : decode cX1_take 1 = .ok (.getfield 18, 3) := by decide +kernel
theorem dX1_take_4 : decode cX1_take 4 = .ok (.iconst 3, 1) := by decide +kernel
theorem dX1_take_5 : decode cX1_take 5 = .ok (.idiv, 1) := by decide +kernel
theorem dX1_take_6 : decode cX1_take 6 = .ok (.istore_n 3, 1) := by decide +kernel
theorem dX1_take_7 : decode cX1_take 7 = .ok (.aload_n 1, 1) := by decide +kernel
theorem dX1_take_8 : decode cX1_take 8 = .ok (.getfield 18, 3) := by decide +kernel
theorem dX1_take_11 : decode cX1_take 11 = .ok (.iconst 3, 1) := by decide +kernel
theorem dX1_take_12 : decode cX1_take 12 = .ok (.irem, 1) := by decide +kernel
theorem dX1_take_32 : decode cX1_take 32 = .ok (.istore 4, 2) := by decide +kernel
theorem dX1_take_34 : decode cX1_take 34 = .ok (.iconst 0, 1) := by decide +kernel
theorem dX1_take_35 : decode cX1_take 35 = .ok (.istore 5, 2) := by decide +kernel
theorem dX1_take_37 : decode cX1_take 37 = .ok (.iload 4, 2) := by decide +kernel
theorem dX1_take_68 : decode cX1_take 68 = .ok (.iload 4, 2) := by decide +kernel
theorem dX1_take_70 : decode cX1_take 70 = .ok (.ifCond .ne 5, 3) := by decide +kernel
theorem dX1_take_75 : decode cX1_take 75 = .ok (.iconst 0, 1) := by decide +kernel
theorem dX1_take_76 : decode cX1_take 76 = .ok (.istore 5, 2) := by decide +kernel
theorem dX1_take_78 : decode cX1_take 78 = .ok (.iload 5, 2) := by decide +kernel
theorem dX1_take_80 : decode cX1_take 80 = .ok (.iload_n 3, 1) := by decide +kernel
theorem dX1_take_81 : decode cX1_take 81 = .ok (.if_icmp .ge 56, 3) := by decide +kernel
theorem dX1_take_137 : decode cX1_take 137 = .ok (.aload_n 0, 1) := by decide +kernel
theorem dX1_take_138 : decode cX1_take 138 = .ok (.iload_n 3, 1) := by decide +kernel
theorem dX1_take_139 : decode cX1_take 139 = .ok (.putfield 34, 3) := by decide +kernel
theorem dX1_take_142 : decode cX1_take 142 = .ok (.iconst 1, 1) := by decide +kernel
theorem dX1_take_143 : decode cX1_take 143 = .ok (.ireturn, 1) := by decide +kernel
theorem dX1_take_84 : decode cX1_take 84 = .ok (.aload_n 0, 1) := by decide +kernel
theorem dX1_take_85 : decode cX1_take 85 = .ok (.getfield 11, 3) := by decide +kernel
theorem dX1_take_88 : decode cX1_take 88 = .ok (.iload 5, 2) := by decide +kernel
theorem dX1_take_90 : decode cX1_take 90 = .ok (.aload_n 1, 1) := by decide +kernel
theorem dX1_take_91 : decode cX1_take 91 = .ok (.iconst 3, 1) := by decide +kernel
theorem dX1_take_92 : decode cX1_take 92 = .ok (.iload 5, 2) := by decide +kernel
theorem dX1_take_94 : decode cX1_take 94 = .ok (.imul, 1) := by decide +kernel
theorem dX1_take_95 : decode cX1_take 95 = .ok (.invokevirtual 24, 3) := by decide +kernel
theorem dX1_take_98 : decode cX1_take 98 = .ok (.iastore, 1) := by decide +kernel
theorem dX1_take_99 : decode cX1_take 99 = .ok (.aload_n 0, 1) := by decide +kernel
theorem dX1_take_100 : decode cX1_take 100 = .ok (.getfield 15, 3) := by decide +kernel
theorem dX1_take_103 : decode cX1_take 103 = .ok (.iload 5, 2) := by decide +kernel
theorem dX1_take_105 : decode cX1_take 105 = .ok (.sipush 256, 3) := by decide +kernel
theorem dX1_take_108 : decode cX1_take 108 = .ok (.aload_n 1, 1) := by decide +kernel
theorem dX1_take_109 : decode cX1_take 109 = .ok (.iconst 3, 1) := by decide +kernel
theorem dX1_take_110 : decode cX1_take 110 = .ok (.iload 5, 2) := by decide +kernel
theorem dX1_take_112 : decode cX1_take 112 = .ok (.imul, 1) := by decide +kernel
theorem dX1_take_113 : decode cX1_take 113 = .ok (.iconst 1, 1) := by decide +kernel
theorem dX1_take_114 : decode cX1_take 114 = .ok (.iadd, 1) := by decide +kernel
theorem dX1_take_115 : decode cX1_take 115 = .ok (.invokevirtual 24, 3) := by decide +kernel
theorem dX1_take_118 : decode cX1_take 118 = .ok (.imul, 1) := by decide +kernel
theorem dX1_take_119 : decode cX1_take 119 = .ok (.aload_n 1, 1) := by decide +kernel
theorem dX1_take_120 : decode cX1_take 120 = .ok (.iconst 3, 1) := by decide +kernel
theorem dX1_take_121 : decode cX1_take 121 = .ok (.iload 5, 2) := by decide +kernel
theorem dX1_take_123 : decode cX1_take 123 = .ok (.imul, 1) := by decide +kernel
theorem dX1_take_124 : decode cX1_take 124 = .ok (.iconst 2, 1) := by decide +kernel
theorem dX1_take_125 : decode cX1_take 125 = .ok (.iadd, 1) := by decide +kernel
theorem dX1_take_126 : decode cX1_take 126 = .ok (.invokevirtual 24, 3) := by decide +kernel
theorem dX1_take_129 : decode cX1_take 129 = .ok (.iadd, 1) := by decide +kernel
theorem dX1_take_130 : decode cX1_take 130 = .ok (.iastore, 1) := by decide +kernel
theorem dX1_take_131 : decode cX1_take 131 = .ok (.iinc 5 1, 3) := by decide +kernel
theorem dX1_take_134 : decode cX1_take 134 = .ok (.goto (-56), 3) := by decide +kernel
theorem dX1_take_73 : decode cX1_take 73 = .ok (.iconst 0, 1) := by decide +kernel
theorem dX1_take_74 : decode cX1_take 74 = .ok (.ireturn, 1) := by decide +kernel
theorem dX1_take_39 : decode cX1_take 39 = .ok (.ifCond .eq 29, 3) := by decide +kernel
theorem dX1_take_42 : decode cX1_take 42 = .ok (.iload 5, 2) := by decide +kernel
theorem dX1_take_44 : decode cX1_take 44 = .ok (.iload_n 3, 1) := by decide +kernel
theorem dX1_take_45 : decode cX1_take 45 = .ok (.if_icmp .ge 23, 3) := by decide +kernel
theorem dX1_take_48 : decode cX1_take 48 = .ok (.aload_n 2, 1) := by decide +kernel
theorem dX1_take_49 : decode cX1_take 49 = .ok (.aload_n 1, 1) := by decide +kernel
theorem dX1_take_50 : decode cX1_take 50 = .ok (.iconst 3, 1) := by decide +kernel
theorem dX1_take_51 : decode cX1_take 51 = .ok (.iload 5, 2) := by decide +kernel
theorem dX1_take_53 : decode cX1_take 53 = .ok (.imul, 1) := by decide +kernel
theorem dX1_take_54 : decode cX1_take 54 = .ok (.invokevirtual 24, 3) := by decide +kernel
theorem dX1_take_57 : decode cX1_take 57 = .ok (.invokevirtual 28, 3) := by decide +kernel
theorem dX1_take_60 : decode cX1_take 60 = .ok (.istore 4, 2) := by decide +kernel
theorem dX1_take_62 : decode cX1_take 62 = .ok (.iinc 5 1, 3) := by decide +kernel
theorem dX1_take_65 : decode cX1_take 65 = .ok (.goto (-28), 3) := by decide +kernel
theorem dX1_take_31 : decode cX1_take 31 = .ok (.iconst 0, 1) := by decide +kernel
theorem dX1_take_13 : decode cX1_take 13 = .ok (.ifCond .ne 18, 3) := by decide +kernel
theorem dX1_take_16 : decode cX1_take 16 = .ok (.iload_n 3, 1) := by decide +kernel
theorem dX1_take_17 : decode cX1_take 17 = .ok (.iconst 1, 1) := by decide +kernel
theorem dX1_take_18 : decode cX1_take 18 = .ok (.if_icmp .lt 13, 3) := by decide +kernel
theorem dX1_take_21 : decode cX1_take 21 = .ok (.iload_n 3, 1) := by decide +kernel
theorem dX1_take_22 : decode cX1_take 22 = .ok (.bipush 8, 2) := by decide +kernel
theorem dX1_take_24 : decode cX1_take 24 = .ok (.if_icmp .gt 7, 3) := by decide +kernel
theorem dX1_take_27 : decode cX1_take 27 = .ok (.iconst 1, 1) := by decide +kernel
theorem dX1_take_28 : decode cX1_take 28 = .ok (.goto 4, 3) := by decide +kernel
abbrev rm_kX1_take : Room := { frames := 1, cells := 0, slots := 0, locals := 21 }
set_option maxHeartbeats 4000000 in
set_option maxRecDepth 100000 in
theorem kX1_take (l : Launch) (g : zL) (h0 : Nat) (y1 : Nat) (y2 : Nat) (h0_flanges : Nat) (h0_lengths : Nat) (h0_rows : Int32) (f_h0_flanges : Nat → Int32) (y2_count : Int32) (y2_statements : Int32) (y2_thick : Int32) (y2_punch : Int32) (y2_ups : Int32) (y2_toolCount : Int32) (y2_toolWidth : Nat) (y2_told : Nat) (y2_name : Nat) (y2_parent : Nat) (y2_side : Nat) (y2_from : Nat) (y2_width : Nat) (y2_height : Nat) (y2_radius : Nat) (y2_toolSet : Nat) (y1_bytes : Nat) (y1_length : Int32) (f_y1_bytes : Nat → Int32) (f_h0_lengths : Nat → Int32) (hy0 : 0 ≤ h0_rows.toInt ∧ h0_rows.toInt ≤ 8) (hy1 : True) (hy2 : 0 ≤ y2_count.toInt ∧ y2_count.toInt ≤ 9) (hy3 : 0 ≤ y2_toolCount.toInt ∧ y2_toolCount.toInt ≤ 8) (hy4 : 0 ≤ y1_length.toInt ∧ y1_length.toInt ≤ 1200) (hy5 : pSn h0_rows y2_count f_h0_flanges) : zCi l g yX1_take cX1_take 6 (some .boolean) rm_kX1_take [.ref h0, .ref y1, .ref y2] [(h0, .inr (1, [.ref h0_flanges, .ref h0_lengths, .int h0_rows])), (h0_flanges, .inl (g.2.1.1, 8, .inl f_h0_flanges)), (y2, .inr (4, [.int y2_count, .int y2_statements, .int y2_thick, .int y2_punch, .int y2_ups, .int y2_toolCount, .ref y2_toolWidth, .ref y2_told, .ref y2_name, .ref y2_parent, .ref y2_side, .ref y2_from, .ref y2_width, .ref y2_height, .ref y2_radius, .ref y2_toolSet])), (y1, .inr (7, [.ref y1_bytes, .int y1_length])), (y1_bytes, .inl (g.2.1.2.1, 1200, .inl f_y1_bytes)), (h0_lengths, .inl (g.2.1.1, 8, .inl f_h0_lengths))] (fun (r : Int32) (u : Int32 × (Nat → Int32) × (Nat → Int32)) => (0 ≤ u.1.toInt ∧ u.1.toInt ≤ 8) ∧ (True) ∧ (0 ≤ r.toInt ∧ r.toInt ≤ 1) ∧ (pSn u.1 y2_count u.2.1)) (fun (u : Int32 × (Nat → Int32) × (Nat → Int32)) => [(h0, .inr (1, [.ref h0_flanges, .ref h0_lengths, .int u.1])), (h0_flanges, .inl (g.2.1.1, 8, .inl u.2.1)), (y2, .inr (4, [.int y2_count, .int y2_statements, .int y2_thick, .int y2_punch, .int y2_ups, .int y2_toolCount, .ref y2_toolWidth, .ref y2_told, .ref y2_name, .ref y2_parent, .ref y2_side, .ref y2_from, .ref y2_width, .ref y2_height, .ref y2_radius, .ref y2_toolSet])), (y1, .inr (7, [.ref y1_bytes, .int y1_length])), (y1_bytes, .inl (g.2.1.2.1, 1200, .inl f_y1_bytes)), (h0_lengths, .inl (g.2.1.1, 8, .inl u.2.2))]) := by
  refine zCi.mk2 (by decide) (Nat.le_of_ble_eq_true rfl) ?_
  intro p e s m below meth c A args Q hE hret hP hD hS ls hl
  obtain ⟨hx, hb, hr, hml, hown, hG, hlocks, hnm, hX, hA⟩ := hE
  have hown : s.vm.findClass RX1 = some m.cls := hown
  have hl : lv_has ls 6 [(0, .ref h0), (1, .ref y1), (2, .ref y2)] := hl
  refine lv_aload_n hx hb dX1_take_0 rfl (lv_at hl 1 rfl) ?_
  refine va_getN (D := g.1) (ci := 7) (v := .int y1_length) (C := RX7) (T := TX7) (N := 2) hx hb hG iX7 hown hX.1 hP 3 rfl rfl 1 (by decide) (hX.2.1.fl wfn_X1_18) (fun _ h9 => h9) rfl dX1_take_1 ?_
  refine lv_iconst (v := 3) hx hb dX1_take_4 (by decide) ?_
  refine lv_idiv hx hb dX1_take_5 (zne0 (show (3 : Int32).toInt = (3 : Int) from by decide) ((show ¬ (3 : Int) = 0 from by decide))) ?_
  refine lv_topi (fun z1 e2 => ?_)
  have f3 : z1.toInt = y1_length.toInt / (3 : Int) := zdv e2 (rfl : y1_length.toInt = _) (show (3 : Int32).toInt = (3 : Int) from by decide) (ox_617 hy4)
  refine lv_istore_n (lv' := [(3, .int z1), (0, .ref h0), (1, .ref y1), (2, .ref y2)]) hx hb dX1_take_6 rfl hl (by decide) rfl (fun ls hl => ?_)
  refine lv_aload_n hx hb dX1_take_7 rfl (lv_at hl 2 rfl) ?_
  refine va_getN (D := g.1) (ci := 7) (v := .int y1_length) (C := RX7) (T := TX7) (N := 2) hx hb hG iX7 hown hX.1 hP 3 rfl rfl 1 (by decide) (hX.2.1.fl wfn_X1_18) (fun _ h9 => h9) rfl dX1_take_8 ?_
  refine lv_iconst (v := 3) hx hb dX1_take_11 (by decide) ?_
  refine lv_irem hx hb dX1_take_12 (zne0 (show (3 : Int32).toInt = (3 : Int) from by decide) ((show ¬ (3 : Int) = 0 from by decide))) ?_
  refine lv_topi (fun z4 e5 => ?_)
  have f6 : z4.toInt = y1_length.toInt % (3 : Int) := zrm e5 (rfl : y1_length.toInt = _) (show (3 : Int32).toInt = (3 : Int) from by decide) (ox_618 f3 hy4)
  have J11 : ∀  (v10 : Int32) (H : Heap) (locs : List Loc) (ls : Array Slot), 0 ≤ v10.toInt ∧ v10.toInt ≤ 1 → (v10.toInt = 0 ∨ (1 ≤ z1.toInt ∧ z1.toInt ≤ 8)) → va_P g.1 vwCl [(h0, .inr (1, [.ref h0_flanges, .ref h0_lengths, .int h0_rows])), (h0_flanges, .inl (g.2.1.1, 8, .inl f_h0_flanges)), (y2, .inr (4, [.int y2_count, .int y2_statements, .int y2_thick, .int y2_punch, .int y2_ups, .int y2_toolCount, .ref y2_toolWidth, .ref y2_told, .ref y2_name, .ref y2_parent, .ref y2_side, .ref y2_from, .ref y2_width, .ref y2_height, .ref y2_radius, .ref y2_toolSet])), (y1, .inr (7, [.ref y1_bytes, .int y1_length])), (y1_bytes, .inl (g.2.1.2.1, 1200, .inl f_y1_bytes)), (h0_lengths, .inl (g.2.1.1, 8, .inl f_h0_lengths))] H → va_D A [(h0, .inr (1, [.ref h0_flanges, .ref h0_lengths, .int h0_rows])), (h0_flanges, .inl (g.2.1.1, 8, .inl f_h0_flanges)), (y2, .inr (4, [.int y2_count, .int y2_statements, .int y2_thick, .int y2_punch, .int y2_ups, .int y2_toolCount, .ref y2_toolWidth, .ref y2_told, .ref y2_name, .ref y2_parent, .ref y2_side, .ref y2_from, .ref y2_width, .ref y2_height, .ref y2_radius, .ref y2_toolSet])), (y1, .inr (7, [.ref y1_bytes, .int y1_length])), (y1_bytes, .inl (g.2.1.2.1, 1200, .inl f_y1_bytes)), (h0_lengths, .inl (g.2.1.1, 8, .inl f_h0_lengths))] → va_S A s.heap H locs → lv_has ls 6 [(0, .ref h0), (1, .ref y1), (2, .ref y2), (3, .int z1)] → W p l e rm_kX1_take s m args below meth c H locs 0 0 Q (F0 m 32 ls [.int v10]) := by
    intro v10 H locs ls i12 v13 hP hD hS hl
    refine lv_istore (lv' := [(4, .int v10), (0, .ref h0), (1, .ref y1), (2, .ref y2), (3, .int z1)]) hx hb dX1_take_32 hl (by decide) rfl (fun ls hl => ?_)
    refine lv_iconst (v := 0) hx hb dX1_take_34 (by decide) ?_
    refine lv_istore (lv' := [(5, .int 0), (4, .int v10), (0, .ref h0), (1, .ref y1), (2, .ref y2), (3, .int z1)]) hx hb dX1_take_35 hl (by decide) rfl (fun ls hl => ?_)
    have L3150 : ∀ (n : Nat) (v2756 : Int32) (v2757 : Int32) (H : Heap) (locs : List Loc) (ls : Array Slot), 0 ≤ v2756.toInt ∧ v2756.toInt ≤ 1 → 0 ≤ v2757.toInt ∧ v2757.toInt ≤ 400 → pL1 v2756 v2757 y2_count y1_length f_y1_bytes → (v2756.toInt = 0 ∨ (1 ≤ z1.toInt ∧ z1.toInt ≤ 8)) → (401 - v2757.toInt).toNat < n → va_P g.1 vwCl [(h0, .inr (1, [.ref h0_flanges, .ref h0_lengths, .int h0_rows])), (h0_flanges, .inl (g.2.1.1, 8, .inl f_h0_flanges)), (y2, .inr (4, [.int y2_count, .int y2_statements, .int y2_thick, .int y2_punch, .int y2_ups, .int y2_toolCount, .ref y2_toolWidth, .ref y2_told, .ref y2_name, .ref y2_parent, .ref y2_side, .ref y2_from, .ref y2_width, .ref y2_height, .ref y2_radius, .ref y2_toolSet])), (y1, .inr (7, [.ref y1_bytes, .int y1_length])), (y1_bytes, .inl (g.2.1.2.1, 1200, .inl f_y1_bytes)), (h0_lengths, .inl (g.2.1.1, 8, .inl f_h0_lengths))] H → va_D A [(h0, .inr (1, [.ref h0_flanges, .ref h0_lengths, .int h0_rows])), (h0_flanges, .inl (g.2.1.1, 8, .inl f_h0_flanges)), (y2, .inr (4, [.int y2_count, .int y2_statements, .int y2_thick, .int y2_punch, .int y2_ups, .int y2_toolCount, .ref y2_toolWidth, .ref y2_told, .ref y2_name, .ref y2_parent, .ref y2_side, .ref y2_from, .ref y2_width, .ref y2_height, .ref y2_radius, .ref y2_toolSet])), (y1, .inr (7, [.ref y1_bytes, .int y1_length])), (y1_bytes, .inl (g.2.1.2.1, 1200, .inl f_y1_bytes)), (h0_lengths, .inl (g.2.1.1, 8, .inl f_h0_lengths))] → va_S A s.heap H locs → lv_has ls 6 [(0, .ref h0), (1, .ref y1), (2, .ref y2), (3, .int z1), (4, .int v2756), (5, .int v2757)] → W p l e rm_kX1_take s m args below meth c H locs 0 0 Q (F0 m 37 ls []) := by
      intro n3151
      induction n3151 with
      | zero => intro v2756 v2757 H locs ls i3153 i3154 hc3155 v3156 hm3157; exact absurd hm3157 (Nat.not_lt_zero _)
      | succ n3151 ih3152 =>
        intro v2756 v2757 H locs ls i3153 i3154 hc3155 v3156 hm3157 hP hD hS hl
        refine lv_iload hx hb dX1_take_37 (lv_at hl 4 rfl) ?_
        have J3172 : ∀  (H : Heap) (locs : List Loc) (ls : Array Slot), (v2756.toInt = 0 ∨ z1.toInt ≤ v2757.toInt) → (v2756.toInt = 0 ∨ (1 ≤ z1.toInt ∧ z1.toInt ≤ 8)) → va_P g.1 vwCl [(h0, .inr (1, [.ref h0_flanges, .ref h0_lengths, .int h0_rows])), (h0_flanges, .inl (g.2.1.1, 8, .inl f_h0_flanges)), (y2, .inr (4, [.int y2_count, .int y2_statements, .int y2_thick, .int y2_punch, .int y2_ups, .int y2_toolCount, .ref y2_toolWidth, .ref y2_told, .ref y2_name, .ref y2_parent, .ref y2_side, .ref y2_from, .ref y2_width, .ref y2_height, .ref y2_radius, .ref y2_toolSet])), (y1, .inr (7, [.ref y1_bytes, .int y1_length])), (y1_bytes, .inl (g.2.1.2.1, 1200, .inl f_y1_bytes)), (h0_lengths, .inl (g.2.1.1, 8, .inl f_h0_lengths))] H → va_D A [(h0, .inr (1, [.ref h0_flanges, .ref h0_lengths, .int h0_rows])), (h0_flanges, .inl (g.2.1.1, 8, .inl f_h0_flanges)), (y2, .inr (4, [.int y2_count, .int y2_statements, .int y2_thick, .int y2_punch, .int y2_ups, .int y2_toolCount, .ref y2_toolWidth, .ref y2_told, .ref y2_name, .ref y2_parent, .ref y2_side, .ref y2_from, .ref y2_width, .ref y2_height, .ref y2_radius, .ref y2_toolSet])), (y1, .inr (7, [.ref y1_bytes, .int y1_length])), (y1_bytes, .inl (g.2.1.2.1, 1200, .inl f_y1_bytes)), (h0_lengths, .inl (g.2.1.1, 8, .inl f_h0_lengths))] → va_S A s.heap H locs → lv_has ls 6 [(0, .ref h0), (1, .ref y1), (2, .ref y2), (3, .int z1), (4, .int v2756), (5, .int v2757)] → W p l e rm_kX1_take s m args below meth c H locs 0 0 Q (F0 m 68 ls []) := by
          intro  H locs ls v3173 v3174 hP hD hS hl
          refine lv_iload hx hb dX1_take_68 (lv_at hl 4 rfl) ?_
          refine lv_if_ne (tgt := 75) hx hb dX1_take_70 (by decide) (fun c3175 => ?_) (fun c3175 => ?_)
          · skip
            have c3175i : ¬ (v2756.toInt = (0 : Int)) := fun q => c3175 ((zc_eq (rfl : v2756.toInt = _) (show (0 : Int32).toInt = (0 : Int) from by decide)).mpr q)
            refine lv_iconst (v := 0) hx hb dX1_take_75 (by decide) ?_
            refine lv_istore (lv' := [(5, .int 0), (0, .ref h0), (1, .ref y1), (2, .ref y2), (3, .int z1), (4, .int v2756)]) hx hb dX1_take_76 hl (by decide) rfl (fun ls hl => ?_)
            have L3497 : ∀ (n : Nat) (v3454 : Int32) (fn3455 : Nat → Int32) (fn3456 : Nat → Int32) (H : Heap) (locs : List Loc) (ls : Array Slot), 0 ≤ v3454.toInt ∧ v3454.toInt ≤ 400 → True → pSn v3454 y2_count fn3455 → (v2756.toInt = 0 ∨ (1 ≤ z1.toInt ∧ z1.toInt ≤ 8)) → (401 - v3454.toInt).toNat < n → va_P g.1 vwCl [(h0, .inr (1, [.ref h0_flanges, .ref h0_lengths, .int h0_rows])), (h0_flanges, .inl (g.2.1.1, 8, .inl fn3455)), (y2, .inr (4, [.int y2_count, .int y2_statements, .int y2_thick, .int y2_punch, .int y2_ups, .int y2_toolCount, .ref y2_toolWidth, .ref y2_told, .ref y2_name, .ref y2_parent, .ref y2_side, .ref y2_from, .ref y2_width, .ref y2_height, .ref y2_radius, .ref y2_toolSet])), (y1, .inr (7, [.ref y1_bytes, .int y1_length])), (y1_bytes, .inl (g.2.1.2.1, 1200, .inl f_y1_bytes)), (h0_lengths, .inl (g.2.1.1, 8, .inl fn3456))] H → va_D A [(h0, .inr (1, [.ref h0_flanges, .ref h0_lengths, .int h0_rows])), (h0_flanges, .inl (g.2.1.1, 8, .inl fn3455)), (y2, .inr (4, [.int y2_count, .int y2_statements, .int y2_thick, .int y2_punch, .int y2_ups, .int y2_toolCount, .ref y2_toolWidth, .ref y2_told, .ref y2_name, .ref y2_parent, .ref y2_side, .ref y2_from, .ref y2_width, .ref y2_height, .ref y2_radius, .ref y2_toolSet])), (y1, .inr (7, [.ref y1_bytes, .int y1_length])), (y1_bytes, .inl (g.2.1.2.1, 1200, .inl f_y1_bytes)), (h0_lengths, .inl (g.2.1.1, 8, .inl fn3456))] → va_S A s.heap H locs → lv_has ls 6 [(0, .ref h0), (1, .ref y1), (2, .ref y2), (3, .int z1), (4, .int v2756), (5, .int v3454)] → W p l e rm_kX1_take s m args below meth c H locs 0 0 Q (F0 m 78 ls []) := by
              intro n3498
              induction n3498 with
              | zero => intro v3454 fn3455 fn3456 H locs ls i3500 hf3501 hc3502 v3503 hm3504; exact absurd hm3504 (Nat.not_lt_zero _)
              | succ n3498 ih3499 =>
                intro v3454 fn3455 fn3456 H locs ls i3500 hf3501 hc3502 v3503 hm3504 hP hD hS hl
                refine lv_iload hx hb dX1_take_78 (lv_at hl 5 rfl) ?_
                refine lv_iload_n hx hb dX1_take_80 rfl (lv_at hl 3 rfl) ?_
                refine lv_icmp_ge (tgt := 137) hx hb dX1_take_81 (by decide) (fun c3505 => ?_) (fun c3505 => ?_)
                · skip
                  have c3505i : z1.toInt ≤ v3454.toInt := (zc_le (rfl : z1.toInt = _) (rfl : v3454.toInt = _)).mp c3505
                  refine lv_aload_n hx hb dX1_take_137 rfl (lv_at hl 0 rfl) ?_
                  refine lv_iload_n hx hb dX1_take_138 rfl (lv_at hl 3 rfl) ?_
                  refine va_put (D := g.1) (ci := 1) (v := .int z1) (ty := .int) (C := RX1) (T := TX1) (N := 3) hx hb hG iX1 tyX1 tyX1_ok nmX1 hown hX.1 hP hD hS 0 rfl rfl 2 (by decide) (hG _ wf_X1_34) (fun _ h9 => h9) rfl (by decide +kernel) rfl rfl (Nat.le_of_ble_eq_true rfl) dX1_take_139 (fun H locs hP hD hS => ?_)
                  have hP : va_P g.1 vwCl [(h0, .inr (1, [.ref h0_flanges, .ref h0_lengths, .int z1])), (h0_flanges, .inl (g.2.1.1, 8, .inl fn3455)), (y2, .inr (4, [.int y2_count, .int y2_statements, .int y2_thick, .int y2_punch, .int y2_ups, .int y2_toolCount, .ref y2_toolWidth, .ref y2_told, .ref y2_name, .ref y2_parent, .ref y2_side, .ref y2_from, .ref y2_width, .ref y2_height, .ref y2_radius, .ref y2_toolSet])), (y1, .inr (7, [.ref y1_bytes, .int y1_length])), (y1_bytes, .inl (g.2.1.2.1, 1200, .inl f_y1_bytes)), (h0_lengths, .inl (g.2.1.1, 8, .inl fn3456))] H := hP
                  have hD : va_D A [(h0, .inr (1, [.ref h0_flanges, .ref h0_lengths, .int z1])), (h0_flanges, .inl (g.2.1.1, 8, .inl fn3455)), (y2, .inr (4, [.int y2_count, .int y2_statements, .int y2_thick, .int y2_punch, .int y2_ups, .int y2_toolCount, .ref y2_toolWidth, .ref y2_told, .ref y2_name, .ref y2_parent, .ref y2_side, .ref y2_from, .ref y2_width, .ref y2_height, .ref y2_radius, .ref y2_toolSet])), (y1, .inr (7, [.ref y1_bytes, .int y1_length])), (y1_bytes, .inl (g.2.1.2.1, 1200, .inl f_y1_bytes)), (h0_lengths, .inl (g.2.1.1, 8, .inl fn3456))] := hD
                  refine lv_iconst (v := 1) hx hb dX1_take_142 (by decide) ?_
                  exact hret (1 : Int32) (z1, fn3455, fn3456) (Nat.le_of_ble_eq_true rfl) (Nat.le_of_ble_eq_true rfl) rfl ⟨ox_619 c3175i c3505i f3 f6 hy4 i12 i3153 i3154 i3500 v13 v3156 v3173 v3174 v3503, trivial, (show 0 ≤ (1 : Int) ∧ (1 : Int) ≤ 1 from by decide), (pSn.weak hc3502 (rfl : v3454.toInt = _) (rfl : z1.toInt = _) (ox_620 c3175i c3505i f3 f6 hy4 i12 i3153 i3154 i3500 v13 v3156 v3173 v3174 v3503))⟩ hP hD hS dX1_take_143
                · skip
                  have c3505i : ¬ (z1.toInt ≤ v3454.toInt) := fun q => c3505 ((zc_le (rfl : z1.toInt = _) (rfl : v3454.toInt = _)).mpr q)
                  refine lv_aload_n hx hb dX1_take_84 rfl (lv_at hl 0 rfl) ?_
                  refine va_get (D := g.1) (ci := 1) (v := .ref h0_flanges) (C := RX1) (T := TX1) (N := 3) hx hb hG iX1 hown hX.1 hP 0 rfl rfl 0 (by decide) (hG _ wf_X1_11) (fun _ h9 => h9) rfl dX1_take_85 ?_
                  refine lv_iload hx hb dX1_take_88 (lv_at hl 5 rfl) ?_
                  refine lv_aload_n hx hb dX1_take_90 rfl (lv_at hl 1 rfl) ?_
                  refine lv_iconst (v := 3) hx hb dX1_take_91 (by decide) ?_
                  refine lv_iload hx hb dX1_take_92 (lv_at hl 5 rfl) ?_
                  refine lv_imul hx hb dX1_take_94 ?_
                  refine lv_topi (fun z3506 e3507 => ?_)
                  have f3508 : z3506.toInt = (3 : Int) * v3454.toInt := zm e3507 (show (3 : Int32).toInt = (3 : Int) from by decide) (rfl : v3454.toInt = _) (ox_621 (zr v10) (zr v2756) (zr v2757) (zr v3454) (zr y1_length) (zr z1) (zr z4) c3175i c3505i f3 f6 hy4 i12 i3153 i3154 i3500 v13 v3156 v3173 v3174 v3503)
                  refine zfi (wr := [(h0, .inr (1, [.ref h0_flanges, .ref h0_lengths, .int h0_rows])), (h0_flanges, .inl (g.2.1.1, 8, .inl fn3455)), (y2, .inr (4, [.int y2_count, .int y2_statements, .int y2_thick, .int y2_punch, .int y2_ups, .int y2_toolCount, .ref y2_toolWidth, .ref y2_told, .ref y2_name, .ref y2_parent, .ref y2_side, .ref y2_from, .ref y2_width, .ref y2_height, .ref y2_radius, .ref y2_toolSet])), (h0_lengths, .inl (g.2.1.1, 8, .inl fn3456))]) (va_runVN (As := [.int z3506]) (rest := [.int v3454, .ref h0_flanges]) ⟨hx, hb, hml, hown, hG⟩ (kX7_atf l g y1 z3506 y1_bytes y1_length f_y1_bytes (ox_622 c3175i c3505i f3 f3508 f6 hy4 i12 i3153 i3154 i3500 v13 v3156 v3173 v3174 v3503) _) ⟨va_cnB 1 hG (zGood wc_X7_at) rfl rfl rfl (hX.2.1.ml wmn_X1_24) (hG _ wini_X7) hX7_at ⟨Nat.le_of_ble_eq_true rfl, Nat.le_of_ble_eq_true rfl⟩, hG _ wi_X7_at, hG _ wse_X7_X7_at⟩ (zpreV (va_recv hX.1 hP (ci := 7) (q0 := 3) rfl rfl) hX hP hD hS hA [3, 4] rfl (by decide)) rfl rfl hl.1 rfl (lv_room (Nat.le_of_ble_eq_true rfl)) dX1_take_95 ⟨Nat.le_of_ble_eq_true rfl, Nat.le_of_ble_eq_true rfl⟩) hP hD hS hA [3, 4] [0, 1, 2, 5] rfl rfl (by decide) (by decide) (fun r3509 _ H locs hp hP hD hS => ?_)
                  refine W.cs (cells' := 0) (slots' := 0) rfl rfl ?_
                  obtain ⟨hq3510, hq3511⟩ : ((-1) ≤ r3509.toInt ∧ r3509.toInt ≤ 255) ∧ (pAt r3509 y1_length f_y1_bytes z3506) := hp
                  have hP : va_P g.1 vwCl [(h0, .inr (1, [.ref h0_flanges, .ref h0_lengths, .int h0_rows])), (h0_flanges, .inl (g.2.1.1, 8, .inl fn3455)), (y2, .inr (4, [.int y2_count, .int y2_statements, .int y2_thick, .int y2_punch, .int y2_ups, .int y2_toolCount, .ref y2_toolWidth, .ref y2_told, .ref y2_name, .ref y2_parent, .ref y2_side, .ref y2_from, .ref y2_width, .ref y2_height, .ref y2_radius, .ref y2_toolSet])), (h0_lengths, .inl (g.2.1.1, 8, .inl fn3456)), (y1, .inr (7, [.ref y1_bytes, .int y1_length])), (y1_bytes, .inl (g.2.1.2.1, 1200, .inl f_y1_bytes))] H := hP
                  have hD : va_D A [(h0, .inr (1, [.ref h0_flanges, .ref h0_lengths, .int h0_rows])), (h0_flanges, .inl (g.2.1.1, 8, .inl fn3455)), (y2, .inr (4, [.int y2_count, .int y2_statements, .int y2_thick, .int y2_punch, .int y2_ups, .int y2_toolCount, .ref y2_toolWidth, .ref y2_told, .ref y2_name, .ref y2_parent, .ref y2_side, .ref y2_from, .ref y2_width, .ref y2_height, .ref y2_radius, .ref y2_toolSet])), (h0_lengths, .inl (g.2.1.1, 8, .inl fn3456)), (y1, .inr (7, [.ref y1_bytes, .int y1_length])), (y1_bytes, .inl (g.2.1.2.1, 1200, .inl f_y1_bytes))] := hD
                  refine va_iast hx hb hX.1 hP hD hS 1 0 rfl rfl (zin (rfl : v3454.toInt = _) (ox_623 c3175i c3505i f3 f3508 f6 hy4 i12 i3153 i3154 i3500 v13 v3156 v3173 v3174 v3503)) dX1_take_98 (fun H locs hP hD hS => ?_)
                  obtain ⟨f3512, e3513⟩ : ∃ z9 : Nat → Int32, z9 = upd fn3455 v3454.toNatClampNeg r3509 := ⟨_, rfl⟩
                  rw [← e3513] at hP hD
                  have hP : va_P g.1 vwCl [(h0, .inr (1, [.ref h0_flanges, .ref h0_lengths, .int h0_rows])), (h0_flanges, .inl (g.2.1.1, 8, .inl f3512)), (y2, .inr (4, [.int y2_count, .int y2_statements, .int y2_thick, .int y2_punch, .int y2_ups, .int y2_toolCount, .ref y2_toolWidth, .ref y2_told, .ref y2_name, .ref y2_parent, .ref y2_side, .ref y2_from, .ref y2_width, .ref y2_height, .ref y2_radius, .ref y2_toolSet])), (h0_lengths, .inl (g.2.1.1, 8, .inl fn3456)), (y1, .inr (7, [.ref y1_bytes, .int y1_length])), (y1_bytes, .inl (g.2.1.2.1, 1200, .inl f_y1_bytes))] H := hP
                  have hD : va_D A [(h0, .inr (1, [.ref h0_flanges, .ref h0_lengths, .int h0_rows])), (h0_flanges, .inl (g.2.1.1, 8, .inl f3512)), (y2, .inr (4, [.int y2_count, .int y2_statements, .int y2_thick, .int y2_punch, .int y2_ups, .int y2_toolCount, .ref y2_toolWidth, .ref y2_told, .ref y2_name, .ref y2_parent, .ref y2_side, .ref y2_from, .ref y2_width, .ref y2_height, .ref y2_radius, .ref y2_toolSet])), (h0_lengths, .inl (g.2.1.1, 8, .inl fn3456)), (y1, .inr (7, [.ref y1_bytes, .int y1_length])), (y1_bytes, .inl (g.2.1.2.1, 1200, .inl f_y1_bytes))] := hD
                  refine lv_aload_n hx hb dX1_take_99 rfl (lv_at hl 0 rfl) ?_
                  refine va_get (D := g.1) (ci := 1) (v := .ref h0_lengths) (C := RX1) (T := TX1) (N := 3) hx hb hG iX1 hown hX.1 hP 0 rfl rfl 1 (by decide) (hG _ wf_X1_15) (fun _ h9 => h9) rfl dX1_take_100 ?_
                  refine lv_iload hx hb dX1_take_103 (lv_at hl 5 rfl) ?_
                  refine lv_sipush (v := 256) hx hb dX1_take_105 (by decide) ?_
                  refine lv_aload_n hx hb dX1_take_108 rfl (lv_at hl 1 rfl) ?_
                  refine lv_iconst (v := 3) hx hb dX1_take_109 (by decide) ?_
                  refine lv_iload hx hb dX1_take_110 (lv_at hl 5 rfl) ?_
                  refine lv_imul hx hb dX1_take_112 ?_
                  refine lv_topi (fun z3514 e3515 => ?_)
                  have f3516 : z3514.toInt = (3 : Int) * v3454.toInt := zm e3515 (show (3 : Int32).toInt = (3 : Int) from by decide) (rfl : v3454.toInt = _) (ox_624 (zr v10) (zr v2756) (zr v2757) (zr v3454) (zr y1_length) (zr z1) (zr z3506) (zr z4) c3175i c3505i f3 f3508 f6 hy4 i12 i3153 i3154 i3500 v13 v3156 v3173 v3174 v3503)
                  refine lv_iconst (v := 1) hx hb dX1_take_113 (by decide) ?_
                  refine lv_iadd hx hb dX1_take_114 ?_
                  refine lv_topi (fun z3517 e3518 => ?_)
                  have f3519 : z3517.toInt = z3514.toInt + (1 : Int) := za e3518 (rfl : z3514.toInt = _) (show (1 : Int32).toInt = (1 : Int) from by decide) (ox_625 (zr v10) (zr v2756) (zr v2757) (zr v3454) (zr y1_length) (zr z1) (zr z3506) (zr z3514) (zr z4) c3175i c3505i f3 f3508 f3516 f6 hy4 i12 i3153 i3154 i3500 v13 v3156 v3173 v3174 v3503)
                  refine zfi (wr := [(h0, .inr (1, [.ref h0_flanges, .ref h0_lengths, .int h0_rows])), (h0_flanges, .inl (g.2.1.1, 8, .inl f3512)), (y2, .inr (4, [.int y2_count, .int y2_statements, .int y2_thick, .int y2_punch, .int y2_ups, .int y2_toolCount, .ref y2_toolWidth, .ref y2_told, .ref y2_name, .ref y2_parent, .ref y2_side, .ref y2_from, .ref y2_width, .ref y2_height, .ref y2_radius, .ref y2_toolSet])), (h0_lengths, .inl (g.2.1.1, 8, .inl fn3456))]) (va_runVN (As := [.int z3517]) (rest := [.int 256, .int v3454, .ref h0_lengths]) ⟨hx, hb, hml, hown, hG⟩ (kX7_atf l g y1 z3517 y1_bytes y1_length f_y1_bytes (ox_626 c3175i c3505i f3 f3508 f3516 f3519 f6 hy4 i12 i3153 i3154 i3500 v13 v3156 v3173 v3174 v3503) _) ⟨va_cnB 1 hG (zGood wc_X7_at) rfl rfl rfl (hX.2.1.ml wmn_X1_24) (hG _ wini_X7) hX7_at ⟨Nat.le_of_ble_eq_true rfl, Nat.le_of_ble_eq_true rfl⟩, hG _ wi_X7_at, hG _ wse_X7_X7_at⟩ (zpreV (va_recv hX.1 hP (ci := 7) (q0 := 4) rfl rfl) hX hP hD hS hA [4, 5] rfl (by decide)) rfl rfl hl.1 rfl (lv_room (Nat.le_of_ble_eq_true rfl)) dX1_take_115 ⟨Nat.le_of_ble_eq_true rfl, Nat.le_of_ble_eq_true rfl⟩) hP hD hS hA [4, 5] [0, 1, 2, 3] rfl rfl (by decide) (by decide) (fun r3520 _ H locs hp hP hD hS => ?_)
                  refine W.cs (cells' := 0) (slots' := 0) rfl rfl ?_
                  obtain ⟨hq3521, hq3522⟩ : ((-1) ≤ r3520.toInt ∧ r3520.toInt ≤ 255) ∧ (pAt r3520 y1_length f_y1_bytes z3517) := hp
                  have hP : va_P g.1 vwCl [(h0, .inr (1, [.ref h0_flanges, .ref h0_lengths, .int h0_rows])), (h0_flanges, .inl (g.2.1.1, 8, .inl f3512)), (y2, .inr (4, [.int y2_count, .int y2_statements, .int y2_thick, .int y2_punch, .int y2_ups, .int y2_toolCount, .ref y2_toolWidth, .ref y2_told, .ref y2_name, .ref y2_parent, .ref y2_side, .ref y2_from, .ref y2_width, .ref y2_height, .ref y2_radius, .ref y2_toolSet])), (h0_lengths, .inl (g.2.1.1, 8, .inl fn3456)), (y1, .inr (7, [.ref y1_bytes, .int y1_length])), (y1_bytes, .inl (g.2.1.2.1, 1200, .inl f_y1_bytes))] H := hP
                  have hD : va_D A [(h0, .inr (1, [.ref h0_flanges, .ref h0_lengths, .int h0_rows])), (h0_flanges, .inl (g.2.1.1, 8, .inl f3512)), (y2, .inr (4, [.int y2_count, .int y2_statements, .int y2_thick, .int y2_punch, .int y2_ups, .int y2_toolCount, .ref y2_toolWidth, .ref y2_told, .ref y2_name, .ref y2_parent, .ref y2_side, .ref y2_from, .ref y2_width, .ref y2_height, .ref y2_radius, .ref y2_toolSet])), (h0_lengths, .inl (g.2.1.1, 8, .inl fn3456)), (y1, .inr (7, [.ref y1_bytes, .int y1_length])), (y1_bytes, .inl (g.2.1.2.1, 1200, .inl f_y1_bytes))] := hD
                  refine lv_imul hx hb dX1_take_118 ?_
                  refine lv_topi (fun z3523 e3524 => ?_)
                  have f3525 : z3523.toInt = (256 : Int) * r3520.toInt := zm e3524 (show (256 : Int32).toInt = (256 : Int) from by decide) (rfl : r3520.toInt = _) (ox_627 (zr r3520) hq3521)
                  refine lv_aload_n hx hb dX1_take_119 rfl (lv_at hl 1 rfl) ?_
                  refine lv_iconst (v := 3) hx hb dX1_take_120 (by decide) ?_
                  refine lv_iload hx hb dX1_take_121 (lv_at hl 5 rfl) ?_
                  refine lv_imul hx hb dX1_take_123 ?_
                  refine lv_topi (fun z3526 e3527 => ?_)
                  have f3528 : z3526.toInt = (3 : Int) * v3454.toInt := zm e3527 (show (3 : Int32).toInt = (3 : Int) from by decide) (rfl : v3454.toInt = _) (ox_628 (zr v10) (zr v2756) (zr v2757) (zr v3454) (zr y1_length) (zr z1) (zr z3506) (zr z3514) (zr z3517) (zr z4) c3175i c3505i f3 f3508 f3516 f3519 f6 hy4 i12 i3153 i3154 i3500 v13 v3156 v3173 v3174 v3503)
                  refine lv_iconst (v := 2) hx hb dX1_take_124 (by decide) ?_
                  refine lv_iadd hx hb dX1_take_125 ?_
                  refine lv_topi (fun z3529 e3530 => ?_)
                  have f3531 : z3529.toInt = z3526.toInt + (2 : Int) := za e3530 (rfl : z3526.toInt = _) (show (2 : Int32).toInt = (2 : Int) from by decide) (ox_629 (zr v10) (zr v2756) (zr v2757) (zr v3454) (zr y1_length) (zr z1) (zr z3506) (zr z3514) (zr z3517) (zr z3526) (zr z4) c3175i c3505i f3 f3508 f3516 f3519 f3528 f6 hy4 i12 i3153 i3154 i3500 v13 v3156 v3173 v3174 v3503)
                  refine zfi (wr := [(h0, .inr (1, [.ref h0_flanges, .ref h0_lengths, .int h0_rows])), (h0_flanges, .inl (g.2.1.1, 8, .inl f3512)), (y2, .inr (4, [.int y2_count, .int y2_statements, .int y2_thick, .int y2_punch, .int y2_ups, .int y2_toolCount, .ref y2_toolWidth, .ref y2_told, .ref y2_name, .ref y2_parent, .ref y2_side, .ref y2_from, .ref y2_width, .ref y2_height, .ref y2_radius, .ref y2_toolSet])), (h0_lengths, .inl (g.2.1.1, 8, .inl fn3456))]) (va_runVN (As := [.int z3529]) (rest := [.int z3523, .int v3454, .ref h0_lengths]) ⟨hx, hb, hml, hown, hG⟩ (kX7_atf l g y1 z3529 y1_bytes y1_length f_y1_bytes (ox_630 c3175i c3505i f3 f3508 f3516 f3519 f3528 f3531 f6 hy4 i12 i3153 i3154 i3500 v13 v3156 v3173 v3174 v3503) _) ⟨va_cnB 1 hG (zGood wc_X7_at) rfl rfl rfl (hX.2.1.ml wmn_X1_24) (hG _ wini_X7) hX7_at ⟨Nat.le_of_ble_eq_true rfl, Nat.le_of_ble_eq_true rfl⟩, hG _ wi_X7_at, hG _ wse_X7_X7_at⟩ (zpreV (va_recv hX.1 hP (ci := 7) (q0 := 4) rfl rfl) hX hP hD hS hA [4, 5] rfl (by decide)) rfl rfl hl.1 rfl (lv_room (Nat.le_of_ble_eq_true rfl)) dX1_take_126 ⟨Nat.le_of_ble_eq_true rfl, Nat.le_of_ble_eq_true rfl⟩) hP hD hS hA [4, 5] [0, 1, 2, 3] rfl rfl (by decide) (by decide) (fun r3532 _ H locs hp hP hD hS => ?_)
                  refine W.cs (cells' := 0) (slots' := 0) rfl rfl ?_
                  obtain ⟨hq3533, hq3534⟩ : ((-1) ≤ r3532.toInt ∧ r3532.toInt ≤ 255) ∧ (pAt r3532 y1_length f_y1_bytes z3529) := hp
                  have hP : va_P g.1 vwCl [(h0, .inr (1, [.ref h0_flanges, .ref h0_lengths, .int h0_rows])), (h0_flanges, .inl (g.2.1.1, 8, .inl f3512)), (y2, .inr (4, [.int y2_count, .int y2_statements, .int y2_thick, .int y2_punch, .int y2_ups, .int y2_toolCount, .ref y2_toolWidth, .ref y2_told, .ref y2_name, .ref y2_parent, .ref y2_side, .ref y2_from, .ref y2_width, .ref y2_height, .ref y2_radius, .ref y2_toolSet])), (h0_lengths, .inl (g.2.1.1, 8, .inl fn3456)), (y1, .inr (7, [.ref y1_bytes, .int y1_length])), (y1_bytes, .inl (g.2.1.2.1, 1200, .inl f_y1_bytes))] H := hP
                  have hD : va_D A [(h0, .inr (1, [.ref h0_flanges, .ref h0_lengths, .int h0_rows])), (h0_flanges, .inl (g.2.1.1, 8, .inl f3512)), (y2, .inr (4, [.int y2_count, .int y2_statements, .int y2_thick, .int y2_punch, .int y2_ups, .int y2_toolCount, .ref y2_toolWidth, .ref y2_told, .ref y2_name, .ref y2_parent, .ref y2_side, .ref y2_from, .ref y2_width, .ref y2_height, .ref y2_radius, .ref y2_toolSet])), (h0_lengths, .inl (g.2.1.1, 8, .inl fn3456)), (y1, .inr (7, [.ref y1_bytes, .int y1_length])), (y1_bytes, .inl (g.2.1.2.1, 1200, .inl f_y1_bytes))] := hD
                  refine lv_iadd hx hb dX1_take_129 ?_
                  refine lv_topi (fun z3535 e3536 => ?_)
                  have f3537 : z3535.toInt = z3523.toInt + r3532.toInt := za e3536 (rfl : z3523.toInt = _) (rfl : r3532.toInt = _) (ox_631 (zr r3520) (zr r3532) (zr z3523) f3525 hq3521 hq3533)
                  refine va_iast hx hb hX.1 hP hD hS 3 0 rfl rfl (zin (rfl : v3454.toInt = _) (ox_632 c3175i c3505i f3 f3508 f3516 f3519 f3528 f3531 f6 hy4 i12 i3153 i3154 i3500 v13 v3156 v3173 v3174 v3503)) dX1_take_130 (fun H locs hP hD hS => ?_)
                  obtain ⟨f3538, e3539⟩ : ∃ z9 : Nat → Int32, z9 = upd fn3456 v3454.toNatClampNeg z3535 := ⟨_, rfl⟩
                  rw [← e3539] at hP hD
                  have hP : va_P g.1 vwCl [(h0, .inr (1, [.ref h0_flanges, .ref h0_lengths, .int h0_rows])), (h0_flanges, .inl (g.2.1.1, 8, .inl f3512)), (y2, .inr (4, [.int y2_count, .int y2_statements, .int y2_thick, .int y2_punch, .int y2_ups, .int y2_toolCount, .ref y2_toolWidth, .ref y2_told, .ref y2_name, .ref y2_parent, .ref y2_side, .ref y2_from, .ref y2_width, .ref y2_height, .ref y2_radius, .ref y2_toolSet])), (h0_lengths, .inl (g.2.1.1, 8, .inl f3538)), (y1, .inr (7, [.ref y1_bytes, .int y1_length])), (y1_bytes, .inl (g.2.1.2.1, 1200, .inl f_y1_bytes))] H := hP
                  have hD : va_D A [(h0, .inr (1, [.ref h0_flanges, .ref h0_lengths, .int h0_rows])), (h0_flanges, .inl (g.2.1.1, 8, .inl f3512)), (y2, .inr (4, [.int y2_count, .int y2_statements, .int y2_thick, .int y2_punch, .int y2_ups, .int y2_toolCount, .ref y2_toolWidth, .ref y2_told, .ref y2_name, .ref y2_parent, .ref y2_side, .ref y2_from, .ref y2_width, .ref y2_height, .ref y2_radius, .ref y2_toolSet])), (h0_lengths, .inl (g.2.1.1, 8, .inl f3538)), (y1, .inr (7, [.ref y1_bytes, .int y1_length])), (y1_bytes, .inl (g.2.1.2.1, 1200, .inl f_y1_bytes))] := hD
                  obtain ⟨z3540, e3541⟩ : ∃ y9 : Int32, y9 = v3454 + 1 := ⟨_, rfl⟩
                  have f3542 : z3540.toInt = v3454.toInt + 1 := za e3541 (rfl : v3454.toInt = _) (show (1 : Int32).toInt = (1 : Int) from by decide) (ox_633 (zr v10) (zr v2756) (zr v2757) (zr v3454) (zr y1_length) (zr z1) (zr z3506) (zr z3514) (zr z3517) (zr z3526) (zr z3529) (zr z4) c3175i c3505i f3 f3508 f3516 f3519 f3528 f3531 f6 hy4 i12 i3153 i3154 i3500 v13 v3156 v3173 v3174 v3503)
                  refine lv_iinc (v := z3540) (lv' := [(5, .int z3540), (0, .ref h0), (1, .ref y1), (2, .ref y2), (3, .int z1), (4, .int v2756)]) hx hb dX1_take_131 hl (k := 5) rfl (by rw [e3541]; rfl) (by decide) rfl (fun ls hl => ?_)
                  refine lv_goto (tgt := 78) hx hb dX1_take_134 (by decide) ?_
                  exact ih3499 z3540 f3512 f3538 H locs ls (ox_634 c3175i c3505i f3 f3508 f3516 f3519 f3528 f3531 f3542 f6 hy4 i12 i3153 i3154 i3500 v13 v3156 v3173 v3174 v3503) trivial (pSn.step hc3502 (pL1.weak hc3155 (rfl : v2757.toInt = _) (rfl : z1.toInt = _) (ox_635 c3175i c3505i f3 f3508 f3516 f3519 f3528 f3531 f3542 f6 hy4 i12 i3153 i3154 i3500 v13 v3156 v3173 v3174 v3503)) (ox_636 c3175i c3505i f3 f3508 f3516 f3519 f3528 f3531 f3542 f6 hy4 i12 i3153 i3154 i3500 v13 v3156 v3173 v3174 v3503) (ox_637 c3175i c3505i f3 f3508 f3516 f3519 f3528 f3531 f3542 f6 hy4 i12 i3153 i3154 i3500 v13 v3156 v3173 v3174 v3503) (ox_638 c3175i c3505i f3 f3508 f3516 f3519 f3528 f3531 f3542 f6 hy4 i12 i3153 i3154 i3500 v13 v3156 v3173 v3174 v3503) hq3511 (ox_639 c3175i c3505i f3 f3508 f3516 f3519 f3528 f3531 f3542 f6 hy4 i12 i3153 i3154 i3500 v13 v3156 v3173 v3174 v3503) (ox_640 c3175i c3505i f3 f3508 f3516 f3519 f3528 f3531 f3542 f6 hy4 i12 i3153 i3154 i3500 v13 v3156 v3173 v3174 v3503) e3513) (ox_641 c3175i c3505i f3 f3508 f3516 f3519 f3528 f3531 f3542 f6 hy4 i12 i3153 i3154 i3500 v13 v3156 v3173 v3174 v3503) (zdec hm3504 (ox_642 c3175i c3505i f3 f3508 f3516 f3519 f3528 f3531 f3542 f6 hy4 i12 i3153 i3154 i3500 v13 v3156 v3173 v3174 v3503)) (hP.sub [0, 1, 2, 4, 5, 3] rfl) (hD.sub [0, 1, 2, 4, 5, 3] (by decide) rfl) hS (lv_sub hl [1, 2, 3, 4, 5, 0] rfl)
            exact L3497 _ (0 : Int32) f_h0_flanges f_h0_lengths H locs ls ((show 0 ≤ (0 : Int) ∧ (0 : Int) ≤ 400 from by decide)) trivial (pSn.zero (by decide)) (ox_643 c3175i f3 f6 hy4 i12 i3153 i3154 v13 v3156 v3173 v3174) (Nat.lt_succ_self _) hP hD hS (lv_sub hl [1, 2, 3, 4, 5, 0] rfl)
          · skip
            have c3175i : v2756.toInt = (0 : Int) := (zc_eq (rfl : v2756.toInt = _) (show (0 : Int32).toInt = (0 : Int) from by decide)).mp c3175
            refine lv_iconst (v := 0) hx hb dX1_take_73 (by decide) ?_
            exact hret (0 : Int32) (h0_rows, f_h0_flanges, f_h0_lengths) (Nat.le_of_ble_eq_true rfl) (Nat.le_of_ble_eq_true rfl) rfl ⟨ox_1 hy0, trivial, (show 0 ≤ (0 : Int) ∧ (0 : Int) ≤ 1 from by decide), hy5⟩ hP hD hS dX1_take_74
        refine lv_if_eq (tgt := 68) hx hb dX1_take_39 (by decide) (fun c3543 => ?_) (fun c3543 => ?_)
        · skip
          have c3543i : v2756.toInt = (0 : Int) := (zc_eq (rfl : v2756.toInt = _) (show (0 : Int32).toInt = (0 : Int) from by decide)).mp c3543
          exact J3172 H locs ls (ox_644 c3543i f3 f6 hy4 i12 i3153 i3154 v13 v3156) (ox_645 c3543i f3 f6 hy4 i12 i3153 v13 v3156) hP hD hS (lv_sub hl [0, 1, 2, 3, 4, 5] rfl)
        · skip
          have c3543i : ¬ (v2756.toInt = (0 : Int)) := fun q => c3543 ((zc_eq (rfl : v2756.toInt = _) (show (0 : Int32).toInt = (0 : Int) from by decide)).mpr q)
          refine lv_iload hx hb dX1_take_42 (lv_at hl 5 rfl) ?_
          refine lv_iload_n hx hb dX1_take_44 rfl (lv_at hl 3 rfl) ?_
          refine lv_icmp_ge (tgt := 68) hx hb dX1_take_45 (by decide) (fun c3544 => ?_) (fun c3544 => ?_)
          · skip
            have c3544i : z1.toInt ≤ v2757.toInt := (zc_le (rfl : z1.toInt = _) (rfl : v2757.toInt = _)).mp c3544
            exact J3172 H locs ls (ox_646 c3543i c3544i f3 f6 hy4 i12 i3153 i3154 v13 v3156) (ox_647 c3543i c3544i f3 f6 hy4 i12 i3153 i3154 v13 v3156) hP hD hS (lv_sub hl [0, 1, 2, 3, 4, 5] rfl)
          · skip
            have c3544i : ¬ (z1.toInt ≤ v2757.toInt) := fun q => c3544 ((zc_le (rfl : z1.toInt = _) (rfl : v2757.toInt = _)).mpr q)
            refine lv_aload_n hx hb dX1_take_48 rfl (lv_at hl 2 rfl) ?_
            refine lv_aload_n hx hb dX1_take_49 rfl (lv_at hl 1 rfl) ?_
            refine lv_iconst (v := 3) hx hb dX1_take_50 (by decide) ?_
            refine lv_iload hx hb dX1_take_51 (lv_at hl 5 rfl) ?_
            refine lv_imul hx hb dX1_take_53 ?_
            refine lv_topi (fun z3545 e3546 => ?_)
            have f3547 : z3545.toInt = (3 : Int) * v2757.toInt := zm e3546 (show (3 : Int32).toInt = (3 : Int) from by decide) (rfl : v2757.toInt = _) (ox_648 (zr v10) (zr v2756) (zr v2757) (zr y1_length) (zr z1) (zr z4) c3543i c3544i f3 f6 hy4 i12 i3153 i3154 v13 v3156)
            refine zfi (wr := [(h0, .inr (1, [.ref h0_flanges, .ref h0_lengths, .int h0_rows])), (h0_flanges, .inl (g.2.1.1, 8, .inl f_h0_flanges)), (y2, .inr (4, [.int y2_count, .int y2_statements, .int y2_thick, .int y2_punch, .int y2_ups, .int y2_toolCount, .ref y2_toolWidth, .ref y2_told, .ref y2_name, .ref y2_parent, .ref y2_side, .ref y2_from, .ref y2_width, .ref y2_height, .ref y2_radius, .ref y2_toolSet])), (h0_lengths, .inl (g.2.1.1, 8, .inl f_h0_lengths))]) (va_runVN (As := [.int z3545]) (rest := [.ref y2]) ⟨hx, hb, hml, hown, hG⟩ (kX7_atf l g y1 z3545 y1_bytes y1_length f_y1_bytes (ox_649 c3543i c3544i f3 f3547 f6 hy4 i12 i3153 i3154 v13 v3156) _) ⟨va_cnB 1 hG (zGood wc_X7_at) rfl rfl rfl (hX.2.1.ml wmn_X1_24) (hG _ wini_X7) hX7_at ⟨Nat.le_of_ble_eq_true rfl, Nat.le_of_ble_eq_true rfl⟩, hG _ wi_X7_at, hG _ wse_X7_X7_at⟩ (zpreV (va_recv hX.1 hP (ci := 7) (q0 := 3) rfl rfl) hX hP hD hS hA [3, 4] rfl (by decide)) rfl rfl hl.1 rfl (lv_room (Nat.le_of_ble_eq_true rfl)) dX1_take_54 ⟨Nat.le_of_ble_eq_true rfl, Nat.le_of_ble_eq_true rfl⟩) hP hD hS hA [3, 4] [0, 1, 2, 5] rfl rfl (by decide) (by decide) (fun r3548 _ H locs hp hP hD hS => ?_)
            refine W.cs (cells' := 0) (slots' := 0) rfl rfl ?_
            obtain ⟨hq3549, hq3550⟩ : ((-1) ≤ r3548.toInt ∧ r3548.toInt ≤ 255) ∧ (pAt r3548 y1_length f_y1_bytes z3545) := hp
            have hP : va_P g.1 vwCl [(h0, .inr (1, [.ref h0_flanges, .ref h0_lengths, .int h0_rows])), (h0_flanges, .inl (g.2.1.1, 8, .inl f_h0_flanges)), (y2, .inr (4, [.int y2_count, .int y2_statements, .int y2_thick, .int y2_punch, .int y2_ups, .int y2_toolCount, .ref y2_toolWidth, .ref y2_told, .ref y2_name, .ref y2_parent, .ref y2_side, .ref y2_from, .ref y2_width, .ref y2_height, .ref y2_radius, .ref y2_toolSet])), (h0_lengths, .inl (g.2.1.1, 8, .inl f_h0_lengths)), (y1, .inr (7, [.ref y1_bytes, .int y1_length])), (y1_bytes, .inl (g.2.1.2.1, 1200, .inl f_y1_bytes))] H := hP
            have hD : va_D A [(h0, .inr (1, [.ref h0_flanges, .ref h0_lengths, .int h0_rows])), (h0_flanges, .inl (g.2.1.1, 8, .inl f_h0_flanges)), (y2, .inr (4, [.int y2_count, .int y2_statements, .int y2_thick, .int y2_punch, .int y2_ups, .int y2_toolCount, .ref y2_toolWidth, .ref y2_told, .ref y2_name, .ref y2_parent, .ref y2_side, .ref y2_from, .ref y2_width, .ref y2_height, .ref y2_radius, .ref y2_toolSet])), (h0_lengths, .inl (g.2.1.1, 8, .inl f_h0_lengths)), (y1, .inr (7, [.ref y1_bytes, .int y1_length])), (y1_bytes, .inl (g.2.1.2.1, 1200, .inl f_y1_bytes))] := hD
            refine zfi (wr := [(h0, .inr (1, [.ref h0_flanges, .ref h0_lengths, .int h0_rows])), (h0_flanges, .inl (g.2.1.1, 8, .inl f_h0_flanges)), (h0_lengths, .inl (g.2.1.1, 8, .inl f_h0_lengths)), (y1, .inr (7, [.ref y1_bytes, .int y1_length])), (y1_bytes, .inl (g.2.1.2.1, 1200, .inl f_y1_bytes))]) (va_runVN (As := [.int r3548]) (rest := []) ⟨hx, hb, hml, hown, hG⟩ (kX4_isBendf l g y2 r3548 y2_count y2_statements y2_thick y2_punch y2_ups y2_toolCount y2_toolWidth y2_told y2_name y2_parent y2_side y2_from y2_width y2_height y2_radius y2_toolSet (ox_0 hy2) (ox_1 hy3) _) ⟨va_cnB 1 hG (zGood wc_X4_isBend) rfl rfl rfl (hX.2.1.ml wmn_X1_28) (hG _ wini_X4) hX4_isBend ⟨Nat.le_of_ble_eq_true rfl, Nat.le_of_ble_eq_true rfl⟩, hG _ wi_X4_isBend, hG _ wse_X4_X4_isBend⟩ (zpreV (va_recv hX.1 hP (ci := 4) (q0 := 2) rfl rfl) hX hP hD hS hA [2] rfl (by decide)) rfl rfl hl.1 rfl (lv_room (Nat.le_of_ble_eq_true rfl)) dX1_take_57 ⟨Nat.le_of_ble_eq_true rfl, Nat.le_of_ble_eq_true rfl⟩) hP hD hS hA [2] [0, 1, 3, 4, 5] rfl rfl (by decide) (by decide) (fun r3551 _ H locs hp hP hD hS => ?_)
            refine W.cs (cells' := 0) (slots' := 0) rfl rfl ?_
            obtain ⟨hq3552, hq3553⟩ : (0 ≤ r3551.toInt ∧ r3551.toInt ≤ 1) ∧ ((r3551.toInt = 0 ∨ (1 ≤ r3548.toInt ∧ r3548.toInt < y2_count.toInt))) := hp
            have hP : va_P g.1 vwCl [(h0, .inr (1, [.ref h0_flanges, .ref h0_lengths, .int h0_rows])), (h0_flanges, .inl (g.2.1.1, 8, .inl f_h0_flanges)), (h0_lengths, .inl (g.2.1.1, 8, .inl f_h0_lengths)), (y1, .inr (7, [.ref y1_bytes, .int y1_length])), (y1_bytes, .inl (g.2.1.2.1, 1200, .inl f_y1_bytes)), (y2, .inr (4, [.int y2_count, .int y2_statements, .int y2_thick, .int y2_punch, .int y2_ups, .int y2_toolCount, .ref y2_toolWidth, .ref y2_told, .ref y2_name, .ref y2_parent, .ref y2_side, .ref y2_from, .ref y2_width, .ref y2_height, .ref y2_radius, .ref y2_toolSet]))] H := hP
            have hD : va_D A [(h0, .inr (1, [.ref h0_flanges, .ref h0_lengths, .int h0_rows])), (h0_flanges, .inl (g.2.1.1, 8, .inl f_h0_flanges)), (h0_lengths, .inl (g.2.1.1, 8, .inl f_h0_lengths)), (y1, .inr (7, [.ref y1_bytes, .int y1_length])), (y1_bytes, .inl (g.2.1.2.1, 1200, .inl f_y1_bytes)), (y2, .inr (4, [.int y2_count, .int y2_statements, .int y2_thick, .int y2_punch, .int y2_ups, .int y2_toolCount, .ref y2_toolWidth, .ref y2_told, .ref y2_name, .ref y2_parent, .ref y2_side, .ref y2_from, .ref y2_width, .ref y2_height, .ref y2_radius, .ref y2_toolSet]))] := hD
            refine lv_istore (lv' := [(4, .int r3551), (0, .ref h0), (1, .ref y1), (2, .ref y2), (3, .int z1), (5, .int v2757)]) hx hb dX1_take_60 hl (by decide) rfl (fun ls hl => ?_)
            obtain ⟨z3554, e3555⟩ : ∃ y9 : Int32, y9 = v2757 + 1 := ⟨_, rfl⟩
            have f3556 : z3554.toInt = v2757.toInt + 1 := za e3555 (rfl : v2757.toInt = _) (show (1 : Int32).toInt = (1 : Int) from by decide) (ox_650 (zr v10) (zr v2756) (zr v2757) (zr y1_length) (zr z1) (zr z3545) (zr z4) c3543i c3544i f3 f3547 f6 hy4 i12 i3153 i3154 v13 v3156)
            refine lv_iinc (v := z3554) (lv' := [(5, .int z3554), (4, .int r3551), (0, .ref h0), (1, .ref y1), (2, .ref y2), (3, .int z1)]) hx hb dX1_take_62 hl (k := 5) rfl (by rw [e3555]; rfl) (by decide) rfl (fun ls hl => ?_)
            refine lv_goto (tgt := 37) hx hb dX1_take_65 (by decide) ?_
            exact ih3152 r3551 z3554 H locs ls (ox_651 hq3549 hq3552 hq3553 hy2) (ox_652 c3543i c3544i f3 f3547 f3556 f6 hy4 i12 i3153 i3154 v13 v3156) (pL1.step hc3155 (ox_653 c3543i c3544i f3 f3547 f3556 f6 hy4 i12 i3153 i3154 v13 v3156) hq3550 (ox_654 c3543i c3544i f3 f3547 f3556 f6 hy4 i12 i3153 i3154 v13 v3156) (ox_655 c3543i c3544i f3 f3547 f3556 f6 hy4 i12 i3153 i3154 v13 v3156) (ox_656 hq3549 hq3552 hq3553 hy2)) (ox_657 c3543i c3544i f3 f3547 f3556 f6 hq3549 hq3552 hq3553 hy2 hy4 i12 i3153 i3154 v13 v3156) (zdec hm3157 (ox_658 c3543i c3544i f3 f3547 f3556 f6 hy4 i12 i3153 i3154 v13 v3156)) (hP.sub [0, 1, 5, 3, 4, 2] rfl) (hD.sub [0, 1, 5, 3, 4, 2] (by decide) rfl) hS (lv_sub hl [2, 3, 4, 5, 1, 0] rfl)
    exact L3150 _ v10 (0 : Int32) H locs ls (ox_659 f3 f6 hy4 i12 v13) ((show 0 ≤ (0 : Int) ∧ (0 : Int) ≤ 400 from by decide)) (pL1.zero (by decide)) (ox_660 f3 f6 hy4 i12 v13) (Nat.lt_succ_self _) hP hD hS (lv_sub hl [2, 3, 4, 5, 1, 0] rfl)
  have J3560 : ∀  (H : Heap) (locs : List Loc) (ls : Array Slot), True → va_P g.1 vwCl [(h0, .inr (1, [.ref h0_flanges, .ref h0_lengths, .int h0_rows])), (h0_flanges, .inl (g.2.1.1, 8, .inl f_h0_flanges)), (y2, .inr (4, [.int y2_count, .int y2_statements, .int y2_thick, .int y2_punch, .int y2_ups, .int y2_toolCount, .ref y2_toolWidth, .ref y2_told, .ref y2_name, .ref y2_parent, .ref y2_side, .ref y2_from, .ref y2_width, .ref y2_height, .ref y2_radius, .ref y2_toolSet])), (y1, .inr (7, [.ref y1_bytes, .int y1_length])), (y1_bytes, .inl (g.2.1.2.1, 1200, .inl f_y1_bytes)), (h0_lengths, .inl (g.2.1.1, 8, .inl f_h0_lengths))] H → va_D A [(h0, .inr (1, [.ref h0_flanges, .ref h0_lengths, .int h0_rows])), (h0_flanges, .inl (g.2.1.1, 8, .inl f_h0_flanges)), (y2, .inr (4, [.int y2_count, .int y2_statements, .int y2_thick, .int y2_punch, .int y2_ups, .int y2_toolCount, .ref y2_toolWidth, .ref y2_told, .ref y2_name, .ref y2_parent, .ref y2_side, .ref y2_from, .ref y2_width, .ref y2_height, .ref y2_radius, .ref y2_toolSet])), (y1, .inr (7, [.ref y1_bytes, .int y1_length])), (y1_bytes, .inl (g.2.1.2.1, 1200, .inl f_y1_bytes)), (h0_lengths, .inl (g.2.1.1, 8, .inl f_h0_lengths))] → va_S A s.heap H locs → lv_has ls 6 [(0, .ref h0), (1, .ref y1), (2, .ref y2), (3, .int z1)] → W p l e rm_kX1_take s m args below meth c H locs 0 0 Q (F0 m 31 ls []) := by
    intro  H locs ls v3561 hP hD hS hl
    refine lv_iconst (v := 0) hx hb dX1_take_31 (by decide) ?_
    exact J11 (0 : Int32) H locs ls ((show 0 ≤ (0 : Int) ∧ (0 : Int) ≤ 1 from by decide)) (ox_661 f3 f6 hy4) hP hD hS (lv_sub hl [0, 1, 2, 3] rfl)
  refine lv_if_ne (tgt := 31) hx hb dX1_take_13 (by decide) (fun c3562 => ?_) (fun c3562 => ?_)
  · skip
    have c3562i : ¬ (z4.toInt = (0 : Int)) := fun q => c3562 ((zc_eq (rfl : z4.toInt = _) (show (0 : Int32).toInt = (0 : Int) from by decide)).mpr q)
    exact J3560 _ _ ls ((show True from by decide)) hP hD hS (lv_sub hl [1, 2, 3, 0] rfl)
  · skip
    have c3562i : z4.toInt = (0 : Int) := (zc_eq (rfl : z4.toInt = _) (show (0 : Int32).toInt = (0 : Int) from by decide)).mp c3562
    refine lv_iload_n hx hb dX1_take_16 rfl (lv_at hl 0 rfl) ?_
    refine lv_iconst (v := 1) hx hb dX1_take_17 (by decide) ?_
    refine lv_icmp_lt (tgt := 31) hx hb dX1_take_18 (by decide) (fun c3563 => ?_) (fun c3563 => ?_)
    · skip
      have c3563i : z1.toInt < (1 : Int) := (zc_lt (rfl : z1.toInt = _) (show (1 : Int32).toInt = (1 : Int) from by decide)).mp c3563
      exact J3560 _ _ ls ((show True from by decide)) hP hD hS (lv_sub hl [1, 2, 3, 0] rfl)
    · skip
      have c3563i : ¬ (z1.toInt < (1 : Int)) := fun q => c3563 ((zc_lt (rfl : z1.toInt = _) (show (1 : Int32).toInt = (1 : Int) from by decide)).mpr q)
      refine lv_iload_n hx hb dX1_take_21 rfl (lv_at hl 0 rfl) ?_
      refine lv_bipush (v := 8) hx hb dX1_take_22 (by decide) ?_
      refine lv_icmp_gt (tgt := 31) hx hb dX1_take_24 (by decide) (fun c3564 => ?_) (fun c3564 => ?_)
      · skip
        have c3564i : (8 : Int) < z1.toInt := (zc_lt (show (8 : Int32).toInt = (8 : Int) from by decide) (rfl : z1.toInt = _)).mp c3564
        exact J3560 _ _ ls ((show True from by decide)) hP hD hS (lv_sub hl [1, 2, 3, 0] rfl)
      · skip
        have c3564i : ¬ ((8 : Int) < z1.toInt) := fun q => c3564 ((zc_lt (show (8 : Int32).toInt = (8 : Int) from by decide) (rfl : z1.toInt = _)).mpr q)
        refine lv_iconst (v := 1) hx hb dX1_take_27 (by decide) ?_
        refine lv_goto (tgt := 32) hx hb dX1_take_28 (by decide) ?_
        exact J11 (1 : Int32) _ _ ls ((show 0 ≤ (1 : Int) ∧ (1 : Int) ≤ 1 from by decide)) (ox_662 c3562i c3563i c3564i f3 f6 hy4) hP hD hS (lv_sub hl [1, 2, 3, 0] rfl)
theorem dX1_explains_0 : decode cX1_explains 0 = .ok (.iload_n 3, 1) := by decide +kernel
theorem dX1_explains_1 : decode cX1_explains 1 = .ok (.aload_n 1, 1) := by decide +kernel
theorem dX1_explains_2 : decode cX1_explains 2 = .ok (.iload_n 2, 1) := by decide +kernel
theorem dX1_explains_3 : decode cX1_explains 3 = .ok (.invokevirtual 37, 3) := by decide +kernel
theorem dX1_explains_6 : decode cX1_explains 6 = .ok (.isub, 1) := by decide +kernel
theorem dX1_explains_7 : decode cX1_explains 7 = .ok (.istore 4, 2) := by decide +kernel
theorem dX1_explains_9 : decode cX1_explains 9 = .ok (.iconst 1, 1) := by decide +kernel
theorem dX1_explains_10 : decode cX1_explains 10 = .ok (.istore 5, 2) := by decide +kernel
theorem dX1_explains_12 : decode cX1_explains 12 = .ok (.iconst 0, 1) := by decide +kernel
theorem dX1_explains_13 : decode cX1_explains 13 = .ok (.istore 6, 2) := by decide +kernel
theorem dX1_explains_15 : decode cX1_explains 15 = .ok (.iload 5, 2) := by decide +kernel
theorem dX1_explains_17 : decode cX1_explains 17 = .ok (.ifCond .eq 61, 3) := by decide +kernel
theorem dX1_explains_78 : decode cX1_explains 78 = .ok (.iload 5, 2) := by decide +kernel
theorem dX1_explains_80 : decode cX1_explains 80 = .ok (.ireturn, 1) := by decide +kernel
theorem dX1_explains_20 : decode cX1_explains 20 = .ok (.iload 6, 2) := by decide +kernel
theorem dX1_explains_22 : decode cX1_explains 22 = .ok (.aload_n 0, 1) := by decide +kernel
theorem dX1_explains_23 : decode cX1_explains 23 = .ok (.getfield 34, 3) := by decide +kernel
theorem dX1_explains_26 : decode cX1_explains 26 = .ok (.if_icmp .ge 52, 3) := by decide +kernel
theorem dX1_explains_29 : decode cX1_explains 29 = .ok (.aload_n 0, 1) := by decide +kernel
theorem dX1_explains_30 : decode cX1_explains 30 = .ok (.getfield 11, 3) := by decide +kernel
theorem dX1_explains_33 : decode cX1_explains 33 = .ok (.iload 6, 2) := by decide +kernel
theorem dX1_explains_35 : decode cX1_explains 35 = .ok (.iaload, 1) := by decide +kernel
theorem dX1_explains_36 : decode cX1_explains 36 = .ok (.istore 7, 2) := by decide +kernel
theorem dX1_explains_38 : decode cX1_explains 38 = .ok (.aload_n 1, 1) := by decide +kernel
theorem dX1_explains_39 : decode cX1_explains 39 = .ok (.iload 7, 2) := by decide +kernel
theorem dX1_explains_41 : decode cX1_explains 41 = .ok (.invokevirtual 40, 3) := by decide +kernel
theorem dX1_explains_44 : decode cX1_explains 44 = .ok (.iload 4, 2) := by decide +kernel
theorem dX1_explains_46 : decode cX1_explains 46 = .ok (.aload_n 1, 1) := by decide +kernel
theorem dX1_explains_47 : decode cX1_explains 47 = .ok (.iload 7, 2) := by decide +kernel
theorem dX1_explains_49 : decode cX1_explains 49 = .ok (.iload_n 2, 1) := by decide +kernel
theorem dX1_explains_50 : decode cX1_explains 50 = .ok (.invokevirtual 43, 3) := by decide +kernel
theorem dX1_explains_53 : decode cX1_explains 53 = .ok (.imul, 1) := by decide +kernel
theorem dX1_explains_54 : decode cX1_explains 54 = .ok (.iadd, 1) := by decide +kernel
theorem dX1_explains_55 : decode cX1_explains 55 = .ok (.aload_n 0, 1) := by decide +kernel
theorem dX1_explains_56 : decode cX1_explains 56 = .ok (.getfield 15, 3) := by decide +kernel
theorem dX1_explains_59 : decode cX1_explains 59 = .ok (.iload 6, 2) := by decide +kernel
theorem dX1_explains_61 : decode cX1_explains 61 = .ok (.iaload, 1) := by decide +kernel
theorem dX1_explains_70 : decode cX1_explains 70 = .ok (.istore 5, 2) := by decide +kernel
theorem dX1_explains_72 : decode cX1_explains 72 = .ok (.iinc 6 1, 3) := by decide +kernel
theorem dX1_explains_75 : decode cX1_explains 75 = .ok (.goto (-60), 3) := by decide +kernel
theorem dX1_explains_62 : decode cX1_explains 62 = .ok (.if_icmp .ne 7, 3) := by decide +kernel
theorem dX1_explains_69 : decode cX1_explains 69 = .ok (.iconst 0, 1) := by decide +kernel
theorem dX1_explains_65 : decode cX1_explains 65 = .ok (.iconst 1, 1) := by decide +kernel
theorem dX1_explains_66 : decode cX1_explains 66 = .ok (.goto 4, 3) := by decide +kernel
abbrev rm_kX1_explains : Room := { frames := 3, cells := 0, slots := 0, locals := 66 }
set_option maxHeartbeats 4000000 in
set_option maxRecDepth 100000 in
theorem kX1_explains (l : Launch) (g : zL) (h0 : Nat) (y1 : Nat) (x2 : Int32) (x3 : Int32) (h0_flanges : Nat) (h0_lengths : Nat) (h0_rows : Int32) (f_h0_flanges : Nat → Int32) (y1_count : Int32) (y1_statements : Int32) (y1_thick : Int32) (y1_punch : Int32) (y1_ups : Int32) (y1_toolCount : Int32) (y1_toolWidth : Nat) (y1_told : Nat) (y1_name : Nat) (y1_parent : Nat) (y1_side : Nat) (y1_from : Nat) (y1_width : Nat) (y1_height : Nat) (y1_radius : Nat) (y1_toolSet : Nat) (f_y1_parent : Nat → Int32) (f_y1_radius : Nat → Int32) (f_y1_told : Nat → Int32) (f_y1_height : Nat → Int32) (f_h0_lengths : Nat → Int32) (hy0 : 0 ≤ x2.toInt ∧ x2.toInt ≤ 9) (hy1 : 0 ≤ h0_rows.toInt ∧ h0_rows.toInt ≤ 8) (hy2 : True) (hy3 : 0 ≤ y1_count.toInt ∧ y1_count.toInt ≤ 9) (hy4 : 0 ≤ y1_toolCount.toInt ∧ y1_toolCount.toInt ≤ 8) (hy5 : aI 0 8 f_y1_parent) (hy6 : True) (hy7 : pSn h0_rows y1_count f_h0_flanges) (hy8 : pOK y1_count f_y1_parent f_y1_radius) : zCi l g yX1_explains cX1_explains 8 (some .boolean) rm_kX1_explains [.ref h0, .ref y1, .int x2, .int x3] [(h0, .inr (1, [.ref h0_flanges, .ref h0_lengths, .int h0_rows])), (h0_flanges, .inl (g.2.1.1, 8, .inl f_h0_flanges)), (y1, .inr (4, [.int y1_count, .int y1_statements, .int y1_thick, .int y1_punch, .int y1_ups, .int y1_toolCount, .ref y1_toolWidth, .ref y1_told, .ref y1_name, .ref y1_parent, .ref y1_side, .ref y1_from, .ref y1_width, .ref y1_height, .ref y1_radius, .ref y1_toolSet])), (y1_parent, .inl (g.2.1.1, 9, .inl f_y1_parent)), (y1_radius, .inl (g.2.1.1, 9, .inl f_y1_radius)), (y1_told, .inl (g.2.1.1, 10, .inl f_y1_told)), (y1_height, .inl (g.2.1.1, 9, .inl f_y1_height)), (h0_lengths, .inl (g.2.1.1, 8, .inl f_h0_lengths))] (fun (r : Int32) (u : Unit) => (0 ≤ r.toInt ∧ r.toInt ≤ 1)) (fun (u : Unit) => [(h0, .inr (1, [.ref h0_flanges, .ref h0_lengths, .int h0_rows])), (h0_flanges, .inl (g.2.1.1, 8, .inl f_h0_flanges)), (y1, .inr (4, [.int y1_count, .int y1_statements, .int y1_thick, .int y1_punch, .int y1_ups, .int y1_toolCount, .ref y1_toolWidth, .ref y1_told, .ref y1_name, .ref y1_parent, .ref y1_side, .ref y1_from, .ref y1_width, .ref y1_height, .ref y1_radius, .ref y1_toolSet])), (y1_parent, .inl (g.2.1.1, 9, .inl f_y1_parent)), (y1_radius, .inl (g.2.1.1, 9, .inl f_y1_radius)), (y1_told, .inl (g.2.1.1, 10, .inl f_y1_told)), (y1_height, .inl (g.2.1.1, 9, .inl f_y1_height)), (h0_lengths, .inl (g.2.1.1, 8, .inl f_h0_lengths))]) := by
  refine zCi.mk2 (by decide) (Nat.le_of_ble_eq_true rfl) ?_
  intro p e s m below meth c A args Q hE hret hP hD hS ls hl
  obtain ⟨hx, hb, hr, hml, hown, hG, hlocks, hnm, hX, hA⟩ := hE
  have hown : s.vm.findClass RX1 = some m.cls := hown
  have hl : lv_has ls 8 [(0, .ref h0), (1, .ref y1), (2, .int x2), (3, .int x3)] := hl
  refine lv_iload_n hx hb dX1_explains_0 rfl (lv_at hl 3 rfl) ?_
  refine lv_aload_n hx hb dX1_explains_1 rfl (lv_at hl 1 rfl) ?_
  refine lv_iload_n hx hb dX1_explains_2 rfl (lv_at hl 2 rfl) ?_
  refine zfi (wr := [(h0, .inr (1, [.ref h0_flanges, .ref h0_lengths, .int h0_rows])), (h0_flanges, .inl (g.2.1.1, 8, .inl f_h0_flanges)), (y1_parent, .inl (g.2.1.1, 9, .inl f_y1_parent)), (y1_radius, .inl (g.2.1.1, 9, .inl f_y1_radius)), (y1_height, .inl (g.2.1.1, 9, .inl f_y1_height)), (h0_lengths, .inl (g.2.1.1, 8, .inl f_h0_lengths))]) (va_runVN (As := [.int x2]) (rest := [.int x3]) ⟨hx, hb, hml, hown, hG⟩ (kX4_allowanceOf l g y1 x2 y1_count y1_statements y1_thick y1_punch y1_ups y1_toolCount y1_toolWidth y1_told y1_name y1_parent y1_side y1_from y1_width y1_height y1_radius y1_toolSet f_y1_told (ox_0 hy0) (ox_0 hy3) (ox_1 hy4) _) ⟨va_cnB 1 hG (zGood wc_X4_allowanceOf) rfl rfl rfl (hX.2.1.ml wmn_X1_37) (hG _ wini_X4) hX4_allowanceOf ⟨Nat.le_of_ble_eq_true rfl, Nat.le_of_ble_eq_true rfl⟩, hG _ wi_X4_allowanceOf, hG _ wse_X4_X4_allowanceOf⟩ (zpreV (va_recv hX.1 hP (ci := 4) (q0 := 2) rfl rfl) hX hP hD hS hA [2, 5] rfl (by decide)) rfl rfl hl.1 rfl (lv_room (Nat.le_of_ble_eq_true rfl)) dX1_explains_3 ⟨Nat.le_of_ble_eq_true rfl, Nat.le_of_ble_eq_true rfl⟩) hP hD hS hA [2, 5] [0, 1, 3, 4, 6, 7] rfl rfl (by decide) (by decide) (fun r1 _ H locs hp hP hD hS => ?_)
  refine W.cs (cells' := 0) (slots' := 0) rfl rfl ?_
  have hP : va_P g.1 vwCl [(h0, .inr (1, [.ref h0_flanges, .ref h0_lengths, .int h0_rows])), (h0_flanges, .inl (g.2.1.1, 8, .inl f_h0_flanges)), (y1_parent, .inl (g.2.1.1, 9, .inl f_y1_parent)), (y1_radius, .inl (g.2.1.1, 9, .inl f_y1_radius)), (y1_height, .inl (g.2.1.1, 9, .inl f_y1_height)), (h0_lengths, .inl (g.2.1.1, 8, .inl f_h0_lengths)), (y1, .inr (4, [.int y1_count, .int y1_statements, .int y1_thick, .int y1_punch, .int y1_ups, .int y1_toolCount, .ref y1_toolWidth, .ref y1_told, .ref y1_name, .ref y1_parent, .ref y1_side, .ref y1_from, .ref y1_width, .ref y1_height, .ref y1_radius, .ref y1_toolSet])), (y1_told, .inl (g.2.1.1, 10, .inl f_y1_told))] H := hP
  have hD : va_D A [(h0, .inr (1, [.ref h0_flanges, .ref h0_lengths, .int h0_rows])), (h0_flanges, .inl (g.2.1.1, 8, .inl f_h0_flanges)), (y1_parent, .inl (g.2.1.1, 9, .inl f_y1_parent)), (y1_radius, .inl (g.2.1.1, 9, .inl f_y1_radius)), (y1_height, .inl (g.2.1.1, 9, .inl f_y1_height)), (h0_lengths, .inl (g.2.1.1, 8, .inl f_h0_lengths)), (y1, .inr (4, [.int y1_count, .int y1_statements, .int y1_thick, .int y1_punch, .int y1_ups, .int y1_toolCount, .ref y1_toolWidth, .ref y1_told, .ref y1_name, .ref y1_parent, .ref y1_side, .ref y1_from, .ref y1_width, .ref y1_height, .ref y1_radius, .ref y1_toolSet])), (y1_told, .inl (g.2.1.1, 10, .inl f_y1_told))] := hD
  refine lv_isub hx hb dX1_explains_6 ?_
  refine lv_topi (fun z2 e3 => ?_)
  refine lv_istore (lv' := [(4, .int z2), (0, .ref h0), (1, .ref y1), (2, .int x2), (3, .int x3)]) hx hb dX1_explains_7 hl (by decide) rfl (fun ls hl => ?_)
  refine lv_iconst (v := 1) hx hb dX1_explains_9 (by decide) ?_
  refine lv_istore (lv' := [(5, .int 1), (4, .int z2), (0, .ref h0), (1, .ref y1), (2, .int x2), (3, .int x3)]) hx hb dX1_explains_10 hl (by decide) rfl (fun ls hl => ?_)
  refine lv_iconst (v := 0) hx hb dX1_explains_12 (by decide) ?_
  refine lv_istore (lv' := [(6, .int 0), (5, .int 1), (4, .int z2), (0, .ref h0), (1, .ref y1), (2, .int x2), (3, .int x3)]) hx hb dX1_explains_13 hl (by decide) rfl (fun ls hl => ?_)
  have L189 : ∀ (n : Nat) (v165 : Int32) (v166 : Int32) (H : Heap) (locs : List Loc) (ls : Array Slot), 0 ≤ v165.toInt ∧ v165.toInt ≤ 1 → 0 ≤ v166.toInt ∧ v166.toInt ≤ 8 → (9 - v166.toInt).toNat < n → va_P g.1 vwCl [(h0, .inr (1, [.ref h0_flanges, .ref h0_lengths, .int h0_rows])), (h0_flanges, .inl (g.2.1.1, 8, .inl f_h0_flanges)), (y1_parent, .inl (g.2.1.1, 9, .inl f_y1_parent)), (y1_radius, .inl (g.2.1.1, 9, .inl f_y1_radius)), (y1_height, .inl (g.2.1.1, 9, .inl f_y1_height)), (h0_lengths, .inl (g.2.1.1, 8, .inl f_h0_lengths)), (y1, .inr (4, [.int y1_count, .int y1_statements, .int y1_thick, .int y1_punch, .int y1_ups, .int y1_toolCount, .ref y1_toolWidth, .ref y1_told, .ref y1_name, .ref y1_parent, .ref y1_side, .ref y1_from, .ref y1_width, .ref y1_height, .ref y1_radius, .ref y1_toolSet])), (y1_told, .inl (g.2.1.1, 10, .inl f_y1_told))] H → va_D A [(h0, .inr (1, [.ref h0_flanges, .ref h0_lengths, .int h0_rows])), (h0_flanges, .inl (g.2.1.1, 8, .inl f_h0_flanges)), (y1_parent, .inl (g.2.1.1, 9, .inl f_y1_parent)), (y1_radius, .inl (g.2.1.1, 9, .inl f_y1_radius)), (y1_height, .inl (g.2.1.1, 9, .inl f_y1_height)), (h0_lengths, .inl (g.2.1.1, 8, .inl f_h0_lengths)), (y1, .inr (4, [.int y1_count, .int y1_statements, .int y1_thick, .int y1_punch, .int y1_ups, .int y1_toolCount, .ref y1_toolWidth, .ref y1_told, .ref y1_name, .ref y1_parent, .ref y1_side, .ref y1_from, .ref y1_width, .ref y1_height, .ref y1_radius, .ref y1_toolSet])), (y1_told, .inl (g.2.1.1, 10, .inl f_y1_told))] → va_S A s.heap H locs → lv_has ls 8 [(0, .ref h0), (1, .ref y1), (2, .int x2), (3, .int x3), (4, .int z2), (5, .int v165), (6, .int v166)] → W p l e rm_kX1_explains s m args below meth c H locs 0 0 Q (F0 m 15 ls []) := by
    intro n190
    induction n190 with
    | zero => intro v165 v166 H locs ls i192 i193 hm194; exact absurd hm194 (Nat.not_lt_zero _)
    | succ n190 ih191 =>
      intro v165 v166 H locs ls i192 i193 hm194 hP hD hS hl
      refine lv_iload hx hb dX1_explains_15 (lv_at hl 5 rfl) ?_
      refine lv_if_eq (tgt := 78) hx hb dX1_explains_17 (by decide) (fun c195 => ?_) (fun c195 => ?_)
      · skip
        have c195i : v165.toInt = (0 : Int) := (zc_eq (rfl : v165.toInt = _) (show (0 : Int32).toInt = (0 : Int) from by decide)).mp c195
        refine lv_iload hx hb dX1_explains_78 (lv_at hl 5 rfl) ?_
        exact hret v165 () (Nat.le_of_ble_eq_true rfl) (Nat.le_of_ble_eq_true rfl) (z01 (rfl : v165.toInt = _) (ox_476 c195i i192)) (ox_476 c195i i192) (hP.sub [0, 1, 6, 2, 3, 7, 4, 5] rfl) (hD.sub [0, 1, 6, 2, 3, 7, 4, 5] (by decide) rfl) hS dX1_explains_80
      · skip
        have c195i : ¬ (v165.toInt = (0 : Int)) := fun q => c195 ((zc_eq (rfl : v165.toInt = _) (show (0 : Int32).toInt = (0 : Int) from by decide)).mpr q)
        refine lv_iload hx hb dX1_explains_20 (lv_at hl 6 rfl) ?_
        refine lv_aload_n hx hb dX1_explains_22 rfl (lv_at hl 0 rfl) ?_
        refine va_get (D := g.1) (ci := 1) (v := .int h0_rows) (C := RX1) (T := TX1) (N := 3) hx hb hG iX1 hown hX.1 hP 0 rfl rfl 2 (by decide) (hG _ wf_X1_34) (fun _ h9 => h9) rfl dX1_explains_23 ?_
        refine lv_icmp_ge (tgt := 78) hx hb dX1_explains_26 (by decide) (fun c196 => ?_) (fun c196 => ?_)
        · skip
          have c196i : h0_rows.toInt ≤ v166.toInt := (zc_le (rfl : h0_rows.toInt = _) (rfl : v166.toInt = _)).mp c196
          refine lv_iload hx hb dX1_explains_78 (lv_at hl 5 rfl) ?_
          exact hret v165 () (Nat.le_of_ble_eq_true rfl) (Nat.le_of_ble_eq_true rfl) (z01 (rfl : v165.toInt = _) (ox_477 c195i i192)) (ox_477 c195i i192) (hP.sub [0, 1, 6, 2, 3, 7, 4, 5] rfl) (hD.sub [0, 1, 6, 2, 3, 7, 4, 5] (by decide) rfl) hS dX1_explains_80
        · skip
          have c196i : ¬ (h0_rows.toInt ≤ v166.toInt) := fun q => c196 ((zc_le (rfl : h0_rows.toInt = _) (rfl : v166.toInt = _)).mpr q)
          refine lv_aload_n hx hb dX1_explains_29 rfl (lv_at hl 0 rfl) ?_
          refine va_get (D := g.1) (ci := 1) (v := .ref h0_flanges) (C := RX1) (T := TX1) (N := 3) hx hb hG iX1 hown hX.1 hP 0 rfl rfl 0 (by decide) (hG _ wf_X1_11) (fun _ h9 => h9) rfl dX1_explains_30 ?_
          refine lv_iload hx hb dX1_explains_33 (lv_at hl 6 rfl) ?_
          refine va_iald hx hb hX.1 hP 1 0 rfl rfl (zin (rfl : v166.toInt = _) (ox_32 c196i hy1 i193)) dX1_explains_35 ?_
          refine lv_topi (fun z197 e198 => ?_)
          have f199 : 1 ≤ z197.toInt ∧ z197.toInt < y1_count.toInt := hy7.at e198 (rfl : v166.toInt = _) (rfl : h0_rows.toInt = _) (rfl : y1_count.toInt = _) (ox_663 c196i hy1 i193)
          refine lv_istore (lv' := [(7, .int z197), (0, .ref h0), (1, .ref y1), (2, .int x2), (3, .int x3), (4, .int z2), (5, .int v165), (6, .int v166)]) hx hb dX1_explains_36 hl (by decide) rfl (fun ls hl => ?_)
          refine lv_aload_n hx hb dX1_explains_38 rfl (lv_at hl 2 rfl) ?_
          refine lv_iload hx hb dX1_explains_39 (lv_at hl 0 rfl) ?_
          refine zfi (wr := [(h0, .inr (1, [.ref h0_flanges, .ref h0_lengths, .int h0_rows])), (h0_flanges, .inl (g.2.1.1, 8, .inl f_h0_flanges)), (h0_lengths, .inl (g.2.1.1, 8, .inl f_h0_lengths))]) (va_runVN (As := [.int z197]) (rest := []) ⟨hx, hb, hml, hown, hG⟩ (kX4_lengthOf l g y1 z197 y1_count y1_statements y1_thick y1_punch y1_ups y1_toolCount y1_toolWidth y1_told y1_name y1_parent y1_side y1_from y1_width y1_height y1_radius y1_toolSet f_y1_parent f_y1_radius f_y1_height f_y1_told (ox_664 f199 hy3) (ox_665 f199 hy3) (ox_1 hy4) hy5 trivial hy8 (ox_666 f199 hy3) _) ⟨va_cnB 1 hG (zGood wc_X4_lengthOf) rfl rfl rfl (hX.2.1.ml wmn_X1_40) (hG _ wini_X4) hX4_lengthOf ⟨Nat.le_of_ble_eq_true rfl, Nat.le_of_ble_eq_true rfl⟩, hG _ wi_X4_lengthOf, hG _ wse_X4_X4_lengthOf⟩ (zpreV (va_recv hX.1 hP (ci := 4) (q0 := 6) rfl rfl) hX hP hD hS hA [6, 2, 3, 4, 7] rfl (by decide)) rfl rfl hl.1 rfl (lv_room (Nat.le_of_ble_eq_true rfl)) dX1_explains_41 ⟨Nat.le_of_ble_eq_true rfl, Nat.le_of_ble_eq_true rfl⟩) hP hD hS hA [6, 2, 3, 4, 7] [0, 1, 5] rfl rfl (by decide) (by decide) (fun r200 _ H locs hp hP hD hS => ?_)
          refine W.cs (cells' := 0) (slots' := 0) rfl rfl ?_
          have hP : va_P g.1 vwCl [(h0, .inr (1, [.ref h0_flanges, .ref h0_lengths, .int h0_rows])), (h0_flanges, .inl (g.2.1.1, 8, .inl f_h0_flanges)), (h0_lengths, .inl (g.2.1.1, 8, .inl f_h0_lengths)), (y1, .inr (4, [.int y1_count, .int y1_statements, .int y1_thick, .int y1_punch, .int y1_ups, .int y1_toolCount, .ref y1_toolWidth, .ref y1_told, .ref y1_name, .ref y1_parent, .ref y1_side, .ref y1_from, .ref y1_width, .ref y1_height, .ref y1_radius, .ref y1_toolSet])), (y1_parent, .inl (g.2.1.1, 9, .inl f_y1_parent)), (y1_radius, .inl (g.2.1.1, 9, .inl f_y1_radius)), (y1_height, .inl (g.2.1.1, 9, .inl f_y1_height)), (y1_told, .inl (g.2.1.1, 10, .inl f_y1_told))] H := hP
          have hD : va_D A [(h0, .inr (1, [.ref h0_flanges, .ref h0_lengths, .int h0_rows])), (h0_flanges, .inl (g.2.1.1, 8, .inl f_h0_flanges)), (h0_lengths, .inl (g.2.1.1, 8, .inl f_h0_lengths)), (y1, .inr (4, [.int y1_count, .int y1_statements, .int y1_thick, .int y1_punch, .int y1_ups, .int y1_toolCount, .ref y1_toolWidth, .ref y1_told, .ref y1_name, .ref y1_parent, .ref y1_side, .ref y1_from, .ref y1_width, .ref y1_height, .ref y1_radius, .ref y1_toolSet])), (y1_parent, .inl (g.2.1.1, 9, .inl f_y1_parent)), (y1_radius, .inl (g.2.1.1, 9, .inl f_y1_radius)), (y1_height, .inl (g.2.1.1, 9, .inl f_y1_height)), (y1_told, .inl (g.2.1.1, 10, .inl f_y1_told))] := hD
          refine lv_iload hx hb dX1_explains_44 (lv_at hl 5 rfl) ?_
          refine lv_aload_n hx hb dX1_explains_46 rfl (lv_at hl 2 rfl) ?_
          refine lv_iload hx hb dX1_explains_47 (lv_at hl 0 rfl) ?_
          refine lv_iload_n hx hb dX1_explains_49 rfl (lv_at hl 3 rfl) ?_
          refine zfi (wr := [(h0, .inr (1, [.ref h0_flanges, .ref h0_lengths, .int h0_rows])), (h0_flanges, .inl (g.2.1.1, 8, .inl f_h0_flanges)), (h0_lengths, .inl (g.2.1.1, 8, .inl f_h0_lengths)), (y1_height, .inl (g.2.1.1, 9, .inl f_y1_height)), (y1_told, .inl (g.2.1.1, 10, .inl f_y1_told))]) (va_runVN (As := [.int z197, .int x2]) (rest := [.int z2, .int r200]) ⟨hx, hb, hml, hown, hG⟩ (kX4_timesInLength l g y1 z197 x2 y1_count y1_statements y1_thick y1_punch y1_ups y1_toolCount y1_toolWidth y1_told y1_name y1_parent y1_side y1_from y1_width y1_height y1_radius y1_toolSet f_y1_radius f_y1_parent (ox_664 f199 hy3) (ox_665 f199 hy3) (ox_1 hy4) trivial hy5 _) ⟨va_cnB 2 hG (zGood wc_X4_timesInLength) rfl rfl rfl (hX.2.1.ml wmn_X1_43) (hG _ wini_X4) hX4_timesInLength ⟨Nat.le_of_ble_eq_true rfl, Nat.le_of_ble_eq_true rfl⟩, hG _ wi_X4_timesInLength, hG _ wse_X4_X4_timesInLength⟩ (zpreV (va_recv hX.1 hP (ci := 4) (q0 := 3) rfl rfl) hX hP hD hS hA [3, 5, 4] rfl (by decide)) rfl rfl hl.1 rfl (lv_room (Nat.le_of_ble_eq_true rfl)) dX1_explains_50 ⟨Nat.le_of_ble_eq_true rfl, Nat.le_of_ble_eq_true rfl⟩) hP hD hS hA [3, 5, 4] [0, 1, 2, 6, 7] rfl rfl (by decide) (by decide) (fun r201 _ H locs hp hP hD hS => ?_)
          refine W.cs (cells' := 0) (slots' := 0) rfl rfl ?_
          have hP : va_P g.1 vwCl [(h0, .inr (1, [.ref h0_flanges, .ref h0_lengths, .int h0_rows])), (h0_flanges, .inl (g.2.1.1, 8, .inl f_h0_flanges)), (h0_lengths, .inl (g.2.1.1, 8, .inl f_h0_lengths)), (y1_height, .inl (g.2.1.1, 9, .inl f_y1_height)), (y1_told, .inl (g.2.1.1, 10, .inl f_y1_told)), (y1, .inr (4, [.int y1_count, .int y1_statements, .int y1_thick, .int y1_punch, .int y1_ups, .int y1_toolCount, .ref y1_toolWidth, .ref y1_told, .ref y1_name, .ref y1_parent, .ref y1_side, .ref y1_from, .ref y1_width, .ref y1_height, .ref y1_radius, .ref y1_toolSet])), (y1_radius, .inl (g.2.1.1, 9, .inl f_y1_radius)), (y1_parent, .inl (g.2.1.1, 9, .inl f_y1_parent))] H := hP
          have hD : va_D A [(h0, .inr (1, [.ref h0_flanges, .ref h0_lengths, .int h0_rows])), (h0_flanges, .inl (g.2.1.1, 8, .inl f_h0_flanges)), (h0_lengths, .inl (g.2.1.1, 8, .inl f_h0_lengths)), (y1_height, .inl (g.2.1.1, 9, .inl f_y1_height)), (y1_told, .inl (g.2.1.1, 10, .inl f_y1_told)), (y1, .inr (4, [.int y1_count, .int y1_statements, .int y1_thick, .int y1_punch, .int y1_ups, .int y1_toolCount, .ref y1_toolWidth, .ref y1_told, .ref y1_name, .ref y1_parent, .ref y1_side, .ref y1_from, .ref y1_width, .ref y1_height, .ref y1_radius, .ref y1_toolSet])), (y1_radius, .inl (g.2.1.1, 9, .inl f_y1_radius)), (y1_parent, .inl (g.2.1.1, 9, .inl f_y1_parent))] := hD
          refine lv_imul hx hb dX1_explains_53 ?_
          refine lv_topi (fun z202 e203 => ?_)
          refine lv_iadd hx hb dX1_explains_54 ?_
          refine lv_topi (fun z204 e205 => ?_)
          refine lv_aload_n hx hb dX1_explains_55 rfl (lv_at hl 1 rfl) ?_
          refine va_get (D := g.1) (ci := 1) (v := .ref h0_lengths) (C := RX1) (T := TX1) (N := 3) hx hb hG iX1 hown hX.1 hP 0 rfl rfl 1 (by decide) (hG _ wf_X1_15) (fun _ h9 => h9) rfl dX1_explains_56 ?_
          refine lv_iload hx hb dX1_explains_59 (lv_at hl 7 rfl) ?_
          refine va_iald hx hb hX.1 hP 2 0 rfl rfl (zin (rfl : v166.toInt = _) (ox_32 c196i hy1 i193)) dX1_explains_61 ?_
          refine lv_topi (fun z206 e207 => ?_)
          have J210 : ∀  (v209 : Int32) (H : Heap) (locs : List Loc) (ls : Array Slot), 0 ≤ v209.toInt ∧ v209.toInt ≤ 1 → va_P g.1 vwCl [(h0, .inr (1, [.ref h0_flanges, .ref h0_lengths, .int h0_rows])), (h0_flanges, .inl (g.2.1.1, 8, .inl f_h0_flanges)), (h0_lengths, .inl (g.2.1.1, 8, .inl f_h0_lengths)), (y1_height, .inl (g.2.1.1, 9, .inl f_y1_height)), (y1_told, .inl (g.2.1.1, 10, .inl f_y1_told)), (y1, .inr (4, [.int y1_count, .int y1_statements, .int y1_thick, .int y1_punch, .int y1_ups, .int y1_toolCount, .ref y1_toolWidth, .ref y1_told, .ref y1_name, .ref y1_parent, .ref y1_side, .ref y1_from, .ref y1_width, .ref y1_height, .ref y1_radius, .ref y1_toolSet])), (y1_radius, .inl (g.2.1.1, 9, .inl f_y1_radius)), (y1_parent, .inl (g.2.1.1, 9, .inl f_y1_parent))] H → va_D A [(h0, .inr (1, [.ref h0_flanges, .ref h0_lengths, .int h0_rows])), (h0_flanges, .inl (g.2.1.1, 8, .inl f_h0_flanges)), (h0_lengths, .inl (g.2.1.1, 8, .inl f_h0_lengths)), (y1_height, .inl (g.2.1.1, 9, .inl f_y1_height)), (y1_told, .inl (g.2.1.1, 10, .inl f_y1_told)), (y1, .inr (4, [.int y1_count, .int y1_statements, .int y1_thick, .int y1_punch, .int y1_ups, .int y1_toolCount, .ref y1_toolWidth, .ref y1_told, .ref y1_name, .ref y1_parent, .ref y1_side, .ref y1_from, .ref y1_width, .ref y1_height, .ref y1_radius, .ref y1_toolSet])), (y1_radius, .inl (g.2.1.1, 9, .inl f_y1_radius)), (y1_parent, .inl (g.2.1.1, 9, .inl f_y1_parent))] → va_S A s.heap H locs → lv_has ls 8 [(0, .ref h0), (1, .ref y1), (2, .int x2), (3, .int x3), (4, .int z2), (5, .int v165), (6, .int v166), (7, .int z197)] → W p l e rm_kX1_explains s m args below meth c H locs 0 0 Q (F0 m 70 ls [.int v209]) := by
            intro v209 H locs ls i211 hP hD hS hl
            refine lv_istore (lv' := [(5, .int v209), (0, .ref h0), (1, .ref y1), (2, .int x2), (3, .int x3), (4, .int z2), (6, .int v166), (7, .int z197)]) hx hb dX1_explains_70 hl (by decide) rfl (fun ls hl => ?_)
            obtain ⟨z212, e213⟩ : ∃ y9 : Int32, y9 = v166 + 1 := ⟨_, rfl⟩
            have f214 : z212.toInt = v166.toInt + 1 := za e213 (rfl : v166.toInt = _) (show (1 : Int32).toInt = (1 : Int) from by decide) (ox_29 (zr h0_rows) (zr v166) c196i hy1 i193)
            refine lv_iinc (v := z212) (lv' := [(6, .int z212), (5, .int v209), (0, .ref h0), (1, .ref y1), (2, .int x2), (3, .int x3), (4, .int z2), (7, .int z197)]) hx hb dX1_explains_72 hl (k := 6) rfl (by rw [e213]; rfl) (by decide) rfl (fun ls hl => ?_)
            refine lv_goto (tgt := 15) hx hb dX1_explains_75 (by decide) ?_
            exact ih191 v209 z212 H locs ls (ox_33 i211) (ox_30 c196i f214 hy1 i193) (zdec hm194 (ox_31 c196i f214 hy1 i193)) (hP.sub [0, 1, 7, 6, 3, 2, 5, 4] rfl) (hD.sub [0, 1, 7, 6, 3, 2, 5, 4] (by decide) rfl) hS (lv_sub hl [2, 3, 4, 5, 6, 1, 0] rfl)
          refine lv_icmp_ne (tgt := 69) hx hb dX1_explains_62 (by decide) (fun c215 => ?_) (fun c215 => ?_)
          · skip
            have c215i : ¬ (z204.toInt = z206.toInt) := fun q => c215 ((zc_eq (rfl : z204.toInt = _) (rfl : z206.toInt = _)).mpr q)
            refine lv_iconst (v := 0) hx hb dX1_explains_69 (by decide) ?_
            exact J210 (0 : Int32) H locs ls ((show 0 ≤ (0 : Int) ∧ (0 : Int) ≤ 1 from by decide)) hP hD hS (lv_sub hl [1, 2, 3, 4, 5, 6, 7, 0] rfl)
          · skip
            have c215i : z204.toInt = z206.toInt := (zc_eq (rfl : z204.toInt = _) (rfl : z206.toInt = _)).mp c215
            refine lv_iconst (v := 1) hx hb dX1_explains_65 (by decide) ?_
            refine lv_goto (tgt := 70) hx hb dX1_explains_66 (by decide) ?_
            exact J210 (1 : Int32) H locs ls ((show 0 ≤ (1 : Int) ∧ (1 : Int) ≤ 1 from by decide)) hP hD hS (lv_sub hl [1, 2, 3, 4, 5, 6, 7, 0] rfl)
  exact L189 _ (1 : Int32) (0 : Int32) H locs ls ((show 0 ≤ (1 : Int) ∧ (1 : Int) ≤ 1 from by decide)) ((show 0 ≤ (0 : Int) ∧ (0 : Int) ≤ 8 from by decide)) (Nat.lt_succ_self _) hP hD hS (lv_sub hl [3, 4, 5, 6, 2, 1, 0] rfl)
theorem dX1_fitAt_0 : decode cX1_fitAt 0 = .ok (.iconst 0, 1) := by decide +kernel
theorem dX1_fitAt_1 : decode cX1_fitAt 1 = .ok (.istore 4, 2) := by decide +kernel
theorem dX1_fitAt_3 : decode cX1_fitAt 3 = .ok (.iconst 0, 1) := by decide +kernel
theorem dX1_fitAt_4 : decode cX1_fitAt 4 = .ok (.istore 5, 2) := by decide +kernel
theorem dX1_fitAt_6 : decode cX1_fitAt 6 = .ok (.iload 5, 2) := by decide +kernel
theorem dX1_fitAt_8 : decode cX1_fitAt 8 = .ok (.bipush 60, 2) := by decide +kernel
theorem dX1_fitAt_10 : decode cX1_fitAt 10 = .ok (.if_icmp .gt 32, 3) := by decide +kernel
theorem dX1_fitAt_42 : decode cX1_fitAt 42 = .ok (.iload_n 3, 1) := by decide +kernel
theorem dX1_fitAt_43 : decode cX1_fitAt 43 = .ok (.iconst (-1), 1) := by decide +kernel
theorem dX1_fitAt_44 : decode cX1_fitAt 44 = .ok (.if_icmp .ne 8, 3) := by decide +kernel
theorem dX1_fitAt_52 : decode cX1_fitAt 52 = .ok (.iconst (-1), 1) := by decide +kernel
theorem dX1_fitAt_53 : decode cX1_fitAt 53 = .ok (.ireturn, 1) := by decide +kernel
theorem dX1_fitAt_47 : decode cX1_fitAt 47 = .ok (.iload 4, 2) := by decide +kernel
theorem dX1_fitAt_49 : decode cX1_fitAt 49 = .ok (.goto 4, 3) := by decide +kernel
theorem dX1_fitAt_13 : decode cX1_fitAt 13 = .ok (.aload_n 0, 1) := by decide +kernel
theorem dX1_fitAt_14 : decode cX1_fitAt 14 = .ok (.aload_n 1, 1) := by decide +kernel
theorem dX1_fitAt_15 : decode cX1_fitAt 15 = .ok (.iload_n 2, 1) := by decide +kernel
theorem dX1_fitAt_16 : decode cX1_fitAt 16 = .ok (.iload 5, 2) := by decide +kernel
theorem dX1_fitAt_18 : decode cX1_fitAt 18 = .ok (.invokevirtual 47, 3) := by decide +kernel
theorem dX1_fitAt_36 : decode cX1_fitAt 36 = .ok (.iinc 5 1, 3) := by decide +kernel
theorem dX1_fitAt_39 : decode cX1_fitAt 39 = .ok (.goto (-33), 3) := by decide +kernel
theorem dX1_fitAt_21 : decode cX1_fitAt 21 = .ok (.ifCond .eq 15, 3) := by decide +kernel
theorem dX1_fitAt_24 : decode cX1_fitAt 24 = .ok (.iload 4, 2) := by decide +kernel
theorem dX1_fitAt_26 : decode cX1_fitAt 26 = .ok (.iload_n 3, 1) := by decide +kernel
theorem dX1_fitAt_27 : decode cX1_fitAt 27 = .ok (.if_icmp .ne 6, 3) := by decide +kernel
theorem dX1_fitAt_33 : decode cX1_fitAt 33 = .ok (.iinc 4 1, 3) := by decide +kernel
theorem dX1_fitAt_30 : decode cX1_fitAt 30 = .ok (.iload 5, 2) := by decide +kernel
theorem dX1_fitAt_32 : decode cX1_fitAt 32 = .ok (.ireturn, 1) := by decide +kernel
abbrev rm_kX1_fitAt : Room := { frames := 4, cells := 0, slots := 0, locals := 93 }
set_option maxHeartbeats 4000000 in
set_option maxRecDepth 100000 in
theorem kX1_fitAt (l : Launch) (g : zL) (h0 : Nat) (y1 : Nat) (x2 : Int32) (x3 : Int32) (h0_flanges : Nat) (h0_lengths : Nat) (h0_rows : Int32) (f_h0_flanges : Nat → Int32) (y1_count : Int32) (y1_statements : Int32) (y1_thick : Int32) (y1_punch : Int32) (y1_ups : Int32) (y1_toolCount : Int32) (y1_toolWidth : Nat) (y1_told : Nat) (y1_name : Nat) (y1_parent : Nat) (y1_side : Nat) (y1_from : Nat) (y1_width : Nat) (y1_height : Nat) (y1_radius : Nat) (y1_toolSet : Nat) (f_y1_parent : Nat → Int32) (f_y1_radius : Nat → Int32) (f_y1_told : Nat → Int32) (f_y1_height : Nat → Int32) (f_h0_lengths : Nat → Int32) (hy0 : 0 ≤ x2.toInt ∧ x2.toInt ≤ 9) (hy1 : 0 ≤ h0_rows.toInt ∧ h0_rows.toInt ≤ 8) (hy2 : True) (hy3 : 0 ≤ y1_count.toInt ∧ y1_count.toInt ≤ 9) (hy4 : 0 ≤ y1_toolCount.toInt ∧ y1_toolCount.toInt ≤ 8) (hy5 : aI 0 8 f_y1_parent) (hy6 : True) (hy7 : pSn h0_rows y1_count f_h0_flanges) (hy8 : pOK y1_count f_y1_parent f_y1_radius) : zCi l g yX1_fitAt cX1_fitAt 6 (some .int) rm_kX1_fitAt [.ref h0, .ref y1, .int x2, .int x3] [(h0, .inr (1, [.ref h0_flanges, .ref h0_lengths, .int h0_rows])), (h0_flanges, .inl (g.2.1.1, 8, .inl f_h0_flanges)), (y1, .inr (4, [.int y1_count, .int y1_statements, .int y1_thick, .int y1_punch, .int y1_ups, .int y1_toolCount, .ref y1_toolWidth, .ref y1_told, .ref y1_name, .ref y1_parent, .ref y1_side, .ref y1_from, .ref y1_width, .ref y1_height, .ref y1_radius, .ref y1_toolSet])), (y1_parent, .inl (g.2.1.1, 9, .inl f_y1_parent)), (y1_radius, .inl (g.2.1.1, 9, .inl f_y1_radius)), (y1_told, .inl (g.2.1.1, 10, .inl f_y1_told)), (y1_height, .inl (g.2.1.1, 9, .inl f_y1_height)), (h0_lengths, .inl (g.2.1.1, 8, .inl f_h0_lengths))] (fun (r : Int32) (u : Unit) => True) (fun (u : Unit) => [(h0, .inr (1, [.ref h0_flanges, .ref h0_lengths, .int h0_rows])), (h0_flanges, .inl (g.2.1.1, 8, .inl f_h0_flanges)), (y1, .inr (4, [.int y1_count, .int y1_statements, .int y1_thick, .int y1_punch, .int y1_ups, .int y1_toolCount, .ref y1_toolWidth, .ref y1_told, .ref y1_name, .ref y1_parent, .ref y1_side, .ref y1_from, .ref y1_width, .ref y1_height, .ref y1_radius, .ref y1_toolSet])), (y1_parent, .inl (g.2.1.1, 9, .inl f_y1_parent)), (y1_radius, .inl (g.2.1.1, 9, .inl f_y1_radius)), (y1_told, .inl (g.2.1.1, 10, .inl f_y1_told)), (y1_height, .inl (g.2.1.1, 9, .inl f_y1_height)), (h0_lengths, .inl (g.2.1.1, 8, .inl f_h0_lengths))]) := by
  refine zCi.mk2 (by decide) (Nat.le_of_ble_eq_true rfl) ?_
  intro p e s m below meth c A args Q hE hret hP hD hS ls hl
  obtain ⟨hx, hb, hr, hml, hown, hG, hlocks, hnm, hX, hA⟩ := hE
  have hown : s.vm.findClass RX1 = some m.cls := hown
  have hl : lv_has ls 6 [(0, .ref h0), (1, .ref y1), (2, .int x2), (3, .int x3)] := hl
  refine lv_iconst (v := 0) hx hb dX1_fitAt_0 (by decide) ?_
  refine lv_istore (lv' := [(4, .int 0), (0, .ref h0), (1, .ref y1), (2, .int x2), (3, .int x3)]) hx hb dX1_fitAt_1 hl (by decide) rfl (fun ls hl => ?_)
  refine lv_iconst (v := 0) hx hb dX1_fitAt_3 (by decide) ?_
  refine lv_istore (lv' := [(5, .int 0), (4, .int 0), (0, .ref h0), (1, .ref y1), (2, .int x2), (3, .int x3)]) hx hb dX1_fitAt_4 hl (by decide) rfl (fun ls hl => ?_)
  have L175 : ∀ (n : Nat) (v156 : Int32) (v157 : Int32) (H : Heap) (locs : List Loc) (ls : Array Slot), 0 ≤ v157.toInt ∧ v157.toInt ≤ 61 → (62 - v157.toInt).toNat < n → va_P g.1 vwCl [(h0, .inr (1, [.ref h0_flanges, .ref h0_lengths, .int h0_rows])), (h0_flanges, .inl (g.2.1.1, 8, .inl f_h0_flanges)), (y1, .inr (4, [.int y1_count, .int y1_statements, .int y1_thick, .int y1_punch, .int y1_ups, .int y1_toolCount, .ref y1_toolWidth, .ref y1_told, .ref y1_name, .ref y1_parent, .ref y1_side, .ref y1_from, .ref y1_width, .ref y1_height, .ref y1_radius, .ref y1_toolSet])), (y1_parent, .inl (g.2.1.1, 9, .inl f_y1_parent)), (y1_radius, .inl (g.2.1.1, 9, .inl f_y1_radius)), (y1_told, .inl (g.2.1.1, 10, .inl f_y1_told)), (y1_height, .inl (g.2.1.1, 9, .inl f_y1_height)), (h0_lengths, .inl (g.2.1.1, 8, .inl f_h0_lengths))] H → va_D A [(h0, .inr (1, [.ref h0_flanges, .ref h0_lengths, .int h0_rows])), (h0_flanges, .inl (g.2.1.1, 8, .inl f_h0_flanges)), (y1, .inr (4, [.int y1_count, .int y1_statements, .int y1_thick, .int y1_punch, .int y1_ups, .int y1_toolCount, .ref y1_toolWidth, .ref y1_told, .ref y1_name, .ref y1_parent, .ref y1_side, .ref y1_from, .ref y1_width, .ref y1_height, .ref y1_radius, .ref y1_toolSet])), (y1_parent, .inl (g.2.1.1, 9, .inl f_y1_parent)), (y1_radius, .inl (g.2.1.1, 9, .inl f_y1_radius)), (y1_told, .inl (g.2.1.1, 10, .inl f_y1_told)), (y1_height, .inl (g.2.1.1, 9, .inl f_y1_height)), (h0_lengths, .inl (g.2.1.1, 8, .inl f_h0_lengths))] → va_S A s.heap H locs → lv_has ls 6 [(0, .ref h0), (1, .ref y1), (2, .int x2), (3, .int x3), (4, .int v156), (5, .int v157)] → W p l e rm_kX1_fitAt s m args below meth c H locs 0 0 Q (F0 m 6 ls []) := by
    intro n176
    induction n176 with
    | zero => intro v156 v157 H locs ls i178 hm179; exact absurd hm179 (Nat.not_lt_zero _)
    | succ n176 ih177 =>
      intro v156 v157 H locs ls i178 hm179 hP hD hS hl
      refine lv_iload hx hb dX1_fitAt_6 (lv_at hl 5 rfl) ?_
      refine lv_bipush (v := 60) hx hb dX1_fitAt_8 (by decide) ?_
      refine lv_icmp_gt (tgt := 42) hx hb dX1_fitAt_10 (by decide) (fun c180 => ?_) (fun c180 => ?_)
      · skip
        have c180i : (60 : Int) < v157.toInt := (zc_lt (show (60 : Int32).toInt = (60 : Int) from by decide) (rfl : v157.toInt = _)).mp c180
        refine lv_iload_n hx hb dX1_fitAt_42 rfl (lv_at hl 3 rfl) ?_
        refine lv_iconst (v := (-1)) hx hb dX1_fitAt_43 (by decide) ?_
        refine lv_icmp_ne (tgt := 52) hx hb dX1_fitAt_44 (by decide) (fun c181 => ?_) (fun c181 => ?_)
        · skip
          have c181i : ¬ (x3.toInt = (-1 : Int)) := fun q => c181 ((zc_eq (rfl : x3.toInt = _) (show (-1 : Int32).toInt = (-1 : Int) from by decide)).mpr q)
          refine lv_iconst (v := (-1)) hx hb dX1_fitAt_52 (by decide) ?_
          exact hret (-1 : Int32) () (Nat.le_of_ble_eq_true rfl) (Nat.le_of_ble_eq_true rfl) rfl trivial hP hD hS dX1_fitAt_53
        · skip
          have c181i : x3.toInt = (-1 : Int) := (zc_eq (rfl : x3.toInt = _) (show (-1 : Int32).toInt = (-1 : Int) from by decide)).mp c181
          refine lv_iload hx hb dX1_fitAt_47 (lv_at hl 4 rfl) ?_
          refine lv_goto (tgt := 53) hx hb dX1_fitAt_49 (by decide) ?_
          exact hret v156 () (Nat.le_of_ble_eq_true rfl) (Nat.le_of_ble_eq_true rfl) rfl trivial hP hD hS dX1_fitAt_53
      · skip
        have c180i : ¬ ((60 : Int) < v157.toInt) := fun q => c180 ((zc_lt (show (60 : Int32).toInt = (60 : Int) from by decide) (rfl : v157.toInt = _)).mpr q)
        refine lv_aload_n hx hb dX1_fitAt_13 rfl (lv_at hl 0 rfl) ?_
        refine lv_aload_n hx hb dX1_fitAt_14 rfl (lv_at hl 1 rfl) ?_
        refine lv_iload_n hx hb dX1_fitAt_15 rfl (lv_at hl 2 rfl) ?_
        refine lv_iload hx hb dX1_fitAt_16 (lv_at hl 5 rfl) ?_
        refine zfi (wr := []) (va_runV (As := [.ref y1, .int x2, .int v157]) (rest := []) ⟨hx, hb, hml, hown, hG⟩ (kX1_explains l g h0 y1 x2 v157 h0_flanges h0_lengths h0_rows f_h0_flanges y1_count y1_statements y1_thick y1_punch y1_ups y1_toolCount y1_toolWidth y1_told y1_name y1_parent y1_side y1_from y1_width y1_height y1_radius y1_toolSet f_y1_parent f_y1_radius f_y1_told f_y1_height f_h0_lengths (ox_0 hy0) (ox_1 hy1) trivial (ox_0 hy3) (ox_1 hy4) hy5 trivial hy7 hy8 _) ⟨callB_of 3 hG (zGood wc_X1_explains) rfl rfl rfl (hG _ wini_X1) (hG _ wm_X1_47) hX1_explains ⟨Nat.le_of_ble_eq_true rfl, Nat.le_of_ble_eq_true rfl⟩, hG _ wi_X1_explains, hG _ wse_X1_X1_explains⟩ (zpreV (va_recv hX.1 hP (ci := 1) (q0 := 0) rfl rfl) hX hP hD hS hA [0, 1, 2, 3, 4, 5, 6, 7] rfl (by decide)) rfl rfl hl.1 rfl (lv_room (Nat.le_of_ble_eq_true rfl)) dX1_fitAt_18 ⟨Nat.le_of_ble_eq_true rfl, Nat.le_of_ble_eq_true rfl⟩) hP hD hS hA [0, 1, 2, 3, 4, 5, 6, 7] [] rfl rfl (by decide) (by decide) (fun r182 _ H locs hp hP hD hS => ?_)
        refine W.cs (cells' := 0) (slots' := 0) rfl rfl ?_
        have hq183 : 0 ≤ r182.toInt ∧ r182.toInt ≤ 1 := hp
        have hP : va_P g.1 vwCl [(h0, .inr (1, [.ref h0_flanges, .ref h0_lengths, .int h0_rows])), (h0_flanges, .inl (g.2.1.1, 8, .inl f_h0_flanges)), (y1, .inr (4, [.int y1_count, .int y1_statements, .int y1_thick, .int y1_punch, .int y1_ups, .int y1_toolCount, .ref y1_toolWidth, .ref y1_told, .ref y1_name, .ref y1_parent, .ref y1_side, .ref y1_from, .ref y1_width, .ref y1_height, .ref y1_radius, .ref y1_toolSet])), (y1_parent, .inl (g.2.1.1, 9, .inl f_y1_parent)), (y1_radius, .inl (g.2.1.1, 9, .inl f_y1_radius)), (y1_told, .inl (g.2.1.1, 10, .inl f_y1_told)), (y1_height, .inl (g.2.1.1, 9, .inl f_y1_height)), (h0_lengths, .inl (g.2.1.1, 8, .inl f_h0_lengths))] H := hP
        have hD : va_D A [(h0, .inr (1, [.ref h0_flanges, .ref h0_lengths, .int h0_rows])), (h0_flanges, .inl (g.2.1.1, 8, .inl f_h0_flanges)), (y1, .inr (4, [.int y1_count, .int y1_statements, .int y1_thick, .int y1_punch, .int y1_ups, .int y1_toolCount, .ref y1_toolWidth, .ref y1_told, .ref y1_name, .ref y1_parent, .ref y1_side, .ref y1_from, .ref y1_width, .ref y1_height, .ref y1_radius, .ref y1_toolSet])), (y1_parent, .inl (g.2.1.1, 9, .inl f_y1_parent)), (y1_radius, .inl (g.2.1.1, 9, .inl f_y1_radius)), (y1_told, .inl (g.2.1.1, 10, .inl f_y1_told)), (y1_height, .inl (g.2.1.1, 9, .inl f_y1_height)), (h0_lengths, .inl (g.2.1.1, 8, .inl f_h0_lengths))] := hD
        have J189 : ∀  (v188 : Int32) (H : Heap) (locs : List Loc) (ls : Array Slot), va_P g.1 vwCl [(h0, .inr (1, [.ref h0_flanges, .ref h0_lengths, .int h0_rows])), (h0_flanges, .inl (g.2.1.1, 8, .inl f_h0_flanges)), (y1, .inr (4, [.int y1_count, .int y1_statements, .int y1_thick, .int y1_punch, .int y1_ups, .int y1_toolCount, .ref y1_toolWidth, .ref y1_told, .ref y1_name, .ref y1_parent, .ref y1_side, .ref y1_from, .ref y1_width, .ref y1_height, .ref y1_radius, .ref y1_toolSet])), (y1_parent, .inl (g.2.1.1, 9, .inl f_y1_parent)), (y1_radius, .inl (g.2.1.1, 9, .inl f_y1_radius)), (y1_told, .inl (g.2.1.1, 10, .inl f_y1_told)), (y1_height, .inl (g.2.1.1, 9, .inl f_y1_height)), (h0_lengths, .inl (g.2.1.1, 8, .inl f_h0_lengths))] H → va_D A [(h0, .inr (1, [.ref h0_flanges, .ref h0_lengths, .int h0_rows])), (h0_flanges, .inl (g.2.1.1, 8, .inl f_h0_flanges)), (y1, .inr (4, [.int y1_count, .int y1_statements, .int y1_thick, .int y1_punch, .int y1_ups, .int y1_toolCount, .ref y1_toolWidth, .ref y1_told, .ref y1_name, .ref y1_parent, .ref y1_side, .ref y1_from, .ref y1_width, .ref y1_height, .ref y1_radius, .ref y1_toolSet])), (y1_parent, .inl (g.2.1.1, 9, .inl f_y1_parent)), (y1_radius, .inl (g.2.1.1, 9, .inl f_y1_radius)), (y1_told, .inl (g.2.1.1, 10, .inl f_y1_told)), (y1_height, .inl (g.2.1.1, 9, .inl f_y1_height)), (h0_lengths, .inl (g.2.1.1, 8, .inl f_h0_lengths))] → va_S A s.heap H locs → lv_has ls 6 [(0, .ref h0), (1, .ref y1), (2, .int x2), (3, .int x3), (4, .int v188), (5, .int v157)] → W p l e rm_kX1_fitAt s m args below meth c H locs 0 0 Q (F0 m 36 ls []) := by
          intro v188 H locs ls  hP hD hS hl
          obtain ⟨z190, e191⟩ : ∃ y9 : Int32, y9 = v157 + 1 := ⟨_, rfl⟩
          have f192 : z190.toInt = v157.toInt + 1 := za e191 (rfl : v157.toInt = _) (show (1 : Int32).toInt = (1 : Int) from by decide) (ox_667 (zr v157) c180i i178)
          refine lv_iinc (v := z190) (lv' := [(5, .int z190), (0, .ref h0), (1, .ref y1), (2, .int x2), (3, .int x3), (4, .int v188)]) hx hb dX1_fitAt_36 hl (k := 5) rfl (by rw [e191]; rfl) (by decide) rfl (fun ls hl => ?_)
          refine lv_goto (tgt := 6) hx hb dX1_fitAt_39 (by decide) ?_
          exact ih177 v188 z190 H locs ls (ox_668 c180i f192 i178) (zdec hm179 (ox_669 c180i f192 i178)) hP hD hS (lv_sub hl [1, 2, 3, 4, 5, 0] rfl)
        refine lv_if_eq (tgt := 36) hx hb dX1_fitAt_21 (by decide) (fun c193 => ?_) (fun c193 => ?_)
        · skip
          have c193i : r182.toInt = (0 : Int) := (zc_eq (rfl : r182.toInt = _) (show (0 : Int32).toInt = (0 : Int) from by decide)).mp c193
          exact J189 v156 H locs ls  hP hD hS (lv_sub hl [0, 1, 2, 3, 4, 5] rfl)
        · skip
          have c193i : ¬ (r182.toInt = (0 : Int)) := fun q => c193 ((zc_eq (rfl : r182.toInt = _) (show (0 : Int32).toInt = (0 : Int) from by decide)).mpr q)
          refine lv_iload hx hb dX1_fitAt_24 (lv_at hl 4 rfl) ?_
          refine lv_iload_n hx hb dX1_fitAt_26 rfl (lv_at hl 3 rfl) ?_
          refine lv_icmp_ne (tgt := 33) hx hb dX1_fitAt_27 (by decide) (fun c194 => ?_) (fun c194 => ?_)
          · skip
            have c194i : ¬ (v156.toInt = x3.toInt) := fun q => c194 ((zc_eq (rfl : v156.toInt = _) (rfl : x3.toInt = _)).mpr q)
            obtain ⟨z195, e196⟩ : ∃ y9 : Int32, y9 = v156 + 1 := ⟨_, rfl⟩
            refine lv_iinc (v := z195) (lv' := [(4, .int z195), (0, .ref h0), (1, .ref y1), (2, .int x2), (3, .int x3), (5, .int v157)]) hx hb dX1_fitAt_33 hl (k := 4) rfl (by rw [e196]; rfl) (by decide) rfl (fun ls hl => ?_)
            exact J189 z195 H locs ls  hP hD hS (lv_sub hl [1, 2, 3, 4, 0, 5] rfl)
          · skip
            have c194i : v156.toInt = x3.toInt := (zc_eq (rfl : v156.toInt = _) (rfl : x3.toInt = _)).mp c194
            refine lv_iload hx hb dX1_fitAt_30 (lv_at hl 5 rfl) ?_
            exact hret v157 () (Nat.le_of_ble_eq_true rfl) (Nat.le_of_ble_eq_true rfl) rfl trivial hP hD hS dX1_fitAt_32
  exact L175 _ (0 : Int32) (0 : Int32) _ _ ls ((show 0 ≤ (0 : Int) ∧ (0 : Int) ≤ 61 from by decide)) (Nat.lt_succ_self _) hP hD hS (lv_sub hl [2, 3, 4, 5, 1, 0] rfl)
theorem dX1_mostLeft_0 : decode cX1_mostLeft 0 = .ok (.aload_n 1, 1) := by decide +kernel
theorem dX1_mostLeft_1 : decode cX1_mostLeft 1 = .ok (.iload_n 2, 1) := by decide +kernel
theorem dX1_mostLeft_2 : decode cX1_mostLeft 2 = .ok (.iload_n 3, 1) := by decide +kernel
theorem dX1_mostLeft_3 : decode cX1_mostLeft 3 = .ok (.invokevirtual 43, 3) := by decide +kernel
theorem dX1_mostLeft_6 : decode cX1_mostLeft 6 = .ok (.ifCond .le 7, 3) := by decide +kernel
theorem dX1_mostLeft_13 : decode cX1_mostLeft 13 = .ok (.iload 4, 2) := by decide +kernel
theorem dX1_mostLeft_15 : decode cX1_mostLeft 15 = .ok (.ireturn, 1) := by decide +kernel
theorem dX1_mostLeft_9 : decode cX1_mostLeft 9 = .ok (.iconst 1, 1) := by decide +kernel
theorem dX1_mostLeft_10 : decode cX1_mostLeft 10 = .ok (.goto 5, 3) := by decide +kernel
abbrev rm_kX1_mostLeft : Room := { frames := 1, cells := 0, slots := 0, locals := 25 }
set_option maxHeartbeats 4000000 in
set_option maxRecDepth 100000 in
theorem kX1_mostLeft (l : Launch) (g : zL) (h0 : Nat) (y1 : Nat) (x2 : Int32) (x3 : Int32) (x4 : Int32) (y1_count : Int32) (y1_statements : Int32) (y1_thick : Int32) (y1_punch : Int32) (y1_ups : Int32) (y1_toolCount : Int32) (y1_toolWidth : Nat) (y1_told : Nat) (y1_name : Nat) (y1_parent : Nat) (y1_side : Nat) (y1_from : Nat) (y1_width : Nat) (y1_height : Nat) (y1_radius : Nat) (y1_toolSet : Nat) (f_y1_radius : Nat → Int32) (f_y1_parent : Nat → Int32) (hy0 : 0 ≤ x2.toInt ∧ x2.toInt ≤ 8) (hy1 : 0 ≤ y1_count.toInt ∧ y1_count.toInt ≤ 9) (hy2 : 0 ≤ y1_toolCount.toInt ∧ y1_toolCount.toInt ≤ 8) (hy3 : True) (hy4 : aI 0 8 f_y1_parent) : zCi l g yX1_mostLeft cX1_mostLeft 5 (some .int) rm_kX1_mostLeft [.ref h0, .ref y1, .int x2, .int x3, .int x4] [(y1, .inr (4, [.int y1_count, .int y1_statements, .int y1_thick, .int y1_punch, .int y1_ups, .int y1_toolCount, .ref y1_toolWidth, .ref y1_told, .ref y1_name, .ref y1_parent, .ref y1_side, .ref y1_from, .ref y1_width, .ref y1_height, .ref y1_radius, .ref y1_toolSet])), (y1_radius, .inl (g.2.1.1, 9, .inl f_y1_radius)), (y1_parent, .inl (g.2.1.1, 9, .inl f_y1_parent))] (fun (r : Int32) (u : Unit) => True) (fun (u : Unit) => [(y1, .inr (4, [.int y1_count, .int y1_statements, .int y1_thick, .int y1_punch, .int y1_ups, .int y1_toolCount, .ref y1_toolWidth, .ref y1_told, .ref y1_name, .ref y1_parent, .ref y1_side, .ref y1_from, .ref y1_width, .ref y1_height, .ref y1_radius, .ref y1_toolSet])), (y1_radius, .inl (g.2.1.1, 9, .inl f_y1_radius)), (y1_parent, .inl (g.2.1.1, 9, .inl f_y1_parent))]) := by
  refine zCi.mk2 (by decide) (Nat.le_of_ble_eq_true rfl) ?_
  intro p e s m below meth c A args Q hE hret hP hD hS ls hl
  obtain ⟨hx, hb, hr, hml, hown, hG, hlocks, hnm, hX, hA⟩ := hE
  have hown : s.vm.findClass RX1 = some m.cls := hown
  have hl : lv_has ls 5 [(0, .ref h0), (1, .ref y1), (2, .int x2), (3, .int x3), (4, .int x4)] := hl
  refine lv_aload_n hx hb dX1_mostLeft_0 rfl (lv_at hl 1 rfl) ?_
  refine lv_iload_n hx hb dX1_mostLeft_1 rfl (lv_at hl 2 rfl) ?_
  refine lv_iload_n hx hb dX1_mostLeft_2 rfl (lv_at hl 3 rfl) ?_
  refine zfi (wr := []) (va_runVN (As := [.int x2, .int x3]) (rest := []) ⟨hx, hb, hml, hown, hG⟩ (kX4_timesInLength l g y1 x2 x3 y1_count y1_statements y1_thick y1_punch y1_ups y1_toolCount y1_toolWidth y1_told y1_name y1_parent y1_side y1_from y1_width y1_height y1_radius y1_toolSet f_y1_radius f_y1_parent (ox_1 hy0) (ox_0 hy1) (ox_1 hy2) trivial hy4 _) ⟨va_cnB 2 hG (zGood wc_X4_timesInLength) rfl rfl rfl (hX.2.1.ml wmn_X1_43) (hG _ wini_X4) hX4_timesInLength ⟨Nat.le_of_ble_eq_true rfl, Nat.le_of_ble_eq_true rfl⟩, hG _ wi_X4_timesInLength, hG _ wse_X4_X4_timesInLength⟩ (zpreV (va_recv hX.1 hP (ci := 4) (q0 := 0) rfl rfl) hX hP hD hS hA [0, 1, 2] rfl (by decide)) rfl rfl hl.1 rfl (lv_room (Nat.le_of_ble_eq_true rfl)) dX1_mostLeft_3 ⟨Nat.le_of_ble_eq_true rfl, Nat.le_of_ble_eq_true rfl⟩) hP hD hS hA [0, 1, 2] [] rfl rfl (by decide) (by decide) (fun r1 _ H locs hp hP hD hS => ?_)
  refine W.cs (cells' := 0) (slots' := 0) rfl rfl ?_
  have hP : va_P g.1 vwCl [(y1, .inr (4, [.int y1_count, .int y1_statements, .int y1_thick, .int y1_punch, .int y1_ups, .int y1_toolCount, .ref y1_toolWidth, .ref y1_told, .ref y1_name, .ref y1_parent, .ref y1_side, .ref y1_from, .ref y1_width, .ref y1_height, .ref y1_radius, .ref y1_toolSet])), (y1_radius, .inl (g.2.1.1, 9, .inl f_y1_radius)), (y1_parent, .inl (g.2.1.1, 9, .inl f_y1_parent))] H := hP
  have hD : va_D A [(y1, .inr (4, [.int y1_count, .int y1_statements, .int y1_thick, .int y1_punch, .int y1_ups, .int y1_toolCount, .ref y1_toolWidth, .ref y1_told, .ref y1_name, .ref y1_parent, .ref y1_side, .ref y1_from, .ref y1_width, .ref y1_height, .ref y1_radius, .ref y1_toolSet])), (y1_radius, .inl (g.2.1.1, 9, .inl f_y1_radius)), (y1_parent, .inl (g.2.1.1, 9, .inl f_y1_parent))] := hD
  refine lv_if_le (tgt := 13) hx hb dX1_mostLeft_6 (by decide) (fun c2 => ?_) (fun c2 => ?_)
  · skip
    have c2i : r1.toInt ≤ (0 : Int) := (zc_le (rfl : r1.toInt = _) (show (0 : Int32).toInt = (0 : Int) from by decide)).mp c2
    refine lv_iload hx hb dX1_mostLeft_13 (lv_at hl 4 rfl) ?_
    exact hret x4 () (Nat.le_of_ble_eq_true rfl) (Nat.le_of_ble_eq_true rfl) rfl trivial hP hD hS dX1_mostLeft_15
  · skip
    have c2i : ¬ (r1.toInt ≤ (0 : Int)) := fun q => c2 ((zc_le (rfl : r1.toInt = _) (show (0 : Int32).toInt = (0 : Int) from by decide)).mpr q)
    refine lv_iconst (v := 1) hx hb dX1_mostLeft_9 (by decide) ?_
    refine lv_goto (tgt := 15) hx hb dX1_mostLeft_10 (by decide) ?_
    exact hret (1 : Int32) () (Nat.le_of_ble_eq_true rfl) (Nat.le_of_ble_eq_true rfl) rfl trivial hP hD hS dX1_mostLeft_15
theorem dX1_tellingFlange_0 : decode cX1_tellingFlange 0 = .ok (.iconst 1, 1) := by decide +kernel
theorem dX1_tellingFlange_1 : decode cX1_tellingFlange 1 = .ok (.istore 4, 2) := by decide +kernel
theorem dX1_tellingFlange_3 : decode cX1_tellingFlange 3 = .ok (.iconst 2, 1) := by decide +kernel
theorem dX1_tellingFlange_4 : decode cX1_tellingFlange 4 = .ok (.istore 5, 2) := by decide +kernel
theorem dX1_tellingFlange_6 : decode cX1_tellingFlange 6 = .ok (.iload 5, 2) := by decide +kernel
theorem dX1_tellingFlange_8 : decode cX1_tellingFlange 8 = .ok (.aload_n 1, 1) := by decide +kernel
theorem dX1_tellingFlange_9 : decode cX1_tellingFlange 9 = .ok (.getfield 51, 3) := by decide +kernel
theorem dX1_tellingFlange_12 : decode cX1_tellingFlange 12 = .ok (.if_icmp .ge 34, 3) := by decide +kernel
theorem dX1_tellingFlange_46 : decode cX1_tellingFlange 46 = .ok (.iload 4, 2) := by decide +kernel
theorem dX1_tellingFlange_48 : decode cX1_tellingFlange 48 = .ok (.ireturn, 1) := by decide +kernel
theorem dX1_tellingFlange_15 : decode cX1_tellingFlange 15 = .ok (.aload_n 0, 1) := by decide +kernel
theorem dX1_tellingFlange_16 : decode cX1_tellingFlange 16 = .ok (.aload_n 1, 1) := by decide +kernel
theorem dX1_tellingFlange_17 : decode cX1_tellingFlange 17 = .ok (.iload 5, 2) := by decide +kernel
theorem dX1_tellingFlange_19 : decode cX1_tellingFlange 19 = .ok (.iload_n 2, 1) := by decide +kernel
theorem dX1_tellingFlange_20 : decode cX1_tellingFlange 20 = .ok (.iload_n 3, 1) := by decide +kernel
theorem dX1_tellingFlange_21 : decode cX1_tellingFlange 21 = .ok (.invokevirtual 54, 3) := by decide +kernel
theorem dX1_tellingFlange_24 : decode cX1_tellingFlange 24 = .ok (.aload_n 0, 1) := by decide +kernel
theorem dX1_tellingFlange_25 : decode cX1_tellingFlange 25 = .ok (.aload_n 1, 1) := by decide +kernel
theorem dX1_tellingFlange_26 : decode cX1_tellingFlange 26 = .ok (.iload 4, 2) := by decide +kernel
theorem dX1_tellingFlange_28 : decode cX1_tellingFlange 28 = .ok (.iload_n 2, 1) := by decide +kernel
theorem dX1_tellingFlange_29 : decode cX1_tellingFlange 29 = .ok (.iload_n 3, 1) := by decide +kernel
theorem dX1_tellingFlange_30 : decode cX1_tellingFlange 30 = .ok (.invokevirtual 54, 3) := by decide +kernel
theorem dX1_tellingFlange_40 : decode cX1_tellingFlange 40 = .ok (.iinc 5 1, 3) := by decide +kernel
theorem dX1_tellingFlange_43 : decode cX1_tellingFlange 43 = .ok (.goto (-37), 3) := by decide +kernel
theorem dX1_tellingFlange_33 : decode cX1_tellingFlange 33 = .ok (.if_icmp .ge 7, 3) := by decide +kernel
theorem dX1_tellingFlange_36 : decode cX1_tellingFlange 36 = .ok (.iload 5, 2) := by decide +kernel
theorem dX1_tellingFlange_38 : decode cX1_tellingFlange 38 = .ok (.istore 4, 2) := by decide +kernel
abbrev rm_kX1_tellingFlange : Room := { frames := 2, cells := 0, slots := 0, locals := 49 }
set_option maxHeartbeats 4000000 in
set_option maxRecDepth 100000 in
theorem kX1_tellingFlange (l : Launch) (g : zL) (h0 : Nat) (y1 : Nat) (x2 : Int32) (x3 : Int32) (y1_count : Int32) (y1_statements : Int32) (y1_thick : Int32) (y1_punch : Int32) (y1_ups : Int32) (y1_toolCount : Int32) (y1_toolWidth : Nat) (y1_told : Nat) (y1_name : Nat) (y1_parent : Nat) (y1_side : Nat) (y1_from : Nat) (y1_width : Nat) (y1_height : Nat) (y1_radius : Nat) (y1_toolSet : Nat) (f_y1_radius : Nat → Int32) (f_y1_parent : Nat → Int32) (h0_flanges : Nat) (h0_lengths : Nat) (h0_rows : Int32) (hy0 : 0 ≤ y1_count.toInt ∧ y1_count.toInt ≤ 9) (hy1 : 0 ≤ y1_toolCount.toInt ∧ y1_toolCount.toInt ≤ 8) (hy2 : True) (hy3 : aI 0 8 f_y1_parent) (hy4 : 0 ≤ h0_rows.toInt ∧ h0_rows.toInt ≤ 8) : zCi l g yX1_tellingFlange cX1_tellingFlange 6 (some .int) rm_kX1_tellingFlange [.ref h0, .ref y1, .int x2, .int x3] [(y1, .inr (4, [.int y1_count, .int y1_statements, .int y1_thick, .int y1_punch, .int y1_ups, .int y1_toolCount, .ref y1_toolWidth, .ref y1_told, .ref y1_name, .ref y1_parent, .ref y1_side, .ref y1_from, .ref y1_width, .ref y1_height, .ref y1_radius, .ref y1_toolSet])), (y1_radius, .inl (g.2.1.1, 9, .inl f_y1_radius)), (y1_parent, .inl (g.2.1.1, 9, .inl f_y1_parent)), (h0, .inr (1, [.ref h0_flanges, .ref h0_lengths, .int h0_rows]))] (fun (r : Int32) (u : Unit) => (1 ≤ r.toInt ∧ r.toInt ≤ 8)) (fun (u : Unit) => [(y1, .inr (4, [.int y1_count, .int y1_statements, .int y1_thick, .int y1_punch, .int y1_ups, .int y1_toolCount, .ref y1_toolWidth, .ref y1_told, .ref y1_name, .ref y1_parent, .ref y1_side, .ref y1_from, .ref y1_width, .ref y1_height, .ref y1_radius, .ref y1_toolSet])), (y1_radius, .inl (g.2.1.1, 9, .inl f_y1_radius)), (y1_parent, .inl (g.2.1.1, 9, .inl f_y1_parent)), (h0, .inr (1, [.ref h0_flanges, .ref h0_lengths, .int h0_rows]))]) := by
  refine zCi.mk2 (by decide) (Nat.le_of_ble_eq_true rfl) ?_
  intro p e s m below meth c A args Q hE hret hP hD hS ls hl
  obtain ⟨hx, hb, hr, hml, hown, hG, hlocks, hnm, hX, hA⟩ := hE
  have hown : s.vm.findClass RX1 = some m.cls := hown
  have hl : lv_has ls 6 [(0, .ref h0), (1, .ref y1), (2, .int x2), (3, .int x3)] := hl
  refine lv_iconst (v := 1) hx hb dX1_tellingFlange_0 (by decide) ?_
  refine lv_istore (lv' := [(4, .int 1), (0, .ref h0), (1, .ref y1), (2, .int x2), (3, .int x3)]) hx hb dX1_tellingFlange_1 hl (by decide) rfl (fun ls hl => ?_)
  refine lv_iconst (v := 2) hx hb dX1_tellingFlange_3 (by decide) ?_
  refine lv_istore (lv' := [(5, .int 2), (4, .int 1), (0, .ref h0), (1, .ref y1), (2, .int x2), (3, .int x3)]) hx hb dX1_tellingFlange_4 hl (by decide) rfl (fun ls hl => ?_)
  have L106 : ∀ (n : Nat) (v92 : Int32) (v93 : Int32) (H : Heap) (locs : List Loc) (ls : Array Slot), 1 ≤ v92.toInt ∧ v92.toInt ≤ 8 → 2 ≤ v93.toInt ∧ v93.toInt ≤ 9 → (10 - v93.toInt).toNat < n → va_P g.1 vwCl [(y1, .inr (4, [.int y1_count, .int y1_statements, .int y1_thick, .int y1_punch, .int y1_ups, .int y1_toolCount, .ref y1_toolWidth, .ref y1_told, .ref y1_name, .ref y1_parent, .ref y1_side, .ref y1_from, .ref y1_width, .ref y1_height, .ref y1_radius, .ref y1_toolSet])), (y1_radius, .inl (g.2.1.1, 9, .inl f_y1_radius)), (y1_parent, .inl (g.2.1.1, 9, .inl f_y1_parent)), (h0, .inr (1, [.ref h0_flanges, .ref h0_lengths, .int h0_rows]))] H → va_D A [(y1, .inr (4, [.int y1_count, .int y1_statements, .int y1_thick, .int y1_punch, .int y1_ups, .int y1_toolCount, .ref y1_toolWidth, .ref y1_told, .ref y1_name, .ref y1_parent, .ref y1_side, .ref y1_from, .ref y1_width, .ref y1_height, .ref y1_radius, .ref y1_toolSet])), (y1_radius, .inl (g.2.1.1, 9, .inl f_y1_radius)), (y1_parent, .inl (g.2.1.1, 9, .inl f_y1_parent)), (h0, .inr (1, [.ref h0_flanges, .ref h0_lengths, .int h0_rows]))] → va_S A s.heap H locs → lv_has ls 6 [(0, .ref h0), (1, .ref y1), (2, .int x2), (3, .int x3), (4, .int v92), (5, .int v93)] → W p l e rm_kX1_tellingFlange s m args below meth c H locs 0 0 Q (F0 m 6 ls []) := by
    intro n107
    induction n107 with
    | zero => intro v92 v93 H locs ls i109 i110 hm111; exact absurd hm111 (Nat.not_lt_zero _)
    | succ n107 ih108 =>
      intro v92 v93 H locs ls i109 i110 hm111 hP hD hS hl
      refine lv_iload hx hb dX1_tellingFlange_6 (lv_at hl 5 rfl) ?_
      refine lv_aload_n hx hb dX1_tellingFlange_8 rfl (lv_at hl 1 rfl) ?_
      refine va_getN (D := g.1) (ci := 4) (v := .int y1_count) (C := RX4) (T := TX4) (N := 16) hx hb hG iX4 hown hX.1 hP 0 rfl rfl 0 (by decide) (hX.2.1.fl wfn_X1_51) (fun _ h9 => h9) rfl dX1_tellingFlange_9 ?_
      refine lv_icmp_ge (tgt := 46) hx hb dX1_tellingFlange_12 (by decide) (fun c112 => ?_) (fun c112 => ?_)
      · skip
        have c112i : y1_count.toInt ≤ v93.toInt := (zc_le (rfl : y1_count.toInt = _) (rfl : v93.toInt = _)).mp c112
        refine lv_iload hx hb dX1_tellingFlange_46 (lv_at hl 4 rfl) ?_
        exact hret v92 () (Nat.le_of_ble_eq_true rfl) (Nat.le_of_ble_eq_true rfl) rfl (ox_209 i109) hP hD hS dX1_tellingFlange_48
      · skip
        have c112i : ¬ (y1_count.toInt ≤ v93.toInt) := fun q => c112 ((zc_le (rfl : y1_count.toInt = _) (rfl : v93.toInt = _)).mpr q)
        refine lv_aload_n hx hb dX1_tellingFlange_15 rfl (lv_at hl 0 rfl) ?_
        refine lv_aload_n hx hb dX1_tellingFlange_16 rfl (lv_at hl 1 rfl) ?_
        refine lv_iload hx hb dX1_tellingFlange_17 (lv_at hl 5 rfl) ?_
        refine lv_iload_n hx hb dX1_tellingFlange_19 rfl (lv_at hl 2 rfl) ?_
        refine lv_iload_n hx hb dX1_tellingFlange_20 rfl (lv_at hl 3 rfl) ?_
        refine zfi (wr := [(h0, .inr (1, [.ref h0_flanges, .ref h0_lengths, .int h0_rows]))]) (va_runV (As := [.ref y1, .int v93, .int x2, .int x3]) (rest := []) ⟨hx, hb, hml, hown, hG⟩ (kX1_mostLeft l g h0 y1 v93 x2 x3 y1_count y1_statements y1_thick y1_punch y1_ups y1_toolCount y1_toolWidth y1_told y1_name y1_parent y1_side y1_from y1_width y1_height y1_radius y1_toolSet f_y1_radius f_y1_parent (ox_670 c112i hy0 i110) (ox_671 c112i hy0 i110) (ox_1 hy1) trivial hy3 _) ⟨callB_of 4 hG (zGood wc_X1_mostLeft) rfl rfl rfl (hG _ wini_X1) (hG _ wm_X1_54) hX1_mostLeft ⟨Nat.le_of_ble_eq_true rfl, Nat.le_of_ble_eq_true rfl⟩, hG _ wi_X1_mostLeft, hG _ wse_X1_X1_mostLeft⟩ (zpreV (va_recv hX.1 hP (ci := 1) (q0 := 3) rfl rfl) hX hP hD hS hA [0, 1, 2] rfl (by decide)) rfl rfl hl.1 rfl (lv_room (Nat.le_of_ble_eq_true rfl)) dX1_tellingFlange_21 ⟨Nat.le_of_ble_eq_true rfl, Nat.le_of_ble_eq_true rfl⟩) hP hD hS hA [0, 1, 2] [3] rfl rfl (by decide) (by decide) (fun r113 _ H locs hp hP hD hS => ?_)
        refine W.cs (cells' := 0) (slots' := 0) rfl rfl ?_
        have hP : va_P g.1 vwCl [(h0, .inr (1, [.ref h0_flanges, .ref h0_lengths, .int h0_rows])), (y1, .inr (4, [.int y1_count, .int y1_statements, .int y1_thick, .int y1_punch, .int y1_ups, .int y1_toolCount, .ref y1_toolWidth, .ref y1_told, .ref y1_name, .ref y1_parent, .ref y1_side, .ref y1_from, .ref y1_width, .ref y1_height, .ref y1_radius, .ref y1_toolSet])), (y1_radius, .inl (g.2.1.1, 9, .inl f_y1_radius)), (y1_parent, .inl (g.2.1.1, 9, .inl f_y1_parent))] H := hP
        have hD : va_D A [(h0, .inr (1, [.ref h0_flanges, .ref h0_lengths, .int h0_rows])), (y1, .inr (4, [.int y1_count, .int y1_statements, .int y1_thick, .int y1_punch, .int y1_ups, .int y1_toolCount, .ref y1_toolWidth, .ref y1_told, .ref y1_name, .ref y1_parent, .ref y1_side, .ref y1_from, .ref y1_width, .ref y1_height, .ref y1_radius, .ref y1_toolSet])), (y1_radius, .inl (g.2.1.1, 9, .inl f_y1_radius)), (y1_parent, .inl (g.2.1.1, 9, .inl f_y1_parent))] := hD
        refine lv_aload_n hx hb dX1_tellingFlange_24 rfl (lv_at hl 0 rfl) ?_
        refine lv_aload_n hx hb dX1_tellingFlange_25 rfl (lv_at hl 1 rfl) ?_
        refine lv_iload hx hb dX1_tellingFlange_26 (lv_at hl 4 rfl) ?_
        refine lv_iload_n hx hb dX1_tellingFlange_28 rfl (lv_at hl 2 rfl) ?_
        refine lv_iload_n hx hb dX1_tellingFlange_29 rfl (lv_at hl 3 rfl) ?_
        refine zfi (wr := [(h0, .inr (1, [.ref h0_flanges, .ref h0_lengths, .int h0_rows]))]) (va_runV (As := [.ref y1, .int v92, .int x2, .int x3]) (rest := [.int r113]) ⟨hx, hb, hml, hown, hG⟩ (kX1_mostLeft l g h0 y1 v92 x2 x3 y1_count y1_statements y1_thick y1_punch y1_ups y1_toolCount y1_toolWidth y1_told y1_name y1_parent y1_side y1_from y1_width y1_height y1_radius y1_toolSet f_y1_radius f_y1_parent (ox_207 i109) (ox_671 c112i hy0 i110) (ox_1 hy1) trivial hy3 _) ⟨callB_of 4 hG (zGood wc_X1_mostLeft) rfl rfl rfl (hG _ wini_X1) (hG _ wm_X1_54) hX1_mostLeft ⟨Nat.le_of_ble_eq_true rfl, Nat.le_of_ble_eq_true rfl⟩, hG _ wi_X1_mostLeft, hG _ wse_X1_X1_mostLeft⟩ (zpreV (va_recv hX.1 hP (ci := 1) (q0 := 0) rfl rfl) hX hP hD hS hA [1, 2, 3] rfl (by decide)) rfl rfl hl.1 rfl (lv_room (Nat.le_of_ble_eq_true rfl)) dX1_tellingFlange_30 ⟨Nat.le_of_ble_eq_true rfl, Nat.le_of_ble_eq_true rfl⟩) hP hD hS hA [1, 2, 3] [0] rfl rfl (by decide) (by decide) (fun r114 _ H locs hp hP hD hS => ?_)
        refine W.cs (cells' := 0) (slots' := 0) rfl rfl ?_
        have hP : va_P g.1 vwCl [(h0, .inr (1, [.ref h0_flanges, .ref h0_lengths, .int h0_rows])), (y1, .inr (4, [.int y1_count, .int y1_statements, .int y1_thick, .int y1_punch, .int y1_ups, .int y1_toolCount, .ref y1_toolWidth, .ref y1_told, .ref y1_name, .ref y1_parent, .ref y1_side, .ref y1_from, .ref y1_width, .ref y1_height, .ref y1_radius, .ref y1_toolSet])), (y1_radius, .inl (g.2.1.1, 9, .inl f_y1_radius)), (y1_parent, .inl (g.2.1.1, 9, .inl f_y1_parent))] H := hP
        have hD : va_D A [(h0, .inr (1, [.ref h0_flanges, .ref h0_lengths, .int h0_rows])), (y1, .inr (4, [.int y1_count, .int y1_statements, .int y1_thick, .int y1_punch, .int y1_ups, .int y1_toolCount, .ref y1_toolWidth, .ref y1_told, .ref y1_name, .ref y1_parent, .ref y1_side, .ref y1_from, .ref y1_width, .ref y1_height, .ref y1_radius, .ref y1_toolSet])), (y1_radius, .inl (g.2.1.1, 9, .inl f_y1_radius)), (y1_parent, .inl (g.2.1.1, 9, .inl f_y1_parent))] := hD
        have J117 : ∀  (v116 : Int32) (H : Heap) (locs : List Loc) (ls : Array Slot), 1 ≤ v116.toInt ∧ v116.toInt ≤ 8 → va_P g.1 vwCl [(h0, .inr (1, [.ref h0_flanges, .ref h0_lengths, .int h0_rows])), (y1, .inr (4, [.int y1_count, .int y1_statements, .int y1_thick, .int y1_punch, .int y1_ups, .int y1_toolCount, .ref y1_toolWidth, .ref y1_told, .ref y1_name, .ref y1_parent, .ref y1_side, .ref y1_from, .ref y1_width, .ref y1_height, .ref y1_radius, .ref y1_toolSet])), (y1_radius, .inl (g.2.1.1, 9, .inl f_y1_radius)), (y1_parent, .inl (g.2.1.1, 9, .inl f_y1_parent))] H → va_D A [(h0, .inr (1, [.ref h0_flanges, .ref h0_lengths, .int h0_rows])), (y1, .inr (4, [.int y1_count, .int y1_statements, .int y1_thick, .int y1_punch, .int y1_ups, .int y1_toolCount, .ref y1_toolWidth, .ref y1_told, .ref y1_name, .ref y1_parent, .ref y1_side, .ref y1_from, .ref y1_width, .ref y1_height, .ref y1_radius, .ref y1_toolSet])), (y1_radius, .inl (g.2.1.1, 9, .inl f_y1_radius)), (y1_parent, .inl (g.2.1.1, 9, .inl f_y1_parent))] → va_S A s.heap H locs → lv_has ls 6 [(0, .ref h0), (1, .ref y1), (2, .int x2), (3, .int x3), (4, .int v116), (5, .int v93)] → W p l e rm_kX1_tellingFlange s m args below meth c H locs 0 0 Q (F0 m 40 ls []) := by
          intro v116 H locs ls i118 hP hD hS hl
          obtain ⟨z119, e120⟩ : ∃ y9 : Int32, y9 = v93 + 1 := ⟨_, rfl⟩
          have f121 : z119.toInt = v93.toInt + 1 := za e120 (rfl : v93.toInt = _) (show (1 : Int32).toInt = (1 : Int) from by decide) (ox_672 (zr v93) (zr y1_count) c112i hy0 i110)
          refine lv_iinc (v := z119) (lv' := [(5, .int z119), (0, .ref h0), (1, .ref y1), (2, .int x2), (3, .int x3), (4, .int v116)]) hx hb dX1_tellingFlange_40 hl (k := 5) rfl (by rw [e120]; rfl) (by decide) rfl (fun ls hl => ?_)
          refine lv_goto (tgt := 6) hx hb dX1_tellingFlange_43 (by decide) ?_
          exact ih108 v116 z119 H locs ls (ox_209 i118) (ox_673 c112i f121 hy0 i110) (zdec hm111 (ox_674 c112i f121 hy0 i110)) (hP.sub [1, 2, 3, 0] rfl) (hD.sub [1, 2, 3, 0] (by decide) rfl) hS (lv_sub hl [1, 2, 3, 4, 5, 0] rfl)
        refine lv_icmp_ge (tgt := 40) hx hb dX1_tellingFlange_33 (by decide) (fun c122 => ?_) (fun c122 => ?_)
        · skip
          have c122i : r114.toInt ≤ r113.toInt := (zc_le (rfl : r114.toInt = _) (rfl : r113.toInt = _)).mp c122
          exact J117 v92 H locs ls (ox_209 i109) hP hD hS (lv_sub hl [0, 1, 2, 3, 4, 5] rfl)
        · skip
          have c122i : ¬ (r114.toInt ≤ r113.toInt) := fun q => c122 ((zc_le (rfl : r114.toInt = _) (rfl : r113.toInt = _)).mpr q)
          refine lv_iload hx hb dX1_tellingFlange_36 (lv_at hl 5 rfl) ?_
          refine lv_istore (lv' := [(4, .int v93), (0, .ref h0), (1, .ref y1), (2, .int x2), (3, .int x3), (5, .int v93)]) hx hb dX1_tellingFlange_38 hl (by decide) rfl (fun ls hl => ?_)
          exact J117 v93 H locs ls (ox_675 c112i hy0 i110) hP hD hS (lv_sub hl [1, 2, 3, 4, 0, 5] rfl)
  exact L106 _ (1 : Int32) (2 : Int32) _ _ ls ((show 1 ≤ (1 : Int) ∧ (1 : Int) ≤ 8 from by decide)) ((show 2 ≤ (2 : Int) ∧ (2 : Int) ≤ 9 from by decide)) (Nat.lt_succ_self _) hP hD hS (lv_sub hl [2, 3, 4, 5, 1, 0] rfl)
theorem dX4_offerTools_0 : decode cX4_offerTools 0 = .ok (.iconst 1, 1) := by decide +kernel
theorem dX4_offerTools_1 : decode cX4_offerTools 1 = .ok (.istore_n 3, 1) := by decide +kernel
theorem dX4_offerTools_2 : decode cX4_offerTools 2 = .ok (.iload_n 3, 1) := by decide +kernel
theorem dX4_offerTools_3 : decode cX4_offerTools 3 = .ok (.aload_n 0, 1) := by decide +kernel
theorem dX4_offerTools_4 : decode cX4_offerTools 4 = .ok (.getfield 42, 3) := by decide +kernel
theorem dX4_offerTools_7 : decode cX4_offerTools 7 = .ok (.if_icmp .ge 63, 3) := by decide +kernel
theorem dX4_offerTools_70 : decode cX4_offerTools 70 = .ok (.return_, 1) := by decide +kernel
theorem dX4_offerTools_10 : decode cX4_offerTools 10 = .ok (.aload_n 0, 1) := by decide +kernel
theorem dX4_offerTools_11 : decode cX4_offerTools 11 = .ok (.getfield 39, 3) := by decide +kernel
theorem dX4_offerTools_14 : decode cX4_offerTools 14 = .ok (.iload_n 3, 1) := by decide +kernel
theorem dX4_offerTools_15 : decode cX4_offerTools 15 = .ok (.iaload, 1) := by decide +kernel
theorem dX4_offerTools_40 : decode cX4_offerTools 40 = .ok (.istore 4, 2) := by decide +kernel
theorem dX4_offerTools_42 : decode cX4_offerTools 42 = .ok (.aload_n 0, 1) := by decide +kernel
theorem dX4_offerTools_43 : decode cX4_offerTools 43 = .ok (.getfield 30, 3) := by decide +kernel
theorem dX4_offerTools_46 : decode cX4_offerTools 46 = .ok (.iload_n 3, 1) := by decide +kernel
theorem dX4_offerTools_47 : decode cX4_offerTools 47 = .ok (.iaload, 1) := by decide +kernel
theorem dX4_offerTools_48 : decode cX4_offerTools 48 = .ok (.iload_n 2, 1) := by decide +kernel
theorem dX4_offerTools_64 : decode cX4_offerTools 64 = .ok (.iinc 3 1, 3) := by decide +kernel
theorem dX4_offerTools_67 : decode cX4_offerTools 67 = .ok (.goto (-65), 3) := by decide +kernel
theorem dX4_offerTools_49 : decode cX4_offerTools 49 = .ok (.if_icmp .ne 15, 3) := by decide +kernel
theorem dX4_offerTools_52 : decode cX4_offerTools 52 = .ok (.iload 4, 2) := by decide +kernel
theorem dX4_offerTools_54 : decode cX4_offerTools 54 = .ok (.ifCond .eq 10, 3) := by decide +kernel
theorem dX4_offerTools_57 : decode cX4_offerTools 57 = .ok (.aload_n 0, 1) := by decide +kernel
theorem dX4_offerTools_58 : decode cX4_offerTools 58 = .ok (.getfield 39, 3) := by decide +kernel
theorem dX4_offerTools_61 : decode cX4_offerTools 61 = .ok (.iload_n 3, 1) := by decide +kernel
theorem dX4_offerTools_62 : decode cX4_offerTools 62 = .ok (.iload_n 1, 1) := by decide +kernel
theorem dX4_offerTools_63 : decode cX4_offerTools 63 = .ok (.iastore, 1) := by decide +kernel
theorem dX4_offerTools_35 : decode cX4_offerTools 35 = .ok (.iconst 1, 1) := by decide +kernel
theorem dX4_offerTools_36 : decode cX4_offerTools 36 = .ok (.goto 4, 3) := by decide +kernel
theorem dX4_offerTools_16 : decode cX4_offerTools 16 = .ok (.ifCond .eq 19, 3) := by decide +kernel
theorem dX4_offerTools_19 : decode cX4_offerTools 19 = .ok (.iload_n 1, 1) := by decide +kernel
theorem dX4_offerTools_20 : decode cX4_offerTools 20 = .ok (.invokestatic 109, 3) := by decide +kernel
theorem dX4_offerTools_23 : decode cX4_offerTools 23 = .ok (.aload_n 0, 1) := by decide +kernel
theorem dX4_offerTools_24 : decode cX4_offerTools 24 = .ok (.getfield 39, 3) := by decide +kernel
theorem dX4_offerTools_27 : decode cX4_offerTools 27 = .ok (.iload_n 3, 1) := by decide +kernel
theorem dX4_offerTools_28 : decode cX4_offerTools 28 = .ok (.iaload, 1) := by decide +kernel
theorem dX4_offerTools_29 : decode cX4_offerTools 29 = .ok (.invokestatic 109, 3) := by decide +kernel
theorem dX4_offerTools_32 : decode cX4_offerTools 32 = .ok (.if_icmp .ge 7, 3) := by decide +kernel
theorem dX4_offerTools_39 : decode cX4_offerTools 39 = .ok (.iconst 0, 1) := by decide +kernel
abbrev rm_kX4_offerTools : Room := { frames := 1, cells := 0, slots := 0, locals := 20 }
set_option maxHeartbeats 4000000 in
set_option maxRecDepth 100000 in
theorem kX4_offerTools (l : Launch) (g : zL) (h0 : Nat) (x1 : Int32) (x2 : Int32) (h0_count : Int32) (h0_statements : Int32) (h0_thick : Int32) (h0_punch : Int32) (h0_ups : Int32) (h0_toolCount : Int32) (h0_toolWidth : Nat) (h0_told : Nat) (h0_name : Nat) (h0_parent : Nat) (h0_side : Nat) (h0_from : Nat) (h0_width : Nat) (h0_height : Nat) (h0_radius : Nat) (h0_toolSet : Nat) (f_h0_toolSet : Nat → Int32) (f_h0_width : Nat → Int32) (hy0 : 0 ≤ h0_count.toInt ∧ h0_count.toInt ≤ 9) (hy1 : 0 ≤ h0_toolCount.toInt ∧ h0_toolCount.toInt ≤ 8) : zCv l g yX4_offerTools cX4_offerTools 5 none rm_kX4_offerTools [.ref h0, .int x1, .int x2] [(h0, .inr (4, [.int h0_count, .int h0_statements, .int h0_thick, .int h0_punch, .int h0_ups, .int h0_toolCount, .ref h0_toolWidth, .ref h0_told, .ref h0_name, .ref h0_parent, .ref h0_side, .ref h0_from, .ref h0_width, .ref h0_height, .ref h0_radius, .ref h0_toolSet])), (h0_toolSet, .inl (g.2.1.1, 9, .inl f_h0_toolSet)), (h0_width, .inl (g.2.1.1, 9, .inl f_h0_width))] (fun (u : (Nat → Int32)) => True) (fun (u : (Nat → Int32)) => [(h0, .inr (4, [.int h0_count, .int h0_statements, .int h0_thick, .int h0_punch, .int h0_ups, .int h0_toolCount, .ref h0_toolWidth, .ref h0_told, .ref h0_name, .ref h0_parent, .ref h0_side, .ref h0_from, .ref h0_width, .ref h0_height, .ref h0_radius, .ref h0_toolSet])), (h0_toolSet, .inl (g.2.1.1, 9, .inl u)), (h0_width, .inl (g.2.1.1, 9, .inl f_h0_width))]) := by
  refine zCv.mk2 (by decide) (Nat.le_of_ble_eq_true rfl) ?_
  intro p e s m below meth c A args Q hE hret hP hD hS ls hl
  obtain ⟨hx, hb, hr, hml, hown, hG, hlocks, hnm, hX, hA⟩ := hE
  have hown : s.vm.findClass RX4 = some m.cls := hown
  have hl : lv_has ls 5 [(0, .ref h0), (1, .int x1), (2, .int x2)] := hl
  refine lv_iconst (v := 1) hx hb dX4_offerTools_0 (by decide) ?_
  refine lv_istore_n (lv' := [(3, .int 1), (0, .ref h0), (1, .int x1), (2, .int x2)]) hx hb dX4_offerTools_1 rfl hl (by decide) rfl (fun ls hl => ?_)
  have L363 : ∀ (n : Nat) (v317 : Int32) (fn318 : Nat → Int32) (H : Heap) (locs : List Loc) (ls : Array Slot), 1 ≤ v317.toInt ∧ v317.toInt ≤ 9 → (10 - v317.toInt).toNat < n → va_P g.1 vwCl [(h0, .inr (4, [.int h0_count, .int h0_statements, .int h0_thick, .int h0_punch, .int h0_ups, .int h0_toolCount, .ref h0_toolWidth, .ref h0_told, .ref h0_name, .ref h0_parent, .ref h0_side, .ref h0_from, .ref h0_width, .ref h0_height, .ref h0_radius, .ref h0_toolSet])), (h0_toolSet, .inl (g.2.1.1, 9, .inl fn318)), (h0_width, .inl (g.2.1.1, 9, .inl f_h0_width))] H → va_D A [(h0, .inr (4, [.int h0_count, .int h0_statements, .int h0_thick, .int h0_punch, .int h0_ups, .int h0_toolCount, .ref h0_toolWidth, .ref h0_told, .ref h0_name, .ref h0_parent, .ref h0_side, .ref h0_from, .ref h0_width, .ref h0_height, .ref h0_radius, .ref h0_toolSet])), (h0_toolSet, .inl (g.2.1.1, 9, .inl fn318)), (h0_width, .inl (g.2.1.1, 9, .inl f_h0_width))] → va_S A s.heap H locs → lv_has ls 5 [(0, .ref h0), (1, .int x1), (2, .int x2), (3, .int v317)] → W p l e rm_kX4_offerTools s m args below meth c H locs 0 0 Q (F0 m 2 ls []) := by
    intro n364
    induction n364 with
    | zero => intro v317 fn318 H locs ls i366 hm367; exact absurd hm367 (Nat.not_lt_zero _)
    | succ n364 ih365 =>
      intro v317 fn318 H locs ls i366 hm367 hP hD hS hl
      refine lv_iload_n hx hb dX4_offerTools_2 rfl (lv_at hl 3 rfl) ?_
      refine lv_aload_n hx hb dX4_offerTools_3 rfl (lv_at hl 0 rfl) ?_
      refine va_get (D := g.1) (ci := 4) (v := .int h0_count) (C := RX4) (T := TX4) (N := 16) hx hb hG iX4 hown hX.1 hP 0 rfl rfl 0 (by decide) (hG _ wf_X4_42) (fun _ h9 => h9) rfl dX4_offerTools_4 ?_
      refine lv_icmp_ge (tgt := 70) hx hb dX4_offerTools_7 (by decide) (fun c368 => ?_) (fun c368 => ?_)
      · skip
        have c368i : h0_count.toInt ≤ v317.toInt := (zc_le (rfl : h0_count.toInt = _) (rfl : v317.toInt = _)).mp c368
        exact hret fn318 (Nat.le_of_ble_eq_true rfl) (Nat.le_of_ble_eq_true rfl) trivial hP hD hS dX4_offerTools_70
      · skip
        have c368i : ¬ (h0_count.toInt ≤ v317.toInt) := fun q => c368 ((zc_le (rfl : h0_count.toInt = _) (rfl : v317.toInt = _)).mpr q)
        refine lv_aload_n hx hb dX4_offerTools_10 rfl (lv_at hl 0 rfl) ?_
        refine va_get (D := g.1) (ci := 4) (v := .ref h0_toolSet) (C := RX4) (T := TX4) (N := 16) hx hb hG iX4 hown hX.1 hP 0 rfl rfl 15 (by decide) (hG _ wf_X4_39) (fun _ h9 => h9) rfl dX4_offerTools_11 ?_
        refine lv_iload_n hx hb dX4_offerTools_14 rfl (lv_at hl 3 rfl) ?_
        refine va_iald hx hb hX.1 hP 1 0 rfl rfl (zin (rfl : v317.toInt = _) (ox_34 c368i hy0 i366)) dX4_offerTools_15 ?_
        refine lv_topi (fun z369 e370 => ?_)
        have J380 : ∀  (v379 : Int32) (H : Heap) (locs : List Loc) (ls : Array Slot), 0 ≤ v379.toInt ∧ v379.toInt ≤ 1 → va_P g.1 vwCl [(h0, .inr (4, [.int h0_count, .int h0_statements, .int h0_thick, .int h0_punch, .int h0_ups, .int h0_toolCount, .ref h0_toolWidth, .ref h0_told, .ref h0_name, .ref h0_parent, .ref h0_side, .ref h0_from, .ref h0_width, .ref h0_height, .ref h0_radius, .ref h0_toolSet])), (h0_toolSet, .inl (g.2.1.1, 9, .inl fn318)), (h0_width, .inl (g.2.1.1, 9, .inl f_h0_width))] H → va_D A [(h0, .inr (4, [.int h0_count, .int h0_statements, .int h0_thick, .int h0_punch, .int h0_ups, .int h0_toolCount, .ref h0_toolWidth, .ref h0_told, .ref h0_name, .ref h0_parent, .ref h0_side, .ref h0_from, .ref h0_width, .ref h0_height, .ref h0_radius, .ref h0_toolSet])), (h0_toolSet, .inl (g.2.1.1, 9, .inl fn318)), (h0_width, .inl (g.2.1.1, 9, .inl f_h0_width))] → va_S A s.heap H locs → lv_has ls 5 [(0, .ref h0), (1, .int x1), (2, .int x2), (3, .int v317)] → W p l e rm_kX4_offerTools s m args below meth c H locs 0 0 Q (F0 m 40 ls [.int v379]) := by
          intro v379 H locs ls i381 hP hD hS hl
          refine lv_istore (lv' := [(4, .int v379), (0, .ref h0), (1, .int x1), (2, .int x2), (3, .int v317)]) hx hb dX4_offerTools_40 hl (by decide) rfl (fun ls hl => ?_)
          refine lv_aload_n hx hb dX4_offerTools_42 rfl (lv_at hl 1 rfl) ?_
          refine va_get (D := g.1) (ci := 4) (v := .ref h0_width) (C := RX4) (T := TX4) (N := 16) hx hb hG iX4 hown hX.1 hP 0 rfl rfl 12 (by decide) (hG _ wf_X4_30) (fun _ h9 => h9) rfl dX4_offerTools_43 ?_
          refine lv_iload_n hx hb dX4_offerTools_46 rfl (lv_at hl 4 rfl) ?_
          refine va_iald hx hb hX.1 hP 2 0 rfl rfl (zin (rfl : v317.toInt = _) (ox_34 c368i hy0 i366)) dX4_offerTools_47 ?_
          refine lv_topi (fun z382 e383 => ?_)
          refine lv_iload_n hx hb dX4_offerTools_48 rfl (lv_at hl 3 rfl) ?_
          have J389 : ∀  (fn388 : Nat → Int32) (H : Heap) (locs : List Loc) (ls : Array Slot), va_P g.1 vwCl [(h0, .inr (4, [.int h0_count, .int h0_statements, .int h0_thick, .int h0_punch, .int h0_ups, .int h0_toolCount, .ref h0_toolWidth, .ref h0_told, .ref h0_name, .ref h0_parent, .ref h0_side, .ref h0_from, .ref h0_width, .ref h0_height, .ref h0_radius, .ref h0_toolSet])), (h0_toolSet, .inl (g.2.1.1, 9, .inl fn388)), (h0_width, .inl (g.2.1.1, 9, .inl f_h0_width))] H → va_D A [(h0, .inr (4, [.int h0_count, .int h0_statements, .int h0_thick, .int h0_punch, .int h0_ups, .int h0_toolCount, .ref h0_toolWidth, .ref h0_told, .ref h0_name, .ref h0_parent, .ref h0_side, .ref h0_from, .ref h0_width, .ref h0_height, .ref h0_radius, .ref h0_toolSet])), (h0_toolSet, .inl (g.2.1.1, 9, .inl fn388)), (h0_width, .inl (g.2.1.1, 9, .inl f_h0_width))] → va_S A s.heap H locs → lv_has ls 5 [(0, .ref h0), (1, .int x1), (2, .int x2), (3, .int v317), (4, .int v379)] → W p l e rm_kX4_offerTools s m args below meth c H locs 0 0 Q (F0 m 64 ls []) := by
            intro fn388 H locs ls  hP hD hS hl
            obtain ⟨z390, e391⟩ : ∃ y9 : Int32, y9 = v317 + 1 := ⟨_, rfl⟩
            have f392 : z390.toInt = v317.toInt + 1 := za e391 (rfl : v317.toInt = _) (show (1 : Int32).toInt = (1 : Int) from by decide) (ox_17 (zr h0_count) (zr v317) c368i hy0 i366)
            refine lv_iinc (v := z390) (lv' := [(3, .int z390), (0, .ref h0), (1, .int x1), (2, .int x2), (4, .int v379)]) hx hb dX4_offerTools_64 hl (k := 3) rfl (by rw [e391]; rfl) (by decide) rfl (fun ls hl => ?_)
            refine lv_goto (tgt := 2) hx hb dX4_offerTools_67 (by decide) ?_
            exact ih365 z390 fn388 H locs ls (ox_18 c368i f392 hy0 i366) (zdec hm367 (ox_19 c368i f392 hy0 i366)) hP hD hS (lv_sub hl [1, 2, 3, 0] rfl)
          refine lv_icmp_ne (tgt := 64) hx hb dX4_offerTools_49 (by decide) (fun c393 => ?_) (fun c393 => ?_)
          · skip
            have c393i : ¬ (z382.toInt = x2.toInt) := fun q => c393 ((zc_eq (rfl : z382.toInt = _) (rfl : x2.toInt = _)).mpr q)
            exact J389 fn318 H locs ls  hP hD hS (lv_sub hl [1, 2, 3, 4, 0] rfl)
          · skip
            have c393i : z382.toInt = x2.toInt := (zc_eq (rfl : z382.toInt = _) (rfl : x2.toInt = _)).mp c393
            refine lv_iload hx hb dX4_offerTools_52 (lv_at hl 0 rfl) ?_
            refine lv_if_eq (tgt := 64) hx hb dX4_offerTools_54 (by decide) (fun c394 => ?_) (fun c394 => ?_)
            · skip
              have c394i : v379.toInt = (0 : Int) := (zc_eq (rfl : v379.toInt = _) (show (0 : Int32).toInt = (0 : Int) from by decide)).mp c394
              exact J389 fn318 H locs ls  hP hD hS (lv_sub hl [1, 2, 3, 4, 0] rfl)
            · skip
              have c394i : ¬ (v379.toInt = (0 : Int)) := fun q => c394 ((zc_eq (rfl : v379.toInt = _) (show (0 : Int32).toInt = (0 : Int) from by decide)).mpr q)
              refine lv_aload_n hx hb dX4_offerTools_57 rfl (lv_at hl 1 rfl) ?_
              refine va_get (D := g.1) (ci := 4) (v := .ref h0_toolSet) (C := RX4) (T := TX4) (N := 16) hx hb hG iX4 hown hX.1 hP 0 rfl rfl 15 (by decide) (hG _ wf_X4_39) (fun _ h9 => h9) rfl dX4_offerTools_58 ?_
              refine lv_iload_n hx hb dX4_offerTools_61 rfl (lv_at hl 4 rfl) ?_
              refine lv_iload_n hx hb dX4_offerTools_62 rfl (lv_at hl 2 rfl) ?_
              refine va_iast hx hb hX.1 hP hD hS 1 0 rfl rfl (zin (rfl : v317.toInt = _) (ox_34 c368i hy0 i366)) dX4_offerTools_63 (fun H locs hP hD hS => ?_)
              obtain ⟨f395, e396⟩ : ∃ z9 : Nat → Int32, z9 = upd fn318 v317.toNatClampNeg x1 := ⟨_, rfl⟩
              rw [← e396] at hP hD
              have hP : va_P g.1 vwCl [(h0, .inr (4, [.int h0_count, .int h0_statements, .int h0_thick, .int h0_punch, .int h0_ups, .int h0_toolCount, .ref h0_toolWidth, .ref h0_told, .ref h0_name, .ref h0_parent, .ref h0_side, .ref h0_from, .ref h0_width, .ref h0_height, .ref h0_radius, .ref h0_toolSet])), (h0_toolSet, .inl (g.2.1.1, 9, .inl f395)), (h0_width, .inl (g.2.1.1, 9, .inl f_h0_width))] H := hP
              have hD : va_D A [(h0, .inr (4, [.int h0_count, .int h0_statements, .int h0_thick, .int h0_punch, .int h0_ups, .int h0_toolCount, .ref h0_toolWidth, .ref h0_told, .ref h0_name, .ref h0_parent, .ref h0_side, .ref h0_from, .ref h0_width, .ref h0_height, .ref h0_radius, .ref h0_toolSet])), (h0_toolSet, .inl (g.2.1.1, 9, .inl f395)), (h0_width, .inl (g.2.1.1, 9, .inl f_h0_width))] := hD
              exact J389 f395 H locs ls  hP hD hS (lv_sub hl [1, 2, 3, 4, 0] rfl)
        have J405 : ∀  (H : Heap) (locs : List Loc) (ls : Array Slot), va_P g.1 vwCl [(h0, .inr (4, [.int h0_count, .int h0_statements, .int h0_thick, .int h0_punch, .int h0_ups, .int h0_toolCount, .ref h0_toolWidth, .ref h0_told, .ref h0_name, .ref h0_parent, .ref h0_side, .ref h0_from, .ref h0_width, .ref h0_height, .ref h0_radius, .ref h0_toolSet])), (h0_toolSet, .inl (g.2.1.1, 9, .inl fn318)), (h0_width, .inl (g.2.1.1, 9, .inl f_h0_width))] H → va_D A [(h0, .inr (4, [.int h0_count, .int h0_statements, .int h0_thick, .int h0_punch, .int h0_ups, .int h0_toolCount, .ref h0_toolWidth, .ref h0_told, .ref h0_name, .ref h0_parent, .ref h0_side, .ref h0_from, .ref h0_width, .ref h0_height, .ref h0_radius, .ref h0_toolSet])), (h0_toolSet, .inl (g.2.1.1, 9, .inl fn318)), (h0_width, .inl (g.2.1.1, 9, .inl f_h0_width))] → va_S A s.heap H locs → lv_has ls 5 [(0, .ref h0), (1, .int x1), (2, .int x2), (3, .int v317)] → W p l e rm_kX4_offerTools s m args below meth c H locs 0 0 Q (F0 m 35 ls []) := by
          intro  H locs ls  hP hD hS hl
          refine lv_iconst (v := 1) hx hb dX4_offerTools_35 (by decide) ?_
          refine lv_goto (tgt := 40) hx hb dX4_offerTools_36 (by decide) ?_
          exact J380 (1 : Int32) H locs ls ((show 0 ≤ (1 : Int) ∧ (1 : Int) ≤ 1 from by decide)) hP hD hS (lv_sub hl [0, 1, 2, 3] rfl)
        refine lv_if_eq (tgt := 35) hx hb dX4_offerTools_16 (by decide) (fun c406 => ?_) (fun c406 => ?_)
        · skip
          have c406i : z369.toInt = (0 : Int) := (zc_eq (rfl : z369.toInt = _) (show (0 : Int32).toInt = (0 : Int) from by decide)).mp c406
          exact J405 H locs ls  hP hD hS (lv_sub hl [0, 1, 2, 3] rfl)
        · skip
          have c406i : ¬ (z369.toInt = (0 : Int)) := fun q => c406 ((zc_eq (rfl : z369.toInt = _) (show (0 : Int32).toInt = (0 : Int) from by decide)).mpr q)
          refine lv_iload_n hx hb dX4_offerTools_19 rfl (lv_at hl 1 rfl) ?_
          refine zfi (wr := [(h0, .inr (4, [.int h0_count, .int h0_statements, .int h0_thick, .int h0_punch, .int h0_ups, .int h0_toolCount, .ref h0_toolWidth, .ref h0_told, .ref h0_name, .ref h0_parent, .ref h0_side, .ref h0_from, .ref h0_width, .ref h0_height, .ref h0_radius, .ref h0_toolSet])), (h0_toolSet, .inl (g.2.1.1, 9, .inl fn318)), (h0_width, .inl (g.2.1.1, 9, .inl f_h0_width))]) (va_runS (As := [.int x1]) (rest := []) ⟨hx, hb, hml, hown, hG⟩ (kJ6_bitCount_0f7a4 l g x1 _) ⟨callB_of 1 hG (zGood wc_J6_bitCount_0f7a4) rfl rfl rfl (hG _ wini_J6) (hG _ wm_X4_109) hJ6_bitCount_0f7a4 ⟨Nat.le_of_ble_eq_true rfl, Nat.le_of_ble_eq_true rfl⟩, hG _ ws_J6_bitCount_0f7a4⟩ (zpreS hX hP hD hS hA [] rfl (by decide)) rfl rfl hl.1 rfl (lv_room (Nat.le_of_ble_eq_true rfl)) dX4_offerTools_20 ⟨Nat.le_of_ble_eq_true rfl, Nat.le_of_ble_eq_true rfl⟩) hP hD hS hA [] [0, 1, 2] rfl rfl (by decide) (by decide) (fun r407 _ H locs hp hP hD hS => ?_)
          refine W.cs (cells' := 0) (slots' := 0) rfl rfl ?_
          have hq408 : 0 ≤ r407.toInt ∧ r407.toInt ≤ 63 := hp
          have hP : va_P g.1 vwCl [(h0, .inr (4, [.int h0_count, .int h0_statements, .int h0_thick, .int h0_punch, .int h0_ups, .int h0_toolCount, .ref h0_toolWidth, .ref h0_told, .ref h0_name, .ref h0_parent, .ref h0_side, .ref h0_from, .ref h0_width, .ref h0_height, .ref h0_radius, .ref h0_toolSet])), (h0_toolSet, .inl (g.2.1.1, 9, .inl fn318)), (h0_width, .inl (g.2.1.1, 9, .inl f_h0_width))] H := hP
          have hD : va_D A [(h0, .inr (4, [.int h0_count, .int h0_statements, .int h0_thick, .int h0_punch, .int h0_ups, .int h0_toolCount, .ref h0_toolWidth, .ref h0_told, .ref h0_name, .ref h0_parent, .ref h0_side, .ref h0_from, .ref h0_width, .ref h0_height, .ref h0_radius, .ref h0_toolSet])), (h0_toolSet, .inl (g.2.1.1, 9, .inl fn318)), (h0_width, .inl (g.2.1.1, 9, .inl f_h0_width))] := hD
          refine lv_aload_n hx hb dX4_offerTools_23 rfl (lv_at hl 0 rfl) ?_
          refine va_get (D := g.1) (ci := 4) (v := .ref h0_toolSet) (C := RX4) (T := TX4) (N := 16) hx hb hG iX4 hown hX.1 hP 0 rfl rfl 15 (by decide) (hG _ wf_X4_39) (fun _ h9 => h9) rfl dX4_offerTools_24 ?_
          refine lv_iload_n hx hb dX4_offerTools_27 rfl (lv_at hl 3 rfl) ?_
          refine va_iald hx hb hX.1 hP 1 0 rfl rfl (zin (rfl : v317.toInt = _) (ox_34 c368i hy0 i366)) dX4_offerTools_28 ?_
          refine lv_topi (fun z409 e410 => ?_)
          refine zfi (wr := [(h0, .inr (4, [.int h0_count, .int h0_statements, .int h0_thick, .int h0_punch, .int h0_ups, .int h0_toolCount, .ref h0_toolWidth, .ref h0_told, .ref h0_name, .ref h0_parent, .ref h0_side, .ref h0_from, .ref h0_width, .ref h0_height, .ref h0_radius, .ref h0_toolSet])), (h0_toolSet, .inl (g.2.1.1, 9, .inl fn318)), (h0_width, .inl (g.2.1.1, 9, .inl f_h0_width))]) (va_runS (As := [.int z409]) (rest := [.int r407]) ⟨hx, hb, hml, hown, hG⟩ (kJ6_bitCount_0f7a4 l g z409 _) ⟨callB_of 1 hG (zGood wc_J6_bitCount_0f7a4) rfl rfl rfl (hG _ wini_J6) (hG _ wm_X4_109) hJ6_bitCount_0f7a4 ⟨Nat.le_of_ble_eq_true rfl, Nat.le_of_ble_eq_true rfl⟩, hG _ ws_J6_bitCount_0f7a4⟩ (zpreS hX hP hD hS hA [] rfl (by decide)) rfl rfl hl.1 rfl (lv_room (Nat.le_of_ble_eq_true rfl)) dX4_offerTools_29 ⟨Nat.le_of_ble_eq_true rfl, Nat.le_of_ble_eq_true rfl⟩) hP hD hS hA [] [0, 1, 2] rfl rfl (by decide) (by decide) (fun r411 _ H locs hp hP hD hS => ?_)
          refine W.cs (cells' := 0) (slots' := 0) rfl rfl ?_
          have hq412 : 0 ≤ r411.toInt ∧ r411.toInt ≤ 63 := hp
          have hP : va_P g.1 vwCl [(h0, .inr (4, [.int h0_count, .int h0_statements, .int h0_thick, .int h0_punch, .int h0_ups, .int h0_toolCount, .ref h0_toolWidth, .ref h0_told, .ref h0_name, .ref h0_parent, .ref h0_side, .ref h0_from, .ref h0_width, .ref h0_height, .ref h0_radius, .ref h0_toolSet])), (h0_toolSet, .inl (g.2.1.1, 9, .inl fn318)), (h0_width, .inl (g.2.1.1, 9, .inl f_h0_width))] H := hP
          have hD : va_D A [(h0, .inr (4, [.int h0_count, .int h0_statements, .int h0_thick, .int h0_punch, .int h0_ups, .int h0_toolCount, .ref h0_toolWidth, .ref h0_told, .ref h0_name, .ref h0_parent, .ref h0_side, .ref h0_from, .ref h0_width, .ref h0_height, .ref h0_radius, .ref h0_toolSet])), (h0_toolSet, .inl (g.2.1.1, 9, .inl fn318)), (h0_width, .inl (g.2.1.1, 9, .inl f_h0_width))] := hD
          refine lv_icmp_ge (tgt := 39) hx hb dX4_offerTools_32 (by decide) (fun c413 => ?_) (fun c413 => ?_)
          · skip
            have c413i : r411.toInt ≤ r407.toInt := (zc_le (rfl : r411.toInt = _) (rfl : r407.toInt = _)).mp c413
            refine lv_iconst (v := 0) hx hb dX4_offerTools_39 (by decide) ?_
            exact J380 (0 : Int32) H locs ls ((show 0 ≤ (0 : Int) ∧ (0 : Int) ≤ 1 from by decide)) hP hD hS (lv_sub hl [0, 1, 2, 3] rfl)
          · skip
            have c413i : ¬ (r411.toInt ≤ r407.toInt) := fun q => c413 ((zc_le (rfl : r411.toInt = _) (rfl : r407.toInt = _)).mpr q)
            exact J405 H locs ls  hP hD hS (lv_sub hl [0, 1, 2, 3] rfl)
  exact L363 _ (1 : Int32) f_h0_toolSet _ _ ls ((show 1 ≤ (1 : Int) ∧ (1 : Int) ≤ 9 from by decide)) (Nat.lt_succ_self _) hP hD hS (lv_sub hl [1, 2, 3, 0] rfl)
theorem dX4_chooseTools_0 : decode cX4_chooseTools 0 = .ok (.aload_n 0, 1) := by decide +kernel
theorem dX4_chooseTools_1 : decode cX4_chooseTools 1 = .ok (.getfield 39, 3) := by decide +kernel
theorem dX4_chooseTools_4 : decode cX4_chooseTools 4 = .ok (.iconst 0, 1) := by decide +kernel
theorem dX4_chooseTools_5 : decode cX4_chooseTools 5 = .ok (.invokestatic 58, 3) := by decide +kernel
theorem dX4_chooseTools_8 : decode cX4_chooseTools 8 = .ok (.iconst 1, 1) := by decide +kernel
theorem dX4_chooseTools_9 : decode cX4_chooseTools 9 = .ok (.aload_n 0, 1) := by decide +kernel
theorem dX4_chooseTools_10 : decode cX4_chooseTools 10 = .ok (.getfield 52, 3) := by decide +kernel
theorem dX4_chooseTools_13 : decode cX4_chooseTools 13 = .ok (.ishl, 1) := by decide +kernel
theorem dX4_chooseTools_14 : decode cX4_chooseTools 14 = .ok (.istore_n 1, 1) := by decide +kernel
theorem dX4_chooseTools_15 : decode cX4_chooseTools 15 = .ok (.iconst 1, 1) := by decide +kernel
theorem dX4_chooseTools_16 : decode cX4_chooseTools 16 = .ok (.istore_n 2, 1) := by decide +kernel
theorem dX4_chooseTools_17 : decode cX4_chooseTools 17 = .ok (.iload_n 2, 1) := by decide +kernel
theorem dX4_chooseTools_18 : decode cX4_chooseTools 18 = .ok (.iload_n 1, 1) := by decide +kernel
theorem dX4_chooseTools_19 : decode cX4_chooseTools 19 = .ok (.if_icmp .ge 26, 3) := by decide +kernel
theorem dX4_chooseTools_45 : decode cX4_chooseTools 45 = .ok (.return_, 1) := by decide +kernel
theorem dX4_chooseTools_22 : decode cX4_chooseTools 22 = .ok (.iload_n 2, 1) := by decide +kernel
theorem dX4_chooseTools_23 : decode cX4_chooseTools 23 = .ok (.sipush 256, 3) := by decide +kernel
theorem dX4_chooseTools_26 : decode cX4_chooseTools 26 = .ok (.if_icmp .ge 19, 3) := by decide +kernel
theorem dX4_chooseTools_29 : decode cX4_chooseTools 29 = .ok (.aload_n 0, 1) := by decide +kernel
theorem dX4_chooseTools_30 : decode cX4_chooseTools 30 = .ok (.iload_n 2, 1) := by decide +kernel
theorem dX4_chooseTools_31 : decode cX4_chooseTools 31 = .ok (.aload_n 0, 1) := by decide +kernel
theorem dX4_chooseTools_32 : decode cX4_chooseTools 32 = .ok (.iload_n 2, 1) := by decide +kernel
theorem dX4_chooseTools_33 : decode cX4_chooseTools 33 = .ok (.invokevirtual 102, 3) := by decide +kernel
theorem dX4_chooseTools_36 : decode cX4_chooseTools 36 = .ok (.invokevirtual 105, 3) := by decide +kernel
theorem dX4_chooseTools_39 : decode cX4_chooseTools 39 = .ok (.iinc 2 1, 3) := by decide +kernel
theorem dX4_chooseTools_42 : decode cX4_chooseTools 42 = .ok (.goto (-25), 3) := by decide +kernel
abbrev rm_kX4_chooseTools : Room := { frames := 2, cells := 0, slots := 0, locals := 44 }
set_option maxHeartbeats 4000000 in
set_option maxRecDepth 100000 in
theorem kX4_chooseTools (l : Launch) (g : zL) (h0 : Nat) (h0_count : Int32) (h0_statements : Int32) (h0_thick : Int32) (h0_punch : Int32) (h0_ups : Int32) (h0_toolCount : Int32) (h0_toolWidth : Nat) (h0_told : Nat) (h0_name : Nat) (h0_parent : Nat) (h0_side : Nat) (h0_from : Nat) (h0_width : Nat) (h0_height : Nat) (h0_radius : Nat) (h0_toolSet : Nat) (f_h0_toolSet : Nat → Int32) (f_h0_toolWidth : Nat → Int32) (f_h0_width : Nat → Int32) (hy0 : 0 ≤ h0_count.toInt ∧ h0_count.toInt ≤ 9) (hy1 : 0 ≤ h0_toolCount.toInt ∧ h0_toolCount.toInt ≤ 8) : zCv l g yX4_chooseTools cX4_chooseTools 3 none rm_kX4_chooseTools [.ref h0] [(h0, .inr (4, [.int h0_count, .int h0_statements, .int h0_thick, .int h0_punch, .int h0_ups, .int h0_toolCount, .ref h0_toolWidth, .ref h0_told, .ref h0_name, .ref h0_parent, .ref h0_side, .ref h0_from, .ref h0_width, .ref h0_height, .ref h0_radius, .ref h0_toolSet])), (h0_toolSet, .inl (g.2.1.1, 9, .inl f_h0_toolSet)), (h0_toolWidth, .inl (g.2.1.1, 8, .inl f_h0_toolWidth)), (h0_width, .inl (g.2.1.1, 9, .inl f_h0_width))] (fun (u : (Nat → Int32)) => True) (fun (u : (Nat → Int32)) => [(h0, .inr (4, [.int h0_count, .int h0_statements, .int h0_thick, .int h0_punch, .int h0_ups, .int h0_toolCount, .ref h0_toolWidth, .ref h0_told, .ref h0_name, .ref h0_parent, .ref h0_side, .ref h0_from, .ref h0_width, .ref h0_height, .ref h0_radius, .ref h0_toolSet])), (h0_toolSet, .inl (g.2.1.1, 9, .inl u)), (h0_toolWidth, .inl (g.2.1.1, 8, .inl f_h0_toolWidth)), (h0_width, .inl (g.2.1.1, 9, .inl f_h0_width))]) := by
  refine zCv.mk2 (by decide) (Nat.le_of_ble_eq_true rfl) ?_
  intro p e s m below meth c A args Q hE hret hP hD hS ls hl
  obtain ⟨hx, hb, hr, hml, hown, hG, hlocks, hnm, hX, hA⟩ := hE
  have hown : s.vm.findClass RX4 = some m.cls := hown
  have hl : lv_has ls 3 [(0, .ref h0)] := hl
  refine lv_aload_n hx hb dX4_chooseTools_0 rfl (lv_at hl 0 rfl) ?_
  refine va_get (D := g.1) (ci := 4) (v := .ref h0_toolSet) (C := RX4) (T := TX4) (N := 16) hx hb hG iX4 hown hX.1 hP 0 rfl rfl 15 (by decide) (hG _ wf_X4_39) (fun _ h9 => h9) rfl dX4_chooseTools_1 ?_
  refine lv_iconst (v := 0) hx hb dX4_chooseTools_4 (by decide) ?_
  refine zfv (wr := [(h0, .inr (4, [.int h0_count, .int h0_statements, .int h0_thick, .int h0_punch, .int h0_ups, .int h0_toolCount, .ref h0_toolWidth, .ref h0_told, .ref h0_name, .ref h0_parent, .ref h0_side, .ref h0_from, .ref h0_width, .ref h0_height, .ref h0_radius, .ref h0_toolSet])), (h0_toolWidth, .inl (g.2.1.1, 8, .inl f_h0_toolWidth)), (h0_width, .inl (g.2.1.1, 9, .inl f_h0_width))]) (va_runS (As := [.ref h0_toolSet, .int 0]) (rest := []) ⟨hx, hb, hml, hown, hG⟩ (kJ7_fill_53178_9 l g h0_toolSet (0 : Int32) f_h0_toolSet _) ⟨callB_of 2 hG (zGood wc_J7_fill_53178) rfl rfl rfl (hG _ wini_J7) (hG _ wm_X4_58) hJ7_fill_53178 ⟨Nat.le_of_ble_eq_true rfl, Nat.le_of_ble_eq_true rfl⟩, hG _ ws_J7_fill_53178⟩ (zpreS hX hP hD hS hA [1] rfl (by decide)) rfl rfl hl.1 rfl (lv_room (Nat.le_of_ble_eq_true rfl)) dX4_chooseTools_5 ⟨Nat.le_of_ble_eq_true rfl, Nat.le_of_ble_eq_true rfl⟩) hP hD hS hA [1] [0, 2, 3] rfl rfl (by decide) (by decide) (fun u2 H locs hp hP hD hS => ?_)
  refine W.cs (cells' := 0) (slots' := 0) rfl rfl ?_
  obtain ⟨f3, rfl⟩ : ∃ z9, z9 = u2 := ⟨_, rfl⟩
  have hP : va_P g.1 vwCl [(h0, .inr (4, [.int h0_count, .int h0_statements, .int h0_thick, .int h0_punch, .int h0_ups, .int h0_toolCount, .ref h0_toolWidth, .ref h0_told, .ref h0_name, .ref h0_parent, .ref h0_side, .ref h0_from, .ref h0_width, .ref h0_height, .ref h0_radius, .ref h0_toolSet])), (h0_toolWidth, .inl (g.2.1.1, 8, .inl f_h0_toolWidth)), (h0_width, .inl (g.2.1.1, 9, .inl f_h0_width)), (h0_toolSet, .inl (g.2.1.1, 9, .inl f3))] H := hP
  have hD : va_D A [(h0, .inr (4, [.int h0_count, .int h0_statements, .int h0_thick, .int h0_punch, .int h0_ups, .int h0_toolCount, .ref h0_toolWidth, .ref h0_told, .ref h0_name, .ref h0_parent, .ref h0_side, .ref h0_from, .ref h0_width, .ref h0_height, .ref h0_radius, .ref h0_toolSet])), (h0_toolWidth, .inl (g.2.1.1, 8, .inl f_h0_toolWidth)), (h0_width, .inl (g.2.1.1, 9, .inl f_h0_width)), (h0_toolSet, .inl (g.2.1.1, 9, .inl f3))] := hD
  refine lv_iconst (v := 1) hx hb dX4_chooseTools_8 (by decide) ?_
  refine lv_aload_n hx hb dX4_chooseTools_9 rfl (lv_at hl 0 rfl) ?_
  refine va_get (D := g.1) (ci := 4) (v := .int h0_toolCount) (C := RX4) (T := TX4) (N := 16) hx hb hG iX4 hown hX.1 hP 0 rfl rfl 5 (by decide) (hG _ wf_X4_52) (fun _ h9 => h9) rfl dX4_chooseTools_10 ?_
  refine lv_ishl hx hb dX4_chooseTools_13 ?_
  refine lv_topi (fun z4 e5 => ?_)
  have f6 : 1 ≤ z4.toInt ∧ z4.toInt ≤ 256 := zshl1 8 e5 (rfl : h0_toolCount.toInt = _) (by decide) (ox_1 hy1)
  refine lv_istore_n (lv' := [(1, .int z4), (0, .ref h0)]) hx hb dX4_chooseTools_14 rfl hl (by decide) rfl (fun ls hl => ?_)
  refine lv_iconst (v := 1) hx hb dX4_chooseTools_15 (by decide) ?_
  refine lv_istore_n (lv' := [(2, .int 1), (1, .int z4), (0, .ref h0)]) hx hb dX4_chooseTools_16 rfl hl (by decide) rfl (fun ls hl => ?_)
  have L97 : ∀ (n : Nat) (v85 : Int32) (fn86 : Nat → Int32) (H : Heap) (locs : List Loc) (ls : Array Slot), 1 ≤ v85.toInt ∧ v85.toInt ≤ 256 → (257 - v85.toInt).toNat < n → va_P g.1 vwCl [(h0, .inr (4, [.int h0_count, .int h0_statements, .int h0_thick, .int h0_punch, .int h0_ups, .int h0_toolCount, .ref h0_toolWidth, .ref h0_told, .ref h0_name, .ref h0_parent, .ref h0_side, .ref h0_from, .ref h0_width, .ref h0_height, .ref h0_radius, .ref h0_toolSet])), (h0_toolWidth, .inl (g.2.1.1, 8, .inl f_h0_toolWidth)), (h0_width, .inl (g.2.1.1, 9, .inl f_h0_width)), (h0_toolSet, .inl (g.2.1.1, 9, .inl fn86))] H → va_D A [(h0, .inr (4, [.int h0_count, .int h0_statements, .int h0_thick, .int h0_punch, .int h0_ups, .int h0_toolCount, .ref h0_toolWidth, .ref h0_told, .ref h0_name, .ref h0_parent, .ref h0_side, .ref h0_from, .ref h0_width, .ref h0_height, .ref h0_radius, .ref h0_toolSet])), (h0_toolWidth, .inl (g.2.1.1, 8, .inl f_h0_toolWidth)), (h0_width, .inl (g.2.1.1, 9, .inl f_h0_width)), (h0_toolSet, .inl (g.2.1.1, 9, .inl fn86))] → va_S A s.heap H locs → lv_has ls 3 [(0, .ref h0), (1, .int z4), (2, .int v85)] → W p l e rm_kX4_chooseTools s m args below meth c H locs 0 0 Q (F0 m 17 ls []) := by
    intro n98
    induction n98 with
    | zero => intro v85 fn86 H locs ls i100 hm101; exact absurd hm101 (Nat.not_lt_zero _)
    | succ n98 ih99 =>
      intro v85 fn86 H locs ls i100 hm101 hP hD hS hl
      refine lv_iload_n hx hb dX4_chooseTools_17 rfl (lv_at hl 2 rfl) ?_
      refine lv_iload_n hx hb dX4_chooseTools_18 rfl (lv_at hl 1 rfl) ?_
      refine lv_icmp_ge (tgt := 45) hx hb dX4_chooseTools_19 (by decide) (fun c102 => ?_) (fun c102 => ?_)
      · skip
        have c102i : z4.toInt ≤ v85.toInt := (zc_le (rfl : z4.toInt = _) (rfl : v85.toInt = _)).mp c102
        exact hret fn86 (Nat.le_of_ble_eq_true rfl) (Nat.le_of_ble_eq_true rfl) trivial (hP.sub [0, 3, 1, 2] rfl) (hD.sub [0, 3, 1, 2] (by decide) rfl) hS dX4_chooseTools_45
      · skip
        have c102i : ¬ (z4.toInt ≤ v85.toInt) := fun q => c102 ((zc_le (rfl : z4.toInt = _) (rfl : v85.toInt = _)).mpr q)
        refine lv_iload_n hx hb dX4_chooseTools_22 rfl (lv_at hl 2 rfl) ?_
        refine lv_sipush (v := 256) hx hb dX4_chooseTools_23 (by decide) ?_
        refine lv_icmp_ge (tgt := 45) hx hb dX4_chooseTools_26 (by decide) (fun c103 => absurd c103 (fun q9 => absurd ((zc_le (show (256 : Int32).toInt = (256 : Int) from by decide) (rfl : v85.toInt = _)).mp q9) (ox_676 c102i f6 i100))) (fun c103 => ?_)
        refine lv_aload_n hx hb dX4_chooseTools_29 rfl (lv_at hl 0 rfl) ?_
        refine lv_iload_n hx hb dX4_chooseTools_30 rfl (lv_at hl 2 rfl) ?_
        refine lv_aload_n hx hb dX4_chooseTools_31 rfl (lv_at hl 0 rfl) ?_
        refine lv_iload_n hx hb dX4_chooseTools_32 rfl (lv_at hl 2 rfl) ?_
        refine zfi (wr := [(h0_width, .inl (g.2.1.1, 9, .inl f_h0_width)), (h0_toolSet, .inl (g.2.1.1, 9, .inl fn86))]) (va_runV (As := [.int v85]) (rest := [.int v85, .ref h0]) ⟨hx, hb, hml, hown, hG⟩ (kX4_widthOfTools l g h0 v85 h0_count h0_statements h0_thick h0_punch h0_ups h0_toolCount h0_toolWidth h0_told h0_name h0_parent h0_side h0_from h0_width h0_height h0_radius h0_toolSet f_h0_toolWidth (ox_0 hy0) (ox_1 hy1) _) ⟨callB_of 1 hG (zGood wc_X4_widthOfTools) rfl rfl rfl (hG _ wini_X4) (hG _ wm_X4_102) hX4_widthOfTools ⟨Nat.le_of_ble_eq_true rfl, Nat.le_of_ble_eq_true rfl⟩, hG _ wi_X4_widthOfTools, hG _ wse_X4_X4_widthOfTools⟩ (zpreV (va_recv hX.1 hP (ci := 4) (q0 := 0) rfl rfl) hX hP hD hS hA [0, 1] rfl (by decide)) rfl rfl hl.1 rfl (lv_room (Nat.le_of_ble_eq_true rfl)) dX4_chooseTools_33 ⟨Nat.le_of_ble_eq_true rfl, Nat.le_of_ble_eq_true rfl⟩) hP hD hS hA [0, 1] [2, 3] rfl rfl (by decide) (by decide) (fun r104 _ H locs hp hP hD hS => ?_)
        refine W.cs (cells' := 0) (slots' := 0) rfl rfl ?_
        have hP : va_P g.1 vwCl [(h0_width, .inl (g.2.1.1, 9, .inl f_h0_width)), (h0_toolSet, .inl (g.2.1.1, 9, .inl fn86)), (h0, .inr (4, [.int h0_count, .int h0_statements, .int h0_thick, .int h0_punch, .int h0_ups, .int h0_toolCount, .ref h0_toolWidth, .ref h0_told, .ref h0_name, .ref h0_parent, .ref h0_side, .ref h0_from, .ref h0_width, .ref h0_height, .ref h0_radius, .ref h0_toolSet])), (h0_toolWidth, .inl (g.2.1.1, 8, .inl f_h0_toolWidth))] H := hP
        have hD : va_D A [(h0_width, .inl (g.2.1.1, 9, .inl f_h0_width)), (h0_toolSet, .inl (g.2.1.1, 9, .inl fn86)), (h0, .inr (4, [.int h0_count, .int h0_statements, .int h0_thick, .int h0_punch, .int h0_ups, .int h0_toolCount, .ref h0_toolWidth, .ref h0_told, .ref h0_name, .ref h0_parent, .ref h0_side, .ref h0_from, .ref h0_width, .ref h0_height, .ref h0_radius, .ref h0_toolSet])), (h0_toolWidth, .inl (g.2.1.1, 8, .inl f_h0_toolWidth))] := hD
        refine zfv (wr := [(h0_toolWidth, .inl (g.2.1.1, 8, .inl f_h0_toolWidth))]) (va_runV (As := [.int v85, .int r104]) (rest := []) ⟨hx, hb, hml, hown, hG⟩ (kX4_offerTools l g h0 v85 r104 h0_count h0_statements h0_thick h0_punch h0_ups h0_toolCount h0_toolWidth h0_told h0_name h0_parent h0_side h0_from h0_width h0_height h0_radius h0_toolSet fn86 f_h0_width (ox_0 hy0) (ox_1 hy1) _) ⟨callB_of 2 hG (zGood wc_X4_offerTools) rfl rfl rfl (hG _ wini_X4) (hG _ wm_X4_105) hX4_offerTools ⟨Nat.le_of_ble_eq_true rfl, Nat.le_of_ble_eq_true rfl⟩, hG _ wi_X4_offerTools, hG _ wse_X4_X4_offerTools⟩ (zpreV (va_recv hX.1 hP (ci := 4) (q0 := 2) rfl rfl) hX hP hD hS hA [2, 1, 0] rfl (by decide)) rfl rfl hl.1 rfl (lv_room (Nat.le_of_ble_eq_true rfl)) dX4_chooseTools_36 ⟨Nat.le_of_ble_eq_true rfl, Nat.le_of_ble_eq_true rfl⟩) hP hD hS hA [2, 1, 0] [3] rfl rfl (by decide) (by decide) (fun u106 H locs hp hP hD hS => ?_)
        refine W.cs (cells' := 0) (slots' := 0) rfl rfl ?_
        obtain ⟨f107, rfl⟩ : ∃ z9, z9 = u106 := ⟨_, rfl⟩
        have hP : va_P g.1 vwCl [(h0_toolWidth, .inl (g.2.1.1, 8, .inl f_h0_toolWidth)), (h0, .inr (4, [.int h0_count, .int h0_statements, .int h0_thick, .int h0_punch, .int h0_ups, .int h0_toolCount, .ref h0_toolWidth, .ref h0_told, .ref h0_name, .ref h0_parent, .ref h0_side, .ref h0_from, .ref h0_width, .ref h0_height, .ref h0_radius, .ref h0_toolSet])), (h0_toolSet, .inl (g.2.1.1, 9, .inl f107)), (h0_width, .inl (g.2.1.1, 9, .inl f_h0_width))] H := hP
        have hD : va_D A [(h0_toolWidth, .inl (g.2.1.1, 8, .inl f_h0_toolWidth)), (h0, .inr (4, [.int h0_count, .int h0_statements, .int h0_thick, .int h0_punch, .int h0_ups, .int h0_toolCount, .ref h0_toolWidth, .ref h0_told, .ref h0_name, .ref h0_parent, .ref h0_side, .ref h0_from, .ref h0_width, .ref h0_height, .ref h0_radius, .ref h0_toolSet])), (h0_toolSet, .inl (g.2.1.1, 9, .inl f107)), (h0_width, .inl (g.2.1.1, 9, .inl f_h0_width))] := hD
        obtain ⟨z108, e109⟩ : ∃ y9 : Int32, y9 = v85 + 1 := ⟨_, rfl⟩
        have f110 : z108.toInt = v85.toInt + 1 := za e109 (rfl : v85.toInt = _) (show (1 : Int32).toInt = (1 : Int) from by decide) (ox_677 (zr v85) (zr z4) c102i f6 i100)
        refine lv_iinc (v := z108) (lv' := [(2, .int z108), (0, .ref h0), (1, .int z4)]) hx hb dX4_chooseTools_39 hl (k := 2) rfl (by rw [e109]; rfl) (by decide) rfl (fun ls hl => ?_)
        refine lv_goto (tgt := 17) hx hb dX4_chooseTools_42 (by decide) ?_
        exact ih99 z108 f107 H locs ls (ox_678 c102i f110 f6 i100) (zdec hm101 (ox_679 c102i f110 f6 i100)) (hP.sub [1, 0, 3, 2] rfl) (hD.sub [1, 0, 3, 2] (by decide) rfl) hS (lv_sub hl [1, 2, 0] rfl)
  exact L97 _ (1 : Int32) f3 H locs ls ((show 1 ≤ (1 : Int) ∧ (1 : Int) ≤ 256 from by decide)) (Nat.lt_succ_self _) hP hD hS (lv_sub hl [2, 1, 0] rfl)
