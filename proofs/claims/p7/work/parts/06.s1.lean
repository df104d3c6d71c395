theorem ox_0 {a0 : Int} (h0 : 0 ≤ a0 ∧ a0 ≤ 9) : 0 ≤ a0 ∧ a0 ≤ 9 := by omega
theorem ox_1 {a0 : Int} (h0 : 0 ≤ a0 ∧ a0 ≤ 8) : 0 ≤ a0 ∧ a0 ≤ 8 := by omega
theorem ox_2 {a0 : Int} (h0 : -2147483648 ≤ a0 ∧ a0 < 2147483648) (h1 : (2 : Int) ≤ a0) (h2 : 0 ≤ a0 ∧ a0 ≤ 9) : -2147483648 ≤ a0 - (1 : Int) ∧ a0 - (1 : Int) < 2147483648 := by omega
theorem ox_3 {a0 a1 : Int} (h0 : (2 : Int) ≤ a1) (h1 : a0 = a1 - (1 : Int)) (h2 : 0 ≤ a1 ∧ a1 ≤ 9) : 0 ≤ a0 ∧ a0 ≤ 8 := by omega
theorem ox_4 {a0 : Int} (h0 : -2147483648 ≤ a0 ∧ a0 < 2147483648) (h1 : 1 ≤ a0 ∧ a0 ≤ 256) : -2147483648 ≤ a0 - (1 : Int) ∧ a0 - (1 : Int) < 2147483648 := by omega
theorem ox_5 {a0 a1 : Int} (h0 : a0 = a1 - (1 : Int)) (h1 : 1 ≤ a1 ∧ a1 ≤ 256) : 0 ≤ a0 ∧ a0 ≤ 255 := by omega
theorem ox_6 {a0 : Int} (h0 : 0 ≤ a0 ∧ a0 ≤ 8) : 0 ≤ a0 ∧ a0 < 9 := by omega
theorem ox_7 {a0 : Int} (h0 : ¬ (a0 ≤ (0 : Int))) (h1 : 0 ≤ a0 ∧ a0 ≤ 8) : 0 ≤ a0 ∧ a0 < 9 := by omega
theorem ox_8 {a0 : Int} (h0 : -2147483648 ≤ a0 ∧ a0 < 2147483648) (h1 : 0 ≤ a0 ∧ a0 ≤ 3) : -2147483648 ≤ a0 + (2 : Int) ∧ a0 + (2 : Int) < 2147483648 := by omega
theorem ox_9 {a0 a1 : Int} (h0 : a0 = a1 + (2 : Int)) (h1 : 0 ≤ a1 ∧ a1 ≤ 3) : (0 : Int) ≤ a0 ∧ (0 : Int) < (4 : Int) := by omega
theorem ox_10 {a0 : Int} (h0 : (9 : Int) ≤ a0) (h1 : 0 ≤ a0 ∧ a0 ≤ 9) : 0 ≤ a0 ∧ a0 ≤ 9 := by omega
theorem ox_11 {a0 : Int} (h0 : -2147483648 ≤ a0 ∧ a0 < 2147483648) (h1 : ¬ ((9 : Int) ≤ a0)) (h2 : 0 ≤ a0 ∧ a0 ≤ 9) : -2147483648 ≤ a0 + 1 ∧ a0 + 1 < 2147483648 := by omega
theorem ox_12 {a0 a1 : Int} (h0 : ¬ ((9 : Int) ≤ a1)) (h1 : a0 = a1 + 1) (h2 : 0 ≤ a1 ∧ a1 ≤ 9) : 0 ≤ a0 ∧ a0 ≤ 9 := by omega
theorem ox_13 {a0 a1 : Int} (h0 : ¬ ((9 : Int) ≤ a1)) (h1 : a0 = a1 + 1) (h2 : 0 ≤ a1 ∧ a1 ≤ 9) : (10 - a0).toNat < (10 - a1).toNat := by omega
theorem ox_14 {a0 a1 : Int} (h0 : ¬ (a0 ≤ (0 : Int))) (h1 : ¬ (a0 = a1)) (h2 : 0 ≤ a0 ∧ a0 ≤ 8) : 0 ≤ a0 ∧ a0 < 9 := by omega
theorem ox_15 {a0 a1 : Int} (h0 : ¬ (a1 ≤ a0)) (h1 : 0 ≤ a1 ∧ a1 ≤ 9) (h2 : 1 ≤ a0 ∧ a0 ≤ 9) : 0 ≤ a0 ∧ a0 ≤ 8 := by omega
theorem ox_16 {a0 a1 : Int} (h0 : ¬ (a0 ≤ a1)) (h1 : 0 ≤ a0 ∧ a0 ≤ 9) (h2 : 1 ≤ a1 ∧ a1 ≤ 9) : 0 ≤ a0 ∧ a0 ≤ 9 := by omega
theorem ox_17 {a0 a1 : Int} (h0 : -2147483648 ≤ a1 ∧ a1 < 2147483648) (h1 : -2147483648 ≤ a0 ∧ a0 < 2147483648) (h2 : ¬ (a1 ≤ a0)) (h3 : 0 ≤ a1 ∧ a1 ≤ 9) (h4 : 1 ≤ a0 ∧ a0 ≤ 9) : -2147483648 ≤ a0 + 1 ∧ a0 + 1 < 2147483648 := by omega
theorem ox_18 {a0 a1 a2 : Int} (h0 : ¬ (a1 ≤ a2)) (h1 : a0 = a2 + 1) (h2 : 0 ≤ a1 ∧ a1 ≤ 9) (h3 : 1 ≤ a2 ∧ a2 ≤ 9) : 1 ≤ a0 ∧ a0 ≤ 9 := by omega
theorem ox_19 {a0 a1 a2 : Int} (h0 : ¬ (a2 ≤ a1)) (h1 : a0 = a1 + 1) (h2 : 0 ≤ a2 ∧ a2 ≤ 9) (h3 : 1 ≤ a1 ∧ a1 ≤ 9) : (10 - a0).toNat < (10 - a1).toNat := by omega
theorem ox_20 {a0 : Int} (h0 : 0 ≤ a0 ∧ a0 ≤ 18) : 0 ≤ a0 ∧ a0 ≤ 18 := by omega
theorem ox_21 {a0 : Int} (h0 : (18 : Int) ≤ a0) (h1 : 0 ≤ a0 ∧ a0 ≤ 18) : 0 ≤ a0 ∧ a0 ≤ 18 := by omega
theorem ox_22 {a0 : Int} (h0 : -2147483648 ≤ a0 ∧ a0 < 2147483648) (h1 : ¬ ((18 : Int) ≤ a0)) (h2 : 0 ≤ a0 ∧ a0 ≤ 18) : -2147483648 ≤ a0 + 1 ∧ a0 + 1 < 2147483648 := by omega
theorem ox_23 {a0 a1 : Int} (h0 : ¬ ((18 : Int) ≤ a1)) (h1 : a0 = a1 + 1) (h2 : 0 ≤ a1 ∧ a1 ≤ 18) : 0 ≤ a0 ∧ a0 ≤ 18 := by omega
theorem ox_24 {a0 a1 : Int} (h0 : ¬ ((18 : Int) ≤ a1)) (h1 : a0 = a1 + 1) (h2 : 0 ≤ a1 ∧ a1 ≤ 18) : (19 - a0).toNat < (19 - a1).toNat := by omega
theorem ox_25 {a0 a1 : Int} (h0 : ¬ (a1 = a0)) (h1 : a1 ≤ a0) (h2 : 0 ≤ a1 ∧ a1 ≤ 8) (h3 : 0 ≤ a0 ∧ a0 ≤ 8) : 0 ≤ a0 ∧ a0 < 9 := by omega
theorem ox_26 {a0 a1 : Int} (h0 : ¬ (a0 = a1)) (h1 : a0 ≤ a1) (h2 : 0 ≤ a0 ∧ a0 ≤ 8) (h3 : 0 ≤ a1 ∧ a1 ≤ 8) : 0 ≤ a0 ∧ a0 ≤ 8 := by omega
theorem ox_27 {a0 a1 : Int} (h0 : ¬ (a0 = a1)) (h1 : ¬ (a0 ≤ a1)) (h2 : 0 ≤ a0 ∧ a0 ≤ 8) (h3 : 0 ≤ a1 ∧ a1 ≤ 8) : 0 ≤ a0 ∧ a0 < 9 := by omega
theorem ox_28 {a0 a1 : Int} (h0 : ¬ (a1 = a0)) (h1 : ¬ (a1 ≤ a0)) (h2 : 0 ≤ a1 ∧ a1 ≤ 8) (h3 : 0 ≤ a0 ∧ a0 ≤ 8) : 0 ≤ a0 ∧ a0 ≤ 8 := by omega
theorem ox_29 {a0 a1 : Int} (h0 : -2147483648 ≤ a1 ∧ a1 < 2147483648) (h1 : -2147483648 ≤ a0 ∧ a0 < 2147483648) (h2 : ¬ (a1 ≤ a0)) (h3 : 0 ≤ a1 ∧ a1 ≤ 8) (h4 : 0 ≤ a0 ∧ a0 ≤ 8) : -2147483648 ≤ a0 + 1 ∧ a0 + 1 < 2147483648 := by omega
theorem ox_30 {a0 a1 a2 : Int} (h0 : ¬ (a1 ≤ a2)) (h1 : a0 = a2 + 1) (h2 : 0 ≤ a1 ∧ a1 ≤ 8) (h3 : 0 ≤ a2 ∧ a2 ≤ 8) : 0 ≤ a0 ∧ a0 ≤ 8 := by omega
theorem ox_31 {a0 a1 a2 : Int} (h0 : ¬ (a2 ≤ a1)) (h1 : a0 = a1 + 1) (h2 : 0 ≤ a2 ∧ a2 ≤ 8) (h3 : 0 ≤ a1 ∧ a1 ≤ 8) : (9 - a0).toNat < (9 - a1).toNat := by omega
theorem ox_32 {a0 a1 : Int} (h0 : ¬ (a1 ≤ a0)) (h1 : 0 ≤ a1 ∧ a1 ≤ 8) (h2 : 0 ≤ a0 ∧ a0 ≤ 8) : 0 ≤ a0 ∧ a0 < 8 := by omega
theorem ox_33 {a0 : Int} (h0 : 0 ≤ a0 ∧ a0 ≤ 1) : 0 ≤ a0 ∧ a0 ≤ 1 := by omega
theorem ox_34 {a0 a1 : Int} (h0 : ¬ (a1 ≤ a0)) (h1 : 0 ≤ a1 ∧ a1 ≤ 9) (h2 : 1 ≤ a0 ∧ a0 ≤ 9) : 0 ≤ a0 ∧ a0 < 9 := by omega
theorem ox_35 {a0 a1 : Int} (h0 : 0 ≤ a0 ∧ a0 ≤ 1) (h1 : 0 ≤ a1 ∧ a1 ≤ 1) : (0 : Int) ≤ a0 ∧ (a0 : Int) < 2 ∧ (0 : Int) ≤ a1 ∧ (a1 : Int) < 2 := by omega
theorem ox_36 {a0 : Int} (h0 : 0 ≤ a0 ∧ a0 < 2) : 0 ≤ a0 ∧ a0 ≤ 1 := by omega
theorem ox_37 {a0 : Int} (h0 : 0 ≤ a0 ∧ a0 ≤ 1200) : 0 ≤ a0 ∧ a0 ≤ 1200 := by omega
theorem ox_38 {a0 : Int} (h0 : (1200 : Int) ≤ a0) (h1 : 0 ≤ a0 ∧ a0 ≤ 1200) : 0 ≤ a0 ∧ a0 ≤ 1200 := by omega
theorem ox_39 {a0 : Int} (h0 : ¬ ((1200 : Int) ≤ a0)) (h1 : 0 ≤ a0 ∧ a0 ≤ 1200) : 0 ≤ a0 ∧ a0 < 1200 := by omega
theorem ox_40 {a0 : Int} (h0 : -2147483648 ≤ a0 ∧ a0 < 2147483648) (h1 : ¬ ((1200 : Int) ≤ a0)) (h2 : 0 ≤ a0 ∧ a0 ≤ 1200) : -2147483648 ≤ a0 + (1 : Int) ∧ a0 + (1 : Int) < 2147483648 := by omega
theorem ox_41 {a0 : Int} (h0 : -2147483648 ≤ a0 ∧ a0 < 2147483648) (h1 : ¬ (a0 < (0 : Int))) (h2 : (-8) ≤ a0 ∧ a0 ≤ 24) : -2147483648 ≤ a0 + (-8) ∧ a0 + (-8) < 2147483648 := by omega
theorem ox_42 {a0 a1 : Int} (h0 : ¬ (a1 < (0 : Int))) (h1 : a0 = a1 + (-8)) (h2 : (-8) ≤ a1 ∧ a1 ≤ 24) : (-8) ≤ a0 ∧ a0 ≤ 24 := by omega
theorem ox_43 {a0 a1 : Int} (h0 : ¬ ((1200 : Int) ≤ a1)) (h1 : a0 = a1 + (1 : Int)) (h2 : 0 ≤ a1 ∧ a1 ≤ 1200) : 0 ≤ a0 ∧ a0 ≤ 1200 := by omega
theorem ox_44 {a0 a1 : Int} (h0 : ¬ (a1 < (0 : Int))) (h1 : a0 = a1 + (-8)) (h2 : (-8) ≤ a1 ∧ a1 ≤ 24) : (a0 - (-9)).toNat < (a1 - (-9)).toNat := by omega
theorem ox_45 {a0 a1 : Int} (h0 : ¬ (a0 < (0 : Int))) (h1 : ¬ (a1 ≤ a0)) (h2 : 0 ≤ a1 ∧ a1 ≤ 1200) : ¬ ((1200 : Int) ≤ a0) := by omega
theorem ox_46 {a0 a1 : Int} (h0 : ¬ (a0 < (0 : Int))) (h1 : ¬ (a1 ≤ a0)) (h2 : 0 ≤ a1 ∧ a1 ≤ 1200) : 0 ≤ a0 ∧ a0 < 1200 := by omega
theorem ox_47 {a0 : Int} (h0 : 0 ≤ a0 ∧ a0 ≤ (255 : Int)) : (-1) ≤ a0 ∧ a0 ≤ 255 := by omega
theorem ox_48 {a0 : Int} (h0 : 0 ≤ a0 ∧ a0 ≤ 5) : 0 ≤ a0 ∧ a0 ≤ 5 := by omega
theorem ox_49 {a0 : Int} (h0 : -2147483648 ≤ a0 ∧ a0 < 2147483648) (h1 : 0 ≤ a0 ∧ a0 ≤ 17) : -2147483648 ≤ (3 : Int) * a0 ∧ (3 : Int) * a0 < 2147483648 := by omega
theorem ox_50 {a0 a1 a2 : Int} (h0 : -2147483648 ≤ a2 ∧ a2 < 2147483648) (h1 : -2147483648 ≤ a1 ∧ a1 < 2147483648) (h2 : -2147483648 ≤ a0 ∧ a0 < 2147483648) (h3 : a0 = (3 : Int) * a2) (h4 : 0 ≤ a2 ∧ a2 ≤ 17) (h5 : 0 ≤ a1 ∧ a1 ≤ 2) : -2147483648 ≤ a0 + a1 ∧ a0 + a1 < 2147483648 := by omega
theorem ox_51 {a0 a1 a2 a3 : Int} (h0 : a1 = (3 : Int) * a2) (h1 : a0 = a1 + a3) (h2 : 0 ≤ a2 ∧ a2 ≤ 17) (h3 : 0 ≤ a3 ∧ a3 ≤ 2) : 0 ≤ a0 ∧ a0 < 54 := by omega
theorem ox_52 {a0 : Int} (h0 : 0 ≤ a0 ∧ a0 ≤ 17) : 0 ≤ a0 ∧ a0 < 18 := by omega
theorem ox_53 {a0 a1 : Int} (h0 : -2147483648 ≤ a1 ∧ a1 < 2147483648) (h1 : -2147483648 ≤ a0 ∧ a0 < 2147483648) (h2 : a0 = a1 / 2) (h3 : 0 ≤ a1 ∧ a1 ≤ 5) : -2147483648 ≤ a0 + (1 : Int) ∧ a0 + (1 : Int) < 2147483648 := by omega
theorem ox_54 {a0 a1 a2 : Int} (h0 : -2147483648 ≤ a1 ∧ a1 < 2147483648) (h1 : -2147483648 ≤ a2 ∧ a2 < 2147483648) (h2 : -2147483648 ≤ a0 ∧ a0 < 2147483648) (h3 : a2 = a1 / 2) (h4 : a0 = a2 + (1 : Int)) (h5 : 0 ≤ a1 ∧ a1 ≤ 5) : -2147483648 ≤ -a0 ∧ -a0 < 2147483648 := by omega
theorem ox_55 {a0 a1 a2 a3 : Int} (h0 : a0 = -a1) (h1 : a2 = a3 / 2) (h2 : a1 = a2 + (1 : Int)) (h3 : 0 ≤ a3 ∧ a3 ≤ 5) : (-3) ≤ a0 ∧ a0 ≤ 3 := by omega
theorem ox_56 {a0 a1 a2 : Int} (h0 : a1 = a2 / 2) (h1 : a0 = a1 + (1 : Int)) (h2 : 0 ≤ a2 ∧ a2 ≤ 5) : (-3) ≤ a0 ∧ a0 ≤ 3 := by omega
theorem ox_57 {a0 a1 a2 a3 : Int} (h0 : -2147483648 ≤ a0 ∧ a0 < 2147483648) (h1 : -2147483648 ≤ a1 ∧ a1 < 2147483648) (h2 : -2147483648 ≤ a2 ∧ a2 < 2147483648) (h3 : -2147483648 ≤ a3 ∧ a3 < 2147483648) (h4 : a2 = (3 : Int) * a0) (h5 : a3 = a2 + a1) (h6 : 0 ≤ a0 ∧ a0 ≤ 17) (h7 : 0 ≤ a1 ∧ a1 ≤ 2) : -2147483648 ≤ (3 : Int) * a0 ∧ (3 : Int) * a0 < 2147483648 := by omega
theorem ox_58 {a0 a1 a2 a3 a4 : Int} (h0 : -2147483648 ≤ a2 ∧ a2 < 2147483648) (h1 : -2147483648 ≤ a1 ∧ a1 < 2147483648) (h2 : -2147483648 ≤ a3 ∧ a3 < 2147483648) (h3 : -2147483648 ≤ a4 ∧ a4 < 2147483648) (h4 : -2147483648 ≤ a0 ∧ a0 < 2147483648) (h5 : a0 = (3 : Int) * a2) (h6 : a3 = (3 : Int) * a2) (h7 : a4 = a3 + a1) (h8 : 0 ≤ a2 ∧ a2 ≤ 17) (h9 : 0 ≤ a1 ∧ a1 ≤ 2) : -2147483648 ≤ a0 + a1 ∧ a0 + a1 < 2147483648 := by omega
theorem ox_59 {a0 a1 a2 a3 a4 a5 : Int} (h0 : a1 = (3 : Int) * a2) (h1 : a0 = a1 + a3) (h2 : a4 = (3 : Int) * a2) (h3 : a5 = a4 + a3) (h4 : 0 ≤ a2 ∧ a2 ≤ 17) (h5 : 0 ≤ a3 ∧ a3 ≤ 2) : 0 ≤ a0 ∧ a0 < 54 := by omega
theorem ox_60 {a0 a1 a2 a3 a4 a5 a6 a7 : Int} (h0 : -2147483648 ≤ a2 ∧ a2 < 2147483648) (h1 : -2147483648 ≤ a3 ∧ a3 < 2147483648) (h2 : -2147483648 ≤ a1 ∧ a1 < 2147483648) (h3 : -2147483648 ≤ a4 ∧ a4 < 2147483648) (h4 : -2147483648 ≤ a5 ∧ a5 < 2147483648) (h5 : -2147483648 ≤ a0 ∧ a0 < 2147483648) (h6 : -2147483648 ≤ a6 ∧ a6 < 2147483648) (h7 : -2147483648 ≤ a7 ∧ a7 < 2147483648) (h8 : a7 = (3 : Int) * a2) (h9 : a5 = a7 + a1) (h10 : a0 = (3 : Int) * a3) (h11 : a4 = (3 : Int) * a2) (h12 : a6 = a4 + a1) (h13 : 0 ≤ a2 ∧ a2 ≤ 17) (h14 : 0 ≤ a3 ∧ a3 ≤ 17) (h15 : 0 ≤ a1 ∧ a1 ≤ 2) : -2147483648 ≤ a0 + a1 ∧ a0 + a1 < 2147483648 := by omega
theorem ox_61 {a0 a1 a2 a3 a4 a5 a6 a7 a8 : Int} (h0 : a1 = (3 : Int) * a2) (h1 : a3 = a1 + a4) (h2 : a5 = (3 : Int) * a6) (h3 : a0 = a5 + a4) (h4 : a7 = (3 : Int) * a2) (h5 : a8 = a7 + a4) (h6 : 0 ≤ a2 ∧ a2 ≤ 17) (h7 : 0 ≤ a6 ∧ a6 ≤ 17) (h8 : 0 ≤ a4 ∧ a4 ≤ 2) : 0 ≤ a0 ∧ a0 < 54 := by omega
theorem ox_62 {a0 a1 a2 a3 a4 a5 a6 a7 a8 : Int} (h0 : -2147483648 ≤ a1 ∧ a1 < 2147483648) (h1 : -2147483648 ≤ a0 ∧ a0 < 2147483648) (h2 : -2147483648 ≤ a2 ∧ a2 < 2147483648) (h3 : -2147483648 ≤ a3 ∧ a3 < 2147483648) (h4 : -2147483648 ≤ a4 ∧ a4 < 2147483648) (h5 : -2147483648 ≤ a5 ∧ a5 < 2147483648) (h6 : -2147483648 ≤ a6 ∧ a6 < 2147483648) (h7 : -2147483648 ≤ a7 ∧ a7 < 2147483648) (h8 : -2147483648 ≤ a8 ∧ a8 < 2147483648) (h9 : a8 = (3 : Int) * a1) (h10 : a4 = a8 + a2) (h11 : a5 = (3 : Int) * a0) (h12 : a6 = a5 + a2) (h13 : a3 = (3 : Int) * a1) (h14 : a7 = a3 + a2) (h15 : 0 ≤ a1 ∧ a1 ≤ 17) (h16 : 0 ≤ a0 ∧ a0 ≤ 17) (h17 : 0 ≤ a2 ∧ a2 ≤ 2) : -2147483648 ≤ (3 : Int) * a0 ∧ (3 : Int) * a0 < 2147483648 := by omega
theorem ox_63 {a0 a1 a2 a3 a4 a5 a6 a7 a8 a9 : Int} (h0 : -2147483648 ≤ a2 ∧ a2 < 2147483648) (h1 : -2147483648 ≤ a3 ∧ a3 < 2147483648) (h2 : -2147483648 ≤ a1 ∧ a1 < 2147483648) (h3 : -2147483648 ≤ a4 ∧ a4 < 2147483648) (h4 : -2147483648 ≤ a5 ∧ a5 < 2147483648) (h5 : -2147483648 ≤ a6 ∧ a6 < 2147483648) (h6 : -2147483648 ≤ a7 ∧ a7 < 2147483648) (h7 : -2147483648 ≤ a0 ∧ a0 < 2147483648) (h8 : -2147483648 ≤ a8 ∧ a8 < 2147483648) (h9 : -2147483648 ≤ a9 ∧ a9 < 2147483648) (h10 : a9 = (3 : Int) * a2) (h11 : a5 = a9 + a1) (h12 : a6 = (3 : Int) * a3) (h13 : a7 = a6 + a1) (h14 : a0 = (3 : Int) * a3) (h15 : a4 = (3 : Int) * a2) (h16 : a8 = a4 + a1) (h17 : 0 ≤ a2 ∧ a2 ≤ 17) (h18 : 0 ≤ a3 ∧ a3 ≤ 17) (h19 : 0 ≤ a1 ∧ a1 ≤ 2) : -2147483648 ≤ a0 + a1 ∧ a0 + a1 < 2147483648 := by omega
theorem ox_64 {a0 a1 a2 a3 a4 a5 a6 a7 a8 a9 a10 : Int} (h0 : a1 = (3 : Int) * a2) (h1 : a3 = a1 + a4) (h2 : a5 = (3 : Int) * a6) (h3 : a7 = a5 + a4) (h4 : a8 = (3 : Int) * a6) (h5 : a9 = (3 : Int) * a2) (h6 : a0 = a8 + a4) (h7 : a10 = a9 + a4) (h8 : 0 ≤ a2 ∧ a2 ≤ 17) (h9 : 0 ≤ a6 ∧ a6 ≤ 17) (h10 : 0 ≤ a4 ∧ a4 ≤ 2) : 0 ≤ a0 ∧ a0 < 54 := by omega
theorem ox_65 {a0 a1 a2 a3 a4 a5 : Int} (h0 : -2147483648 ≤ a2 ∧ a2 < 2147483648) (h1 : -2147483648 ≤ a3 ∧ a3 < 2147483648) (h2 : -2147483648 ≤ a1 ∧ a1 < 2147483648) (h3 : -2147483648 ≤ a4 ∧ a4 < 2147483648) (h4 : -2147483648 ≤ a5 ∧ a5 < 2147483648) (h5 : -2147483648 ≤ a0 ∧ a0 < 2147483648) (h6 : a0 = (3 : Int) * a3) (h7 : a4 = (3 : Int) * a2) (h8 : a5 = a4 + a1) (h9 : 0 ≤ a2 ∧ a2 ≤ 17) (h10 : 0 ≤ a3 ∧ a3 ≤ 17) (h11 : 0 ≤ a1 ∧ a1 ≤ 2) : -2147483648 ≤ a0 + a1 ∧ a0 + a1 < 2147483648 := by omega
theorem ox_66 {a0 a1 a2 a3 a4 a5 a6 : Int} (h0 : a1 = (3 : Int) * a2) (h1 : a0 = a1 + a3) (h2 : a4 = (3 : Int) * a5) (h3 : a6 = a4 + a3) (h4 : 0 ≤ a5 ∧ a5 ≤ 17) (h5 : 0 ≤ a2 ∧ a2 ≤ 17) (h6 : 0 ≤ a3 ∧ a3 ≤ 2) : 0 ≤ a0 ∧ a0 < 54 := by omega
theorem ox_67 {a0 a1 a2 a3 a4 a5 a6 : Int} (h0 : -2147483648 ≤ a1 ∧ a1 < 2147483648) (h1 : -2147483648 ≤ a0 ∧ a0 < 2147483648) (h2 : -2147483648 ≤ a2 ∧ a2 < 2147483648) (h3 : -2147483648 ≤ a3 ∧ a3 < 2147483648) (h4 : -2147483648 ≤ a4 ∧ a4 < 2147483648) (h5 : -2147483648 ≤ a5 ∧ a5 < 2147483648) (h6 : -2147483648 ≤ a6 ∧ a6 < 2147483648) (h7 : a6 = (3 : Int) * a0) (h8 : a4 = a6 + a2) (h9 : a3 = (3 : Int) * a1) (h10 : a5 = a3 + a2) (h11 : 0 ≤ a1 ∧ a1 ≤ 17) (h12 : 0 ≤ a0 ∧ a0 ≤ 17) (h13 : 0 ≤ a2 ∧ a2 ≤ 2) : -2147483648 ≤ (3 : Int) * a0 ∧ (3 : Int) * a0 < 2147483648 := by omega
theorem ox_68 {a0 a1 a2 a3 a4 a5 a6 a7 : Int} (h0 : -2147483648 ≤ a2 ∧ a2 < 2147483648) (h1 : -2147483648 ≤ a3 ∧ a3 < 2147483648) (h2 : -2147483648 ≤ a1 ∧ a1 < 2147483648) (h3 : -2147483648 ≤ a4 ∧ a4 < 2147483648) (h4 : -2147483648 ≤ a5 ∧ a5 < 2147483648) (h5 : -2147483648 ≤ a0 ∧ a0 < 2147483648) (h6 : -2147483648 ≤ a6 ∧ a6 < 2147483648) (h7 : -2147483648 ≤ a7 ∧ a7 < 2147483648) (h8 : a7 = (3 : Int) * a3) (h9 : a5 = a7 + a1) (h10 : a0 = (3 : Int) * a3) (h11 : a4 = (3 : Int) * a2) (h12 : a6 = a4 + a1) (h13 : 0 ≤ a2 ∧ a2 ≤ 17) (h14 : 0 ≤ a3 ∧ a3 ≤ 17) (h15 : 0 ≤ a1 ∧ a1 ≤ 2) : -2147483648 ≤ a0 + a1 ∧ a0 + a1 < 2147483648 := by omega
theorem ox_69 {a0 a1 a2 a3 a4 a5 a6 a7 a8 : Int} (h0 : a1 = (3 : Int) * a2) (h1 : a3 = a1 + a4) (h2 : a5 = (3 : Int) * a2) (h3 : a0 = a5 + a4) (h4 : a6 = (3 : Int) * a7) (h5 : a8 = a6 + a4) (h6 : 0 ≤ a7 ∧ a7 ≤ 17) (h7 : 0 ≤ a2 ∧ a2 ≤ 17) (h8 : 0 ≤ a4 ∧ a4 ≤ 2) : 0 ≤ a0 ∧ a0 < 54 := by omega
theorem ox_70 {a0 : Int} (h0 : 0 ≤ a0 ∧ a0 ≤ 17) : 0 ≤ a0 ∧ a0 ≤ 17 := by omega
theorem ox_71 {a0 a1 a2 a3 : Int} (h0 : ¬ (a0 = a1)) (h1 : a1 = a2 / 2) (h2 : a0 = a3 / 2) (h3 : 0 ≤ a3 ∧ a3 ≤ 5) (h4 : 0 ≤ a2 ∧ a2 ≤ 5) : 0 ≤ a0 ∧ a0 ≤ 2 := by omega
theorem ox_72 {a0 a1 a2 a3 : Int} (h0 : ¬ (a1 = a0)) (h1 : a0 = a2 / 2) (h2 : a1 = a3 / 2) (h3 : 0 ≤ a3 ∧ a3 ≤ 5) (h4 : 0 ≤ a2 ∧ a2 ≤ 5) : 0 ≤ a0 ∧ a0 ≤ 2 := by omega
theorem ox_73 {a0 a1 a2 a3 : Int} (h0 : -2147483648 ≤ a1 ∧ a1 < 2147483648) (h1 : -2147483648 ≤ a2 ∧ a2 < 2147483648) (h2 : -2147483648 ≤ a0 ∧ a0 < 2147483648) (h3 : -2147483648 ≤ a3 ∧ a3 < 2147483648) (h4 : ¬ (a0 = a2)) (h5 : a2 = a3 / 2) (h6 : a0 = a1 / 2) (h7 : 0 ≤ a1 ∧ a1 ≤ 5) (h8 : 0 ≤ a3 ∧ a3 ≤ 5) : -2147483648 ≤ (3 : Int) - a0 ∧ (3 : Int) - a0 < 2147483648 := by omega
theorem ox_74 {a0 a1 a2 a3 a4 : Int} (h0 : -2147483648 ≤ a2 ∧ a2 < 2147483648) (h1 : -2147483648 ≤ a1 ∧ a1 < 2147483648) (h2 : -2147483648 ≤ a0 ∧ a0 < 2147483648) (h3 : -2147483648 ≤ a3 ∧ a3 < 2147483648) (h4 : -2147483648 ≤ a4 ∧ a4 < 2147483648) (h5 : ¬ (a3 = a1)) (h6 : a1 = a4 / 2) (h7 : a0 = (3 : Int) - a3) (h8 : a3 = a2 / 2) (h9 : 0 ≤ a2 ∧ a2 ≤ 5) (h10 : 0 ≤ a4 ∧ a4 ≤ 5) : -2147483648 ≤ a0 - a1 ∧ a0 - a1 < 2147483648 := by omega
theorem ox_75 {a0 a1 a2 a3 a4 a5 : Int} (h0 : ¬ (a1 = a2)) (h1 : a2 = a3 / 2) (h2 : a4 = (3 : Int) - a1) (h3 : a0 = a4 - a2) (h4 : a1 = a5 / 2) (h5 : 0 ≤ a5 ∧ a5 ≤ 5) (h6 : 0 ≤ a3 ∧ a3 ≤ 5) : 0 ≤ a0 ∧ a0 ≤ 2 := by omega
theorem ox_76 {a0 a1 a2 a3 a4 a5 : Int} (h0 : -2147483648 ≤ a2 ∧ a2 < 2147483648) (h1 : -2147483648 ≤ a3 ∧ a3 < 2147483648) (h2 : -2147483648 ≤ a4 ∧ a4 < 2147483648) (h3 : -2147483648 ≤ a0 ∧ a0 < 2147483648) (h4 : -2147483648 ≤ a1 ∧ a1 < 2147483648) (h5 : -2147483648 ≤ a5 ∧ a5 < 2147483648) (h6 : a1 = a4) (h7 : a4 = a5 / 2) (h8 : a0 = (3 : Int) * a2) (h9 : a1 = a3 / 2) (h10 : 0 ≤ a2 ∧ a2 ≤ 17) (h11 : 0 ≤ a3 ∧ a3 ≤ 5) (h12 : 0 ≤ a5 ∧ a5 ≤ 5) : -2147483648 ≤ a0 + a1 ∧ a0 + a1 < 2147483648 := by omega
theorem ox_77 {a0 a1 a2 a3 a4 a5 a6 : Int} (h0 : a1 = a2) (h1 : a2 = a3 / 2) (h2 : a4 = (3 : Int) * a5) (h3 : a0 = a4 + a1) (h4 : a1 = a6 / 2) (h5 : 0 ≤ a5 ∧ a5 ≤ 17) (h6 : 0 ≤ a6 ∧ a6 ≤ 5) (h7 : 0 ≤ a3 ∧ a3 ≤ 5) : 0 ≤ a0 ∧ a0 < 54 := by omega
theorem ox_78 {a0 a1 a2 a3 a4 a5 a6 a7 a8 : Int} (h0 : -2147483648 ≤ a2 ∧ a2 < 2147483648) (h1 : -2147483648 ≤ a3 ∧ a3 < 2147483648) (h2 : -2147483648 ≤ a4 ∧ a4 < 2147483648) (h3 : -2147483648 ≤ a5 ∧ a5 < 2147483648) (h4 : -2147483648 ≤ a6 ∧ a6 < 2147483648) (h5 : -2147483648 ≤ a7 ∧ a7 < 2147483648) (h6 : -2147483648 ≤ a0 ∧ a0 < 2147483648) (h7 : -2147483648 ≤ a1 ∧ a1 < 2147483648) (h8 : -2147483648 ≤ a8 ∧ a8 < 2147483648) (h9 : a1 = a5) (h10 : a5 = a8 / 2) (h11 : a6 = (3 : Int) * a2) (h12 : a7 = a6 + a1) (h13 : a0 = (3 : Int) * a3) (h14 : a1 = a4 / 2) (h15 : 0 ≤ a2 ∧ a2 ≤ 17) (h16 : 0 ≤ a3 ∧ a3 ≤ 17) (h17 : 0 ≤ a4 ∧ a4 ≤ 5) (h18 : 0 ≤ a8 ∧ a8 ≤ 5) : -2147483648 ≤ a0 + a1 ∧ a0 + a1 < 2147483648 := by omega
theorem ox_79 {a0 a1 a2 a3 a4 a5 a6 a7 a8 a9 : Int} (h0 : a1 = a2) (h1 : a2 = a3 / 2) (h2 : a4 = (3 : Int) * a5) (h3 : a6 = a4 + a1) (h4 : a7 = (3 : Int) * a8) (h5 : a0 = a7 + a1) (h6 : a1 = a9 / 2) (h7 : 0 ≤ a5 ∧ a5 ≤ 17) (h8 : 0 ≤ a8 ∧ a8 ≤ 17) (h9 : 0 ≤ a9 ∧ a9 ≤ 5) (h10 : 0 ≤ a3 ∧ a3 ≤ 5) : 0 ≤ a0 ∧ a0 < 54 := by omega
theorem ox_80 {a0 a1 a2 a3 a4 a5 a6 a7 a8 a9 : Int} (h0 : -2147483648 ≤ a1 ∧ a1 < 2147483648) (h1 : -2147483648 ≤ a2 ∧ a2 < 2147483648) (h2 : -2147483648 ≤ a3 ∧ a3 < 2147483648) (h3 : -2147483648 ≤ a4 ∧ a4 < 2147483648) (h4 : -2147483648 ≤ a5 ∧ a5 < 2147483648) (h5 : -2147483648 ≤ a6 ∧ a6 < 2147483648) (h6 : -2147483648 ≤ a7 ∧ a7 < 2147483648) (h7 : -2147483648 ≤ a0 ∧ a0 < 2147483648) (h8 : -2147483648 ≤ a8 ∧ a8 < 2147483648) (h9 : -2147483648 ≤ a9 ∧ a9 < 2147483648) (h10 : a0 = a4) (h11 : a4 = a9 / 2) (h12 : a5 = (3 : Int) * a1) (h13 : a6 = a5 + a0) (h14 : a7 = (3 : Int) * a2) (h15 : a8 = a7 + a0) (h16 : a0 = a3 / 2) (h17 : 0 ≤ a1 ∧ a1 ≤ 17) (h18 : 0 ≤ a2 ∧ a2 ≤ 17) (h19 : 0 ≤ a3 ∧ a3 ≤ 5) (h20 : 0 ≤ a9 ∧ a9 ≤ 5) : -2147483648 ≤ a0 + (1 : Int) ∧ a0 + (1 : Int) < 2147483648 := by omega
theorem ox_81 {a0 a1 a2 a3 a4 a5 a6 a7 a8 a9 a10 : Int} (h0 : a1 = a2) (h1 : a2 = a3 / 2) (h2 : a4 = (3 : Int) * a5) (h3 : a6 = a4 + a1) (h4 : a7 = (3 : Int) * a8) (h5 : a9 = a7 + a1) (h6 : a0 = a1 + (1 : Int)) (h7 : a1 = a10 / 2) (h8 : 0 ≤ a5 ∧ a5 ≤ 17) (h9 : 0 ≤ a8 ∧ a8 ≤ 17) (h10 : 0 ≤ a10 ∧ a10 ≤ 5) (h11 : 0 ≤ a3 ∧ a3 ≤ 5) : (0 : Int) ≤ a0 ∧ (0 : Int) < (3 : Int) := by omega
theorem ox_82 {a0 a1 a2 a3 a4 a5 a6 a7 a8 a9 a10 a11 : Int} (h0 : a1 = a2) (h1 : a2 = a3 / 2) (h2 : a4 = (3 : Int) * a0) (h3 : a5 = a4 + a1) (h4 : a6 = (3 : Int) * a7) (h5 : a8 = a6 + a1) (h6 : a9 = a1 + (1 : Int)) (h7 : a10 = a9 % (3 : Int)) (h8 : a1 = a11 / 2) (h9 : 0 ≤ a0 ∧ a0 ≤ 17) (h10 : 0 ≤ a7 ∧ a7 ≤ 17) (h11 : 0 ≤ a11 ∧ a11 ≤ 5) (h12 : 0 ≤ a3 ∧ a3 ≤ 5) : 0 ≤ a0 ∧ a0 ≤ 17 := by omega
theorem ox_83 {a0 a1 a2 a3 a4 a5 a6 a7 a8 a9 a10 a11 : Int} (h0 : a1 = a2) (h1 : a2 = a3 / 2) (h2 : a4 = (3 : Int) * a5) (h3 : a6 = a4 + a1) (h4 : a7 = (3 : Int) * a0) (h5 : a8 = a7 + a1) (h6 : a9 = a1 + (1 : Int)) (h7 : a10 = a9 % (3 : Int)) (h8 : a1 = a11 / 2) (h9 : 0 ≤ a5 ∧ a5 ≤ 17) (h10 : 0 ≤ a0 ∧ a0 ≤ 17) (h11 : 0 ≤ a11 ∧ a11 ≤ 5) (h12 : 0 ≤ a3 ∧ a3 ≤ 5) : 0 ≤ a0 ∧ a0 ≤ 17 := by omega
theorem ox_84 {a0 a1 a2 a3 a4 a5 a6 a7 a8 a9 a10 a11 : Int} (h0 : a1 = a2) (h1 : a2 = a3 / 2) (h2 : a4 = (3 : Int) * a5) (h3 : a6 = a4 + a1) (h4 : a7 = (3 : Int) * a8) (h5 : a9 = a7 + a1) (h6 : a10 = a1 + (1 : Int)) (h7 : a0 = a10 % (3 : Int)) (h8 : a1 = a11 / 2) (h9 : 0 ≤ a5 ∧ a5 ≤ 17) (h10 : 0 ≤ a8 ∧ a8 ≤ 17) (h11 : 0 ≤ a11 ∧ a11 ≤ 5) (h12 : 0 ≤ a3 ∧ a3 ≤ 5) : 0 ≤ a0 ∧ a0 ≤ 2 := by omega
theorem ox_85 {a0 a1 a2 a3 a4 a5 a6 a7 a8 a9 a10 a11 : Int} (h0 : -2147483648 ≤ a1 ∧ a1 < 2147483648) (h1 : -2147483648 ≤ a2 ∧ a2 < 2147483648) (h2 : -2147483648 ≤ a3 ∧ a3 < 2147483648) (h3 : -2147483648 ≤ a4 ∧ a4 < 2147483648) (h4 : -2147483648 ≤ a5 ∧ a5 < 2147483648) (h5 : -2147483648 ≤ a6 ∧ a6 < 2147483648) (h6 : -2147483648 ≤ a7 ∧ a7 < 2147483648) (h7 : -2147483648 ≤ a0 ∧ a0 < 2147483648) (h8 : -2147483648 ≤ a8 ∧ a8 < 2147483648) (h9 : -2147483648 ≤ a9 ∧ a9 < 2147483648) (h10 : -2147483648 ≤ a10 ∧ a10 < 2147483648) (h11 : -2147483648 ≤ a11 ∧ a11 < 2147483648) (h12 : a0 = a4) (h13 : a4 = a11 / 2) (h14 : a5 = (3 : Int) * a1) (h15 : a6 = a5 + a0) (h16 : a7 = (3 : Int) * a2) (h17 : a8 = a7 + a0) (h18 : a9 = a0 + (1 : Int)) (h19 : a10 = a9 % (3 : Int)) (h20 : a0 = a3 / 2) (h21 : 0 ≤ a1 ∧ a1 ≤ 17) (h22 : 0 ≤ a2 ∧ a2 ≤ 17) (h23 : 0 ≤ a3 ∧ a3 ≤ 5) (h24 : 0 ≤ a11 ∧ a11 ≤ 5) : -2147483648 ≤ a0 + (2 : Int) ∧ a0 + (2 : Int) < 2147483648 := by omega
theorem ox_86 {a0 a1 a2 a3 a4 a5 a6 a7 a8 a9 a10 a11 a12 : Int} (h0 : a1 = a2) (h1 : a2 = a3 / 2) (h2 : a4 = (3 : Int) * a5) (h3 : a6 = a4 + a1) (h4 : a7 = (3 : Int) * a8) (h5 : a9 = a7 + a1) (h6 : a10 = a1 + (1 : Int)) (h7 : a11 = a10 % (3 : Int)) (h8 : a0 = a1 + (2 : Int)) (h9 : a1 = a12 / 2) (h10 : 0 ≤ a5 ∧ a5 ≤ 17) (h11 : 0 ≤ a8 ∧ a8 ≤ 17) (h12 : 0 ≤ a12 ∧ a12 ≤ 5) (h13 : 0 ≤ a3 ∧ a3 ≤ 5) : (0 : Int) ≤ a0 ∧ (0 : Int) < (3 : Int) := by omega
theorem ox_87 {a0 a1 a2 a3 a4 a5 a6 a7 a8 a9 a10 a11 a12 a13 : Int} (h0 : a1 = a2) (h1 : a2 = a3 / 2) (h2 : a4 = (3 : Int) * a0) (h3 : a5 = a4 + a1) (h4 : a6 = (3 : Int) * a7) (h5 : a8 = a6 + a1) (h6 : a9 = a1 + (1 : Int)) (h7 : a10 = a9 % (3 : Int)) (h8 : a11 = a1 + (2 : Int)) (h9 : a1 = a12 / 2) (h10 : a13 = a11 % (3 : Int)) (h11 : 0 ≤ a0 ∧ a0 ≤ 17) (h12 : 0 ≤ a7 ∧ a7 ≤ 17) (h13 : 0 ≤ a12 ∧ a12 ≤ 5) (h14 : 0 ≤ a3 ∧ a3 ≤ 5) : 0 ≤ a0 ∧ a0 ≤ 17 := by omega
theorem ox_88 {a0 a1 a2 a3 a4 a5 a6 a7 a8 a9 a10 a11 a12 a13 : Int} (h0 : a1 = a2) (h1 : a2 = a3 / 2) (h2 : a4 = (3 : Int) * a5) (h3 : a6 = a4 + a1) (h4 : a7 = (3 : Int) * a0) (h5 : a8 = a7 + a1) (h6 : a9 = a1 + (1 : Int)) (h7 : a10 = a9 % (3 : Int)) (h8 : a11 = a1 + (2 : Int)) (h9 : a1 = a12 / 2) (h10 : a13 = a11 % (3 : Int)) (h11 : 0 ≤ a5 ∧ a5 ≤ 17) (h12 : 0 ≤ a0 ∧ a0 ≤ 17) (h13 : 0 ≤ a12 ∧ a12 ≤ 5) (h14 : 0 ≤ a3 ∧ a3 ≤ 5) : 0 ≤ a0 ∧ a0 ≤ 17 := by omega
theorem ox_89 {a0 a1 a2 a3 a4 a5 a6 a7 a8 a9 a10 a11 a12 a13 : Int} (h0 : a1 = a2) (h1 : a2 = a3 / 2) (h2 : a4 = (3 : Int) * a5) (h3 : a6 = a4 + a1) (h4 : a7 = (3 : Int) * a8) (h5 : a9 = a7 + a1) (h6 : a10 = a1 + (1 : Int)) (h7 : a11 = a10 % (3 : Int)) (h8 : a12 = a1 + (2 : Int)) (h9 : a1 = a13 / 2) (h10 : a0 = a12 % (3 : Int)) (h11 : 0 ≤ a5 ∧ a5 ≤ 17) (h12 : 0 ≤ a8 ∧ a8 ≤ 17) (h13 : 0 ≤ a13 ∧ a13 ≤ 5) (h14 : 0 ≤ a3 ∧ a3 ≤ 5) : 0 ≤ a0 ∧ a0 ≤ 2 := by omega
theorem ox_90 {a0 a1 : Int} (h0 : -2147483648 ≤ a0 ∧ a0 < 2147483648) (h1 : -2147483648 ≤ a1 ∧ a1 < 2147483648) (h2 : ¬ (a1 ≤ a0)) (h3 : 0 ≤ a1 ∧ a1 ≤ 9) (h4 : 0 ≤ a0 ∧ a0 ≤ 9) : -2147483648 ≤ a0 + (1 : Int) ∧ a0 + (1 : Int) < 2147483648 := by omega
theorem ox_91 {a0 a1 a2 a3 : Int} (h0 : -2147483648 ≤ a0 ∧ a0 < 2147483648) (h1 : -2147483648 ≤ a1 ∧ a1 < 2147483648) (h2 : -2147483648 ≤ a2 ∧ a2 < 2147483648) (h3 : -2147483648 ≤ a3 ∧ a3 < 2147483648) (h4 : ¬ (a2 ≤ a0)) (h5 : a2 ≤ a1) (h6 : a3 = a0 + (1 : Int)) (h7 : 0 ≤ a2 ∧ a2 ≤ 9) (h8 : 0 ≤ a0 ∧ a0 ≤ 9) (h9 : 1 ≤ a1 ∧ a1 ≤ 9) : -2147483648 ≤ a0 + 1 ∧ a0 + 1 < 2147483648 := by omega
theorem ox_92 {a0 a1 a2 a3 a4 : Int} (h0 : ¬ (a1 ≤ a2)) (h1 : a1 ≤ a3) (h2 : a4 = a2 + (1 : Int)) (h3 : a0 = a2 + 1) (h4 : 0 ≤ a1 ∧ a1 ≤ 9) (h5 : 0 ≤ a2 ∧ a2 ≤ 9) (h6 : 1 ≤ a3 ∧ a3 ≤ 9) : 0 ≤ a0 ∧ a0 ≤ 9 := by omega
theorem ox_93 {a0 a1 a2 a3 a4 : Int} (h0 : ¬ (a2 ≤ a1)) (h1 : a2 ≤ a3) (h2 : a4 = a1 + (1 : Int)) (h3 : a0 = a1 + 1) (h4 : 0 ≤ a2 ∧ a2 ≤ 9) (h5 : 0 ≤ a1 ∧ a1 ≤ 9) (h6 : 1 ≤ a3 ∧ a3 ≤ 9) : (10 - a0).toNat < (10 - a1).toNat := by omega
theorem ox_94 {a0 a1 a2 a3 : Int} (h0 : ¬ (a1 ≤ a0)) (h1 : ¬ (a1 ≤ a2)) (h2 : a3 = a0 + (1 : Int)) (h3 : 0 ≤ a1 ∧ a1 ≤ 9) (h4 : 0 ≤ a0 ∧ a0 ≤ 9) (h5 : 1 ≤ a2 ∧ a2 ≤ 9) : 0 ≤ a0 ∧ a0 ≤ 17 := by omega
theorem ox_95 {a0 a1 a2 a3 : Int} (h0 : ¬ (a1 ≤ a2)) (h1 : ¬ (a1 ≤ a0)) (h2 : a3 = a2 + (1 : Int)) (h3 : 0 ≤ a1 ∧ a1 ≤ 9) (h4 : 0 ≤ a2 ∧ a2 ≤ 9) (h5 : 1 ≤ a0 ∧ a0 ≤ 9) : 0 ≤ a0 ∧ a0 ≤ 17 := by omega
theorem ox_96 {a0 a1 a2 a3 : Int} (h0 : -2147483648 ≤ a1 ∧ a1 < 2147483648) (h1 : -2147483648 ≤ a0 ∧ a0 < 2147483648) (h2 : -2147483648 ≤ a2 ∧ a2 < 2147483648) (h3 : -2147483648 ≤ a3 ∧ a3 < 2147483648) (h4 : ¬ (a2 ≤ a1)) (h5 : ¬ (a2 ≤ a0)) (h6 : a3 = a1 + (1 : Int)) (h7 : 0 ≤ a2 ∧ a2 ≤ 9) (h8 : 0 ≤ a1 ∧ a1 ≤ 9) (h9 : 1 ≤ a0 ∧ a0 ≤ 9) : -2147483648 ≤ a0 + 1 ∧ a0 + 1 < 2147483648 := by omega
theorem ox_97 {a0 a1 a2 a3 a4 : Int} (h0 : ¬ (a1 ≤ a2)) (h1 : ¬ (a1 ≤ a3)) (h2 : a4 = a2 + (1 : Int)) (h3 : a0 = a3 + 1) (h4 : 0 ≤ a1 ∧ a1 ≤ 9) (h5 : 0 ≤ a2 ∧ a2 ≤ 9) (h6 : 1 ≤ a3 ∧ a3 ≤ 9) : 1 ≤ a0 ∧ a0 ≤ 9 := by omega
theorem ox_98 {a0 a1 a2 a3 a4 : Int} (h0 : ¬ (a2 ≤ a3)) (h1 : ¬ (a2 ≤ a1)) (h2 : a4 = a3 + (1 : Int)) (h3 : a0 = a1 + 1) (h4 : 0 ≤ a2 ∧ a2 ≤ 9) (h5 : 0 ≤ a3 ∧ a3 ≤ 9) (h6 : 1 ≤ a1 ∧ a1 ≤ 9) : (10 - a0).toNat < (10 - a1).toNat := by omega
theorem ox_99 {a0 a1 a2 a3 : Int} (h0 : -2147483648 ≤ a0 ∧ a0 < 2147483648) (h1 : -2147483648 ≤ a1 ∧ a1 < 2147483648) (h2 : -2147483648 ≤ a2 ∧ a2 < 2147483648) (h3 : -2147483648 ≤ a3 ∧ a3 < 2147483648) (h4 : ¬ (a2 ≤ a0)) (h5 : ¬ (a2 ≤ a1)) (h6 : a3 = a0 + (1 : Int)) (h7 : 0 ≤ a2 ∧ a2 ≤ 9) (h8 : 0 ≤ a0 ∧ a0 ≤ 9) (h9 : 1 ≤ a1 ∧ a1 ≤ 9) : -2147483648 ≤ (10 : Int) * a0 ∧ (10 : Int) * a0 < 2147483648 := by omega
theorem ox_100 {a0 a1 a2 a3 a4 : Int} (h0 : -2147483648 ≤ a2 ∧ a2 < 2147483648) (h1 : -2147483648 ≤ a1 ∧ a1 < 2147483648) (h2 : -2147483648 ≤ a3 ∧ a3 < 2147483648) (h3 : -2147483648 ≤ a4 ∧ a4 < 2147483648) (h4 : -2147483648 ≤ a0 ∧ a0 < 2147483648) (h5 : ¬ (a3 ≤ a2)) (h6 : ¬ (a3 ≤ a1)) (h7 : a4 = a2 + (1 : Int)) (h8 : a0 = (10 : Int) * a2) (h9 : 0 ≤ a3 ∧ a3 ≤ 9) (h10 : 0 ≤ a2 ∧ a2 ≤ 9) (h11 : 1 ≤ a1 ∧ a1 ≤ 9) : -2147483648 ≤ a0 + a1 ∧ a0 + a1 < 2147483648 := by omega
theorem ox_101 {a0 a1 a2 : Int} (h0 : ¬ (a1 ≤ a2)) (h1 : a0 = a2 + (1 : Int)) (h2 : 0 ≤ a1 ∧ a1 ≤ 9) (h3 : 0 ≤ a2 ∧ a2 ≤ 9) : 1 ≤ a0 ∧ a0 ≤ 9 := by omega
theorem dX4_isThere_0 : decode cX4_isThere 0 = .ok (.aload_n 0, 1) := by decide +kernel
theorem dX4_isThere_1 : decode cX4_isThere 1 = .ok (.getfield 42, 3) := by decide +kernel
theorem dX4_isThere_4 : decode cX4_isThere 4 = .ok (.ifCond .le 7, 3) := by decide +kernel
theorem dX4_isThere_11 : decode cX4_isThere 11 = .ok (.iconst 0, 1) := by decide +kernel
theorem dX4_isThere_12 : decode cX4_isThere 12 = .ok (.ireturn, 1) := by decide +kernel
theorem dX4_isThere_7 : decode cX4_isThere 7 = .ok (.iconst 1, 1) := by decide +kernel
theorem dX4_isThere_8 : decode cX4_isThere 8 = .ok (.goto 4, 3) := by decide +kernel
abbrev rm_kX4_isThere : Room := { frames := 0, cells := 0, slots := 0, locals := 0 }
set_option maxHeartbeats 4000000 in
set_option maxRecDepth 100000 in
theorem kX4_isThere (l : Launch) (g : zL) (h0 : Nat) (h0_count : Int32) (h0_statements : Int32) (h0_thick : Int32) (h0_punch : Int32) (h0_ups : Int32) (h0_toolCount : Int32) (h0_toolWidth : Nat) (h0_told : Nat) (h0_name : Nat) (h0_parent : Nat) (h0_side : Nat) (h0_from : Nat) (h0_width : Nat) (h0_height : Nat) (h0_radius : Nat) (h0_toolSet : Nat) (hy0 : 0 ≤ h0_count.toInt ∧ h0_count.toInt ≤ 9) (hy1 : 0 ≤ h0_toolCount.toInt ∧ h0_toolCount.toInt ≤ 8) : zCi l g yX4_isThere cX4_isThere 1 (some .boolean) rm_kX4_isThere [.ref h0] [(h0, .inr (4, [.int h0_count, .int h0_statements, .int h0_thick, .int h0_punch, .int h0_ups, .int h0_toolCount, .ref h0_toolWidth, .ref h0_told, .ref h0_name, .ref h0_parent, .ref h0_side, .ref h0_from, .ref h0_width, .ref h0_height, .ref h0_radius, .ref h0_toolSet]))] (fun (r : Int32) (u : Unit) => (0 ≤ r.toInt ∧ r.toInt ≤ 1)) (fun (u : Unit) => [(h0, .inr (4, [.int h0_count, .int h0_statements, .int h0_thick, .int h0_punch, .int h0_ups, .int h0_toolCount, .ref h0_toolWidth, .ref h0_told, .ref h0_name, .ref h0_parent, .ref h0_side, .ref h0_from, .ref h0_width, .ref h0_height, .ref h0_radius, .ref h0_toolSet]))]) := by
  refine zCi.mk2 (by decide) (Nat.le_of_ble_eq_true rfl) ?_
  intro p e s m below meth c A args Q hE hret hP hD hS ls hl
  obtain ⟨hx, hb, hr, hml, hown, hG, hlocks, hnm, hX, hA⟩ := hE
  have hown : s.vm.findClass RX4 = some m.cls := hown
  have hl : lv_has ls 1 [(0, .ref h0)] := hl
  refine lv_aload_n hx hb dX4_isThere_0 rfl (lv_at hl 0 rfl) ?_
  refine va_get (D := g.1) (ci := 4) (v := .int h0_count) (C := RX4) (T := TX4) (N := 16) hx hb hG iX4 hown hX.1 hP 0 rfl rfl 0 (by decide) (hG _ wf_X4_42) (fun _ h9 => h9) rfl dX4_isThere_1 ?_
  refine lv_if_le (tgt := 11) hx hb dX4_isThere_4 (by decide) (fun c1 => ?_) (fun c1 => ?_)
  · skip
    have c1i : h0_count.toInt ≤ (0 : Int) := (zc_le (rfl : h0_count.toInt = _) (show (0 : Int32).toInt = (0 : Int) from by decide)).mp c1
    refine lv_iconst (v := 0) hx hb dX4_isThere_11 (by decide) ?_
    exact hret (0 : Int32) () (Nat.le_of_ble_eq_true rfl) (Nat.le_of_ble_eq_true rfl) rfl ((show 0 ≤ (0 : Int) ∧ (0 : Int) ≤ 1 from by decide)) hP hD hS dX4_isThere_12
  · skip
    have c1i : ¬ (h0_count.toInt ≤ (0 : Int)) := fun q => c1 ((zc_le (rfl : h0_count.toInt = _) (show (0 : Int32).toInt = (0 : Int) from by decide)).mpr q)
    refine lv_iconst (v := 1) hx hb dX4_isThere_7 (by decide) ?_
    refine lv_goto (tgt := 12) hx hb dX4_isThere_8 (by decide) ?_
    exact hret (1 : Int32) () (Nat.le_of_ble_eq_true rfl) (Nat.le_of_ble_eq_true rfl) rfl ((show 0 ≤ (1 : Int) ∧ (1 : Int) ≤ 1 from by decide)) hP hD hS dX4_isThere_12
theorem dX4_isFlange_0 : decode cX4_isFlange 0 = .ok (.iload_n 1, 1) := by decide +kernel
theorem dX4_isFlange_1 : decode cX4_isFlange 1 = .ok (.ifCond .lt 15, 3) := by decide +kernel
theorem dX4_isFlange_16 : decode cX4_isFlange 16 = .ok (.iconst 0, 1) := by decide +kernel
theorem dX4_isFlange_17 : decode cX4_isFlange 17 = .ok (.ireturn, 1) := by decide +kernel
theorem dX4_isFlange_4 : decode cX4_isFlange 4 = .ok (.iload_n 1, 1) := by decide +kernel
theorem dX4_isFlange_5 : decode cX4_isFlange 5 = .ok (.aload_n 0, 1) := by decide +kernel
theorem dX4_isFlange_6 : decode cX4_isFlange 6 = .ok (.getfield 42, 3) := by decide +kernel
theorem dX4_isFlange_9 : decode cX4_isFlange 9 = .ok (.if_icmp .ge 7, 3) := by decide +kernel
theorem dX4_isFlange_12 : decode cX4_isFlange 12 = .ok (.iconst 1, 1) := by decide +kernel
theorem dX4_isFlange_13 : decode cX4_isFlange 13 = .ok (.goto 4, 3) := by decide +kernel
abbrev rm_kX4_isFlange : Room := { frames := 0, cells := 0, slots := 0, locals := 0 }
set_option maxHeartbeats 4000000 in
set_option maxRecDepth 100000 in
theorem kX4_isFlange (l : Launch) (g : zL) (h0 : Nat) (x1 : Int32) (h0_count : Int32) (h0_statements : Int32) (h0_thick : Int32) (h0_punch : Int32) (h0_ups : Int32) (h0_toolCount : Int32) (h0_toolWidth : Nat) (h0_told : Nat) (h0_name : Nat) (h0_parent : Nat) (h0_side : Nat) (h0_from : Nat) (h0_width : Nat) (h0_height : Nat) (h0_radius : Nat) (h0_toolSet : Nat) (hy0 : 0 ≤ h0_count.toInt ∧ h0_count.toInt ≤ 9) (hy1 : 0 ≤ h0_toolCount.toInt ∧ h0_toolCount.toInt ≤ 8) : zCi l g yX4_isFlange cX4_isFlange 2 (some .boolean) rm_kX4_isFlange [.ref h0, .int x1] [(h0, .inr (4, [.int h0_count, .int h0_statements, .int h0_thick, .int h0_punch, .int h0_ups, .int h0_toolCount, .ref h0_toolWidth, .ref h0_told, .ref h0_name, .ref h0_parent, .ref h0_side, .ref h0_from, .ref h0_width, .ref h0_height, .ref h0_radius, .ref h0_toolSet]))] (fun (r : Int32) (u : Unit) => (0 ≤ r.toInt ∧ r.toInt ≤ 1)) (fun (u : Unit) => [(h0, .inr (4, [.int h0_count, .int h0_statements, .int h0_thick, .int h0_punch, .int h0_ups, .int h0_toolCount, .ref h0_toolWidth, .ref h0_told, .ref h0_name, .ref h0_parent, .ref h0_side, .ref h0_from, .ref h0_width, .ref h0_height, .ref h0_radius, .ref h0_toolSet]))]) := by
  refine zCi.mk2 (by decide) (Nat.le_of_ble_eq_true rfl) ?_
  intro p e s m below meth c A args Q hE hret hP hD hS ls hl
  obtain ⟨hx, hb, hr, hml, hown, hG, hlocks, hnm, hX, hA⟩ := hE
  have hown : s.vm.findClass RX4 = some m.cls := hown
  have hl : lv_has ls 2 [(0, .ref h0), (1, .int x1)] := hl
  refine lv_iload_n hx hb dX4_isFlange_0 rfl (lv_at hl 1 rfl) ?_
  refine lv_if_lt (tgt := 16) hx hb dX4_isFlange_1 (by decide) (fun c1 => ?_) (fun c1 => ?_)
  · skip
    have c1i : x1.toInt < (0 : Int) := (zc_lt (rfl : x1.toInt = _) (show (0 : Int32).toInt = (0 : Int) from by decide)).mp c1
    refine lv_iconst (v := 0) hx hb dX4_isFlange_16 (by decide) ?_
    exact hret (0 : Int32) () (Nat.le_of_ble_eq_true rfl) (Nat.le_of_ble_eq_true rfl) rfl ((show 0 ≤ (0 : Int) ∧ (0 : Int) ≤ 1 from by decide)) hP hD hS dX4_isFlange_17
  · skip
    have c1i : ¬ (x1.toInt < (0 : Int)) := fun q => c1 ((zc_lt (rfl : x1.toInt = _) (show (0 : Int32).toInt = (0 : Int) from by decide)).mpr q)
    refine lv_iload_n hx hb dX4_isFlange_4 rfl (lv_at hl 1 rfl) ?_
    refine lv_aload_n hx hb dX4_isFlange_5 rfl (lv_at hl 0 rfl) ?_
    refine va_get (D := g.1) (ci := 4) (v := .int h0_count) (C := RX4) (T := TX4) (N := 16) hx hb hG iX4 hown hX.1 hP 0 rfl rfl 0 (by decide) (hG _ wf_X4_42) (fun _ h9 => h9) rfl dX4_isFlange_6 ?_
    refine lv_icmp_ge (tgt := 16) hx hb dX4_isFlange_9 (by decide) (fun c2 => ?_) (fun c2 => ?_)
    · skip
      have c2i : h0_count.toInt ≤ x1.toInt := (zc_le (rfl : h0_count.toInt = _) (rfl : x1.toInt = _)).mp c2
      refine lv_iconst (v := 0) hx hb dX4_isFlange_16 (by decide) ?_
      exact hret (0 : Int32) () (Nat.le_of_ble_eq_true rfl) (Nat.le_of_ble_eq_true rfl) rfl ((show 0 ≤ (0 : Int) ∧ (0 : Int) ≤ 1 from by decide)) hP hD hS dX4_isFlange_17
    · skip
      have c2i : ¬ (h0_count.toInt ≤ x1.toInt) := fun q => c2 ((zc_le (rfl : h0_count.toInt = _) (rfl : x1.toInt = _)).mpr q)
      refine lv_iconst (v := 1) hx hb dX4_isFlange_12 (by decide) ?_
      refine lv_goto (tgt := 17) hx hb dX4_isFlange_13 (by decide) ?_
      exact hret (1 : Int32) () (Nat.le_of_ble_eq_true rfl) (Nat.le_of_ble_eq_true rfl) rfl ((show 0 ≤ (1 : Int) ∧ (1 : Int) ≤ 1 from by decide)) hP hD hS dX4_isFlange_17
theorem dX4_isBend_0 : decode cX4_isBend 0 = .ok (.iload_n 1, 1) := by decide +kernel
theorem dX4_isBend_1 : decode cX4_isBend 1 = .ok (.iconst 1, 1) := by decide +kernel
theorem dX4_isBend_2 : decode cX4_isBend 2 = .ok (.if_icmp .lt 15, 3) := by decide +kernel
theorem dX4_isBend_17 : decode cX4_isBend 17 = .ok (.iconst 0, 1) := by decide +kernel
theorem dX4_isBend_18 : decode cX4_isBend 18 = .ok (.ireturn, 1) := by decide +kernel
theorem dX4_isBend_5 : decode cX4_isBend 5 = .ok (.iload_n 1, 1) := by decide +kernel
theorem dX4_isBend_6 : decode cX4_isBend 6 = .ok (.aload_n 0, 1) := by decide +kernel
theorem dX4_isBend_7 : decode cX4_isBend 7 = .ok (.getfield 42, 3) := by decide +kernel
theorem dX4_isBend_10 : decode cX4_isBend 10 = .ok (.if_icmp .ge 7, 3) := by decide +kernel
theorem dX4_isBend_13 : decode cX4_isBend 13 = .ok (.iconst 1, 1) := by decide +kernel
theorem dX4_isBend_14 : decode cX4_isBend 14 = .ok (.goto 4, 3) := by decide +kernel
abbrev rm_kX4_isBend : Room := { frames := 0, cells := 0, slots := 0, locals := 0 }
set_option maxHeartbeats 4000000 in
set_option maxRecDepth 100000 in
theorem kX4_isBend (l : Launch) (g : zL) (h0 : Nat) (x1 : Int32) (h0_count : Int32) (h0_statements : Int32) (h0_thick : Int32) (h0_punch : Int32) (h0_ups : Int32) (h0_toolCount : Int32) (h0_toolWidth : Nat) (h0_told : Nat) (h0_name : Nat) (h0_parent : Nat) (h0_side : Nat) (h0_from : Nat) (h0_width : Nat) (h0_height : Nat) (h0_radius : Nat) (h0_toolSet : Nat) (hy0 : 0 ≤ h0_count.toInt ∧ h0_count.toInt ≤ 9) (hy1 : 0 ≤ h0_toolCount.toInt ∧ h0_toolCount.toInt ≤ 8) : zCi l g yX4_isBend cX4_isBend 2 (some .boolean) rm_kX4_isBend [.ref h0, .int x1] [(h0, .inr (4, [.int h0_count, .int h0_statements, .int h0_thick, .int h0_punch, .int h0_ups, .int h0_toolCount, .ref h0_toolWidth, .ref h0_told, .ref h0_name, .ref h0_parent, .ref h0_side, .ref h0_from, .ref h0_width, .ref h0_height, .ref h0_radius, .ref h0_toolSet]))] (fun (r : Int32) (u : Unit) => (0 ≤ r.toInt ∧ r.toInt ≤ 1)) (fun (u : Unit) => [(h0, .inr (4, [.int h0_count, .int h0_statements, .int h0_thick, .int h0_punch, .int h0_ups, .int h0_toolCount, .ref h0_toolWidth, .ref h0_told, .ref h0_name, .ref h0_parent, .ref h0_side, .ref h0_from, .ref h0_width, .ref h0_height, .ref h0_radius, .ref h0_toolSet]))]) := by
  refine zCi.mk2 (by decide) (Nat.le_of_ble_eq_true rfl) ?_
  intro p e s m below meth c A args Q hE hret hP hD hS ls hl
  obtain ⟨hx, hb, hr, hml, hown, hG, hlocks, hnm, hX, hA⟩ := hE
  have hown : s.vm.findClass RX4 = some m.cls := hown
  have hl : lv_has ls 2 [(0, .ref h0), (1, .int x1)] := hl
  refine lv_iload_n hx hb dX4_isBend_0 rfl (lv_at hl 1 rfl) ?_
  refine lv_iconst (v := 1) hx hb dX4_isBend_1 (by decide) ?_
  refine lv_icmp_lt (tgt := 17) hx hb dX4_isBend_2 (by decide) (fun c1 => ?_) (fun c1 => ?_)
  · skip
    have c1i : x1.toInt < (1 : Int) := (zc_lt (rfl : x1.toInt = _) (show (1 : Int32).toInt = (1 : Int) from by decide)).mp c1
    refine lv_iconst (v := 0) hx hb dX4_isBend_17 (by decide) ?_
    exact hret (0 : Int32) () (Nat.le_of_ble_eq_true rfl) (Nat.le_of_ble_eq_true rfl) rfl ((show 0 ≤ (0 : Int) ∧ (0 : Int) ≤ 1 from by decide)) hP hD hS dX4_isBend_18
  · skip
    have c1i : ¬ (x1.toInt < (1 : Int)) := fun q => c1 ((zc_lt (rfl : x1.toInt = _) (show (1 : Int32).toInt = (1 : Int) from by decide)).mpr q)
    refine lv_iload_n hx hb dX4_isBend_5 rfl (lv_at hl 1 rfl) ?_
    refine lv_aload_n hx hb dX4_isBend_6 rfl (lv_at hl 0 rfl) ?_
    refine va_get (D := g.1) (ci := 4) (v := .int h0_count) (C := RX4) (T := TX4) (N := 16) hx hb hG iX4 hown hX.1 hP 0 rfl rfl 0 (by decide) (hG _ wf_X4_42) (fun _ h9 => h9) rfl dX4_isBend_7 ?_
    refine lv_icmp_ge (tgt := 17) hx hb dX4_isBend_10 (by decide) (fun c2 => ?_) (fun c2 => ?_)
    · skip
      have c2i : h0_count.toInt ≤ x1.toInt := (zc_le (rfl : h0_count.toInt = _) (rfl : x1.toInt = _)).mp c2
      refine lv_iconst (v := 0) hx hb dX4_isBend_17 (by decide) ?_
      exact hret (0 : Int32) () (Nat.le_of_ble_eq_true rfl) (Nat.le_of_ble_eq_true rfl) rfl ((show 0 ≤ (0 : Int) ∧ (0 : Int) ≤ 1 from by decide)) hP hD hS dX4_isBend_18
    · skip
      have c2i : ¬ (h0_count.toInt ≤ x1.toInt) := fun q => c2 ((zc_le (rfl : h0_count.toInt = _) (rfl : x1.toInt = _)).mpr q)
      refine lv_iconst (v := 1) hx hb dX4_isBend_13 (by decide) ?_
      refine lv_goto (tgt := 18) hx hb dX4_isBend_14 (by decide) ?_
      exact hret (1 : Int32) () (Nat.le_of_ble_eq_true rfl) (Nat.le_of_ble_eq_true rfl) rfl ((show 0 ≤ (1 : Int) ∧ (1 : Int) ≤ 1 from by decide)) hP hD hS dX4_isBend_18
theorem dX4_isPiece_0 : decode cX4_isPiece 0 = .ok (.aload_n 0, 1) := by decide +kernel
theorem dX4_isPiece_1 : decode cX4_isPiece 1 = .ok (.iload_n 1, 1) := by decide +kernel
theorem dX4_isPiece_2 : decode cX4_isPiece 2 = .ok (.invokevirtual 64, 3) := by decide +kernel
theorem dX4_isPiece_5 : decode cX4_isPiece 5 = .ok (.ifCond .ne 14, 3) := by decide +kernel
theorem dX4_isPiece_19 : decode cX4_isPiece 19 = .ok (.iconst 1, 1) := by decide +kernel
theorem dX4_isPiece_20 : decode cX4_isPiece 20 = .ok (.goto 4, 3) := by decide +kernel
theorem dX4_isPiece_24 : decode cX4_isPiece 24 = .ok (.ireturn, 1) := by decide +kernel
theorem dX4_isPiece_8 : decode cX4_isPiece 8 = .ok (.aload_n 0, 1) := by decide +kernel
theorem dX4_isPiece_9 : decode cX4_isPiece 9 = .ok (.iload_n 1, 1) := by decide +kernel
theorem dX4_isPiece_10 : decode cX4_isPiece 10 = .ok (.bipush 8, 2) := by decide +kernel
theorem dX4_isPiece_12 : decode cX4_isPiece 12 = .ok (.isub, 1) := by decide +kernel
theorem dX4_isPiece_13 : decode cX4_isPiece 13 = .ok (.invokevirtual 68, 3) := by decide +kernel
theorem dX4_isPiece_16 : decode cX4_isPiece 16 = .ok (.ifCond .eq 7, 3) := by decide +kernel
theorem dX4_isPiece_23 : decode cX4_isPiece 23 = .ok (.iconst 0, 1) := by decide +kernel
abbrev rm_kX4_isPiece : Room := { frames := 1, cells := 0, slots := 0, locals := 21 }
set_option maxHeartbeats 4000000 in
set_option maxRecDepth 100000 in
theorem kX4_isPiece (l : Launch) (g : zL) (h0 : Nat) (x1 : Int32) (h0_count : Int32) (h0_statements : Int32) (h0_thick : Int32) (h0_punch : Int32) (h0_ups : Int32) (h0_toolCount : Int32) (h0_toolWidth : Nat) (h0_told : Nat) (h0_name : Nat) (h0_parent : Nat) (h0_side : Nat) (h0_from : Nat) (h0_width : Nat) (h0_height : Nat) (h0_radius : Nat) (h0_toolSet : Nat) (hy0 : 0 ≤ h0_count.toInt ∧ h0_count.toInt ≤ 9) (hy1 : 0 ≤ h0_toolCount.toInt ∧ h0_toolCount.toInt ≤ 8) : zCi l g yX4_isPiece cX4_isPiece 2 (some .boolean) rm_kX4_isPiece [.ref h0, .int x1] [(h0, .inr (4, [.int h0_count, .int h0_statements, .int h0_thick, .int h0_punch, .int h0_ups, .int h0_toolCount, .ref h0_toolWidth, .ref h0_told, .ref h0_name, .ref h0_parent, .ref h0_side, .ref h0_from, .ref h0_width, .ref h0_height, .ref h0_radius, .ref h0_toolSet]))] (fun (r : Int32) (u : Unit) => (0 ≤ r.toInt ∧ r.toInt ≤ 1)) (fun (u : Unit) => [(h0, .inr (4, [.int h0_count, .int h0_statements, .int h0_thick, .int h0_punch, .int h0_ups, .int h0_toolCount, .ref h0_toolWidth, .ref h0_told, .ref h0_name, .ref h0_parent, .ref h0_side, .ref h0_from, .ref h0_width, .ref h0_height, .ref h0_radius, .ref h0_toolSet]))]) := by
  refine zCi.mk2 (by decide) (Nat.le_of_ble_eq_true rfl) ?_
  intro p e s m below meth c A args Q hE hret hP hD hS ls hl
  obtain ⟨hx, hb, hr, hml, hown, hG, hlocks, hnm, hX, hA⟩ := hE
  have hown : s.vm.findClass RX4 = some m.cls := hown
  have hl : lv_has ls 2 [(0, .ref h0), (1, .int x1)] := hl
  refine lv_aload_n hx hb dX4_isPiece_0 rfl (lv_at hl 0 rfl) ?_
  refine lv_iload_n hx hb dX4_isPiece_1 rfl (lv_at hl 1 rfl) ?_
  refine zfi (wr := []) (va_runV (As := [.int x1]) (rest := []) ⟨hx, hb, hml, hown, hG⟩ (kX4_isFlange l g h0 x1 h0_count h0_statements h0_thick h0_punch h0_ups h0_toolCount h0_toolWidth h0_told h0_name h0_parent h0_side h0_from h0_width h0_height h0_radius h0_toolSet (ox_0 hy0) (ox_1 hy1) _) ⟨callB_of 1 hG (zGood wc_X4_isFlange) rfl rfl rfl (hG _ wini_X4) (hG _ wm_X4_64) hX4_isFlange ⟨Nat.le_of_ble_eq_true rfl, Nat.le_of_ble_eq_true rfl⟩, hG _ wi_X4_isFlange, hG _ wse_X4_X4_isFlange⟩ (zpreV (va_recv hX.1 hP (ci := 4) (q0 := 0) rfl rfl) hX hP hD hS hA [0] rfl (by decide)) rfl rfl hl.1 rfl (lv_room (Nat.le_of_ble_eq_true rfl)) dX4_isPiece_2 ⟨Nat.le_of_ble_eq_true rfl, Nat.le_of_ble_eq_true rfl⟩) hP hD hS hA [0] [] rfl rfl (by decide) (by decide) (fun r1 _ H locs hp hP hD hS => ?_)
  refine W.cs (cells' := 0) (slots' := 0) rfl rfl ?_
  have hq2 : 0 ≤ r1.toInt ∧ r1.toInt ≤ 1 := hp
  have hP : va_P g.1 vwCl [(h0, .inr (4, [.int h0_count, .int h0_statements, .int h0_thick, .int h0_punch, .int h0_ups, .int h0_toolCount, .ref h0_toolWidth, .ref h0_told, .ref h0_name, .ref h0_parent, .ref h0_side, .ref h0_from, .ref h0_width, .ref h0_height, .ref h0_radius, .ref h0_toolSet]))] H := hP
  have hD : va_D A [(h0, .inr (4, [.int h0_count, .int h0_statements, .int h0_thick, .int h0_punch, .int h0_ups, .int h0_toolCount, .ref h0_toolWidth, .ref h0_told, .ref h0_name, .ref h0_parent, .ref h0_side, .ref h0_from, .ref h0_width, .ref h0_height, .ref h0_radius, .ref h0_toolSet]))] := hD
  refine lv_if_ne (tgt := 19) hx hb dX4_isPiece_5 (by decide) (fun c3 => ?_) (fun c3 => ?_)
  · skip
    have c3i : ¬ (r1.toInt = (0 : Int)) := fun q => c3 ((zc_eq (rfl : r1.toInt = _) (show (0 : Int32).toInt = (0 : Int) from by decide)).mpr q)
    refine lv_iconst (v := 1) hx hb dX4_isPiece_19 (by decide) ?_
    refine lv_goto (tgt := 24) hx hb dX4_isPiece_20 (by decide) ?_
    exact hret (1 : Int32) () (Nat.le_of_ble_eq_true rfl) (Nat.le_of_ble_eq_true rfl) rfl ((show 0 ≤ (1 : Int) ∧ (1 : Int) ≤ 1 from by decide)) hP hD hS dX4_isPiece_24
  · skip
    have c3i : r1.toInt = (0 : Int) := (zc_eq (rfl : r1.toInt = _) (show (0 : Int32).toInt = (0 : Int) from by decide)).mp c3
    refine lv_aload_n hx hb dX4_isPiece_8 rfl (lv_at hl 0 rfl) ?_
    refine lv_iload_n hx hb dX4_isPiece_9 rfl (lv_at hl 1 rfl) ?_
    refine lv_bipush (v := 8) hx hb dX4_isPiece_10 (by decide) ?_
    refine lv_isub hx hb dX4_isPiece_12 ?_
    refine lv_topi (fun z4 e5 => ?_)
    have f6 : (z4.toInt = x1.toInt - (8 : Int) ∨ z4.toInt = x1.toInt - (8 : Int) + 4294967296) := zs_w e5 (rfl : x1.toInt = _) (show (8 : Int32).toInt = (8 : Int) from by decide) (by decide)
    refine zfi (wr := []) (va_runV (As := [.int z4]) (rest := []) ⟨hx, hb, hml, hown, hG⟩ (kX4_isBend l g h0 z4 h0_count h0_statements h0_thick h0_punch h0_ups h0_toolCount h0_toolWidth h0_told h0_name h0_parent h0_side h0_from h0_width h0_height h0_radius h0_toolSet (ox_0 hy0) (ox_1 hy1) _) ⟨callB_of 1 hG (zGood wc_X4_isBend) rfl rfl rfl (hG _ wini_X4) (hG _ wm_X4_68) hX4_isBend ⟨Nat.le_of_ble_eq_true rfl, Nat.le_of_ble_eq_true rfl⟩, hG _ wi_X4_isBend, hG _ wse_X4_X4_isBend⟩ (zpreV (va_recv hX.1 hP (ci := 4) (q0 := 0) rfl rfl) hX hP hD hS hA [0] rfl (by decide)) rfl rfl hl.1 rfl (lv_room (Nat.le_of_ble_eq_true rfl)) dX4_isPiece_13 ⟨Nat.le_of_ble_eq_true rfl, Nat.le_of_ble_eq_true rfl⟩) hP hD hS hA [0] [] rfl rfl (by decide) (by decide) (fun r7 _ H locs hp hP hD hS => ?_)
    refine W.cs (cells' := 0) (slots' := 0) rfl rfl ?_
    have hq8 : 0 ≤ r7.toInt ∧ r7.toInt ≤ 1 := hp
    have hP : va_P g.1 vwCl [(h0, .inr (4, [.int h0_count, .int h0_statements, .int h0_thick, .int h0_punch, .int h0_ups, .int h0_toolCount, .ref h0_toolWidth, .ref h0_told, .ref h0_name, .ref h0_parent, .ref h0_side, .ref h0_from, .ref h0_width, .ref h0_height, .ref h0_radius, .ref h0_toolSet]))] H := hP
    have hD : va_D A [(h0, .inr (4, [.int h0_count, .int h0_statements, .int h0_thick, .int h0_punch, .int h0_ups, .int h0_toolCount, .ref h0_toolWidth, .ref h0_told, .ref h0_name, .ref h0_parent, .ref h0_side, .ref h0_from, .ref h0_width, .ref h0_height, .ref h0_radius, .ref h0_toolSet]))] := hD
    refine lv_if_eq (tgt := 23) hx hb dX4_isPiece_16 (by decide) (fun c9 => ?_) (fun c9 => ?_)
    · skip
      have c9i : r7.toInt = (0 : Int) := (zc_eq (rfl : r7.toInt = _) (show (0 : Int32).toInt = (0 : Int) from by decide)).mp c9
      refine lv_iconst (v := 0) hx hb dX4_isPiece_23 (by decide) ?_
      exact hret (0 : Int32) () (Nat.le_of_ble_eq_true rfl) (Nat.le_of_ble_eq_true rfl) rfl ((show 0 ≤ (0 : Int) ∧ (0 : Int) ≤ 1 from by decide)) hP hD hS dX4_isPiece_24
    · skip
      have c9i : ¬ (r7.toInt = (0 : Int)) := fun q => c9 ((zc_eq (rfl : r7.toInt = _) (show (0 : Int32).toInt = (0 : Int) from by decide)).mpr q)
      refine lv_iconst (v := 1) hx hb dX4_isPiece_19 (by decide) ?_
      refine lv_goto (tgt := 24) hx hb dX4_isPiece_20 (by decide) ?_
      exact hret (1 : Int32) () (Nat.le_of_ble_eq_true rfl) (Nat.le_of_ble_eq_true rfl) rfl ((show 0 ≤ (1 : Int) ∧ (1 : Int) ≤ 1 from by decide)) hP hD hS dX4_isPiece_24
theorem dX4_allBends_0 : decode cX4_allBends 0 = .ok (.aload_n 0, 1) := by decide +kernel
theorem dX4_allBends_1 : decode cX4_allBends 1 = .ok (.getfield 42, 3) := by decide +kernel
theorem dX4_allBends_4 : decode cX4_allBends 4 = .ok (.iconst 2, 1) := by decide +kernel
theorem dX4_allBends_5 : decode cX4_allBends 5 = .ok (.if_icmp .ge 7, 3) := by decide +kernel
theorem dX4_allBends_12 : decode cX4_allBends 12 = .ok (.iconst 1, 1) := by decide +kernel
theorem dX4_allBends_13 : decode cX4_allBends 13 = .ok (.aload_n 0, 1) := by decide +kernel
theorem dX4_allBends_14 : decode cX4_allBends 14 = .ok (.getfield 42, 3) := by decide +kernel
theorem dX4_allBends_17 : decode cX4_allBends 17 = .ok (.iconst 1, 1) := by decide +kernel
theorem dX4_allBends_18 : decode cX4_allBends 18 = .ok (.isub, 1) := by decide +kernel
theorem dX4_allBends_19 : decode cX4_allBends 19 = .ok (.ishl, 1) := by decide +kernel
theorem dX4_allBends_20 : decode cX4_allBends 20 = .ok (.iconst 1, 1) := by decide +kernel
theorem dX4_allBends_21 : decode cX4_allBends 21 = .ok (.isub, 1) := by decide +kernel
theorem dX4_allBends_22 : decode cX4_allBends 22 = .ok (.ireturn, 1) := by decide +kernel
theorem dX4_allBends_8 : decode cX4_allBends 8 = .ok (.iconst 0, 1) := by decide +kernel
theorem dX4_allBends_9 : decode cX4_allBends 9 = .ok (.goto 13, 3) := by decide +kernel
abbrev rm_kX4_allBends : Room := { frames := 0, cells := 0, slots := 0, locals := 0 }
set_option maxHeartbeats 4000000 in
set_option maxRecDepth 100000 in
theorem kX4_allBends (l : Launch) (g : zL) (h0 : Nat) (h0_count : Int32) (h0_statements : Int32) (h0_thick : Int32) (h0_punch : Int32) (h0_ups : Int32) (h0_toolCount : Int32) (h0_toolWidth : Nat) (h0_told : Nat) (h0_name : Nat) (h0_parent : Nat) (h0_side : Nat) (h0_from : Nat) (h0_width : Nat) (h0_height : Nat) (h0_radius : Nat) (h0_toolSet : Nat) (hy0 : 0 ≤ h0_count.toInt ∧ h0_count.toInt ≤ 9) (hy1 : 0 ≤ h0_toolCount.toInt ∧ h0_toolCount.toInt ≤ 8) : zCi l g yX4_allBends cX4_allBends 1 (some .int) rm_kX4_allBends [.ref h0] [(h0, .inr (4, [.int h0_count, .int h0_statements, .int h0_thick, .int h0_punch, .int h0_ups, .int h0_toolCount, .ref h0_toolWidth, .ref h0_told, .ref h0_name, .ref h0_parent, .ref h0_side, .ref h0_from, .ref h0_width, .ref h0_height, .ref h0_radius, .ref h0_toolSet]))] (fun (r : Int32) (u : Unit) => (0 ≤ r.toInt ∧ r.toInt ≤ 255)) (fun (u : Unit) => [(h0, .inr (4, [.int h0_count, .int h0_statements, .int h0_thick, .int h0_punch, .int h0_ups, .int h0_toolCount, .ref h0_toolWidth, .ref h0_told, .ref h0_name, .ref h0_parent, .ref h0_side, .ref h0_from, .ref h0_width, .ref h0_height, .ref h0_radius, .ref h0_toolSet]))]) := by
  refine zCi.mk2 (by decide) (Nat.le_of_ble_eq_true rfl) ?_
  intro p e s m below meth c A args Q hE hret hP hD hS ls hl
  obtain ⟨hx, hb, hr, hml, hown, hG, hlocks, hnm, hX, hA⟩ := hE
  have hown : s.vm.findClass RX4 = some m.cls := hown
  have hl : lv_has ls 1 [(0, .ref h0)] := hl
  refine lv_aload_n hx hb dX4_allBends_0 rfl (lv_at hl 0 rfl) ?_
  refine va_get (D := g.1) (ci := 4) (v := .int h0_count) (C := RX4) (T := TX4) (N := 16) hx hb hG iX4 hown hX.1 hP 0 rfl rfl 0 (by decide) (hG _ wf_X4_42) (fun _ h9 => h9) rfl dX4_allBends_1 ?_
  refine lv_iconst (v := 2) hx hb dX4_allBends_4 (by decide) ?_
  refine lv_icmp_ge (tgt := 12) hx hb dX4_allBends_5 (by decide) (fun c1 => ?_) (fun c1 => ?_)
  · skip
    have c1i : (2 : Int) ≤ h0_count.toInt := (zc_le (show (2 : Int32).toInt = (2 : Int) from by decide) (rfl : h0_count.toInt = _)).mp c1
    refine lv_iconst (v := 1) hx hb dX4_allBends_12 (by decide) ?_
    refine lv_aload_n hx hb dX4_allBends_13 rfl (lv_at hl 0 rfl) ?_
    refine va_get (D := g.1) (ci := 4) (v := .int h0_count) (C := RX4) (T := TX4) (N := 16) hx hb hG iX4 hown hX.1 hP 0 rfl rfl 0 (by decide) (hG _ wf_X4_42) (fun _ h9 => h9) rfl dX4_allBends_14 ?_
    refine lv_iconst (v := 1) hx hb dX4_allBends_17 (by decide) ?_
    refine lv_isub hx hb dX4_allBends_18 ?_
    refine lv_topi (fun z2 e3 => ?_)
    have f4 : z2.toInt = h0_count.toInt - (1 : Int) := zs e3 (rfl : h0_count.toInt = _) (show (1 : Int32).toInt = (1 : Int) from by decide) (ox_2 (zr h0_count) c1i hy0)
    refine lv_ishl hx hb dX4_allBends_19 ?_
    refine lv_topi (fun z5 e6 => ?_)
    have f7 : 1 ≤ z5.toInt ∧ z5.toInt ≤ 256 := zshl1 8 e6 (rfl : z2.toInt = _) (by decide) (ox_3 c1i f4 hy0)
    refine lv_iconst (v := 1) hx hb dX4_allBends_20 (by decide) ?_
    refine lv_isub hx hb dX4_allBends_21 ?_
    refine lv_topi (fun z8 e9 => ?_)
    have f10 : z8.toInt = z5.toInt - (1 : Int) := zs e9 (rfl : z5.toInt = _) (show (1 : Int32).toInt = (1 : Int) from by decide) (ox_4 (zr z5) f7)
    exact hret z8 () (Nat.le_of_ble_eq_true rfl) (Nat.le_of_ble_eq_true rfl) rfl (ox_5 f10 f7) hP hD hS dX4_allBends_22
  · skip
    have c1i : ¬ ((2 : Int) ≤ h0_count.toInt) := fun q => c1 ((zc_le (show (2 : Int32).toInt = (2 : Int) from by decide) (rfl : h0_count.toInt = _)).mpr q)
    refine lv_iconst (v := 0) hx hb dX4_allBends_8 (by decide) ?_
    refine lv_goto (tgt := 22) hx hb dX4_allBends_9 (by decide) ?_
    exact hret (0 : Int32) () (Nat.le_of_ble_eq_true rfl) (Nat.le_of_ble_eq_true rfl) rfl ((show 0 ≤ (0 : Int) ∧ (0 : Int) ≤ 255 from by decide)) hP hD hS dX4_allBends_22
theorem dX4_isState_0 : decode cX4_isState 0 = .ok (.aload_n 0, 1) := by decide +kernel
theorem dX4_isState_1 : decode cX4_isState 1 = .ok (.invokevirtual 71, 3) := by decide +kernel
theorem dX4_isState_4 : decode cX4_isState 4 = .ok (.ifCond .eq 19, 3) := by decide +kernel
theorem dX4_isState_23 : decode cX4_isState 23 = .ok (.iconst 0, 1) := by decide +kernel
theorem dX4_isState_24 : decode cX4_isState 24 = .ok (.ireturn, 1) := by decide +kernel
theorem dX4_isState_7 : decode cX4_isState 7 = .ok (.iload_n 1, 1) := by decide +kernel
theorem dX4_isState_8 : decode cX4_isState 8 = .ok (.ifCond .lt 15, 3) := by decide +kernel
theorem dX4_isState_11 : decode cX4_isState 11 = .ok (.iload_n 1, 1) := by decide +kernel
theorem dX4_isState_12 : decode cX4_isState 12 = .ok (.aload_n 0, 1) := by decide +kernel
theorem dX4_isState_13 : decode cX4_isState 13 = .ok (.invokevirtual 75, 3) := by decide +kernel
theorem dX4_isState_16 : decode cX4_isState 16 = .ok (.if_icmp .gt 7, 3) := by decide +kernel
theorem dX4_isState_19 : decode cX4_isState 19 = .ok (.iconst 1, 1) := by decide +kernel
theorem dX4_isState_20 : decode cX4_isState 20 = .ok (.goto 4, 3) := by decide +kernel
abbrev rm_kX4_isState : Room := { frames := 1, cells := 0, slots := 0, locals := 20 }
set_option maxHeartbeats 4000000 in
set_option maxRecDepth 100000 in
theorem kX4_isState (l : Launch) (g : zL) (h0 : Nat) (x1 : Int32) (h0_count : Int32) (h0_statements : Int32) (h0_thick : Int32) (h0_punch : Int32) (h0_ups : Int32) (h0_toolCount : Int32) (h0_toolWidth : Nat) (h0_told : Nat) (h0_name : Nat) (h0_parent : Nat) (h0_side : Nat) (h0_from : Nat) (h0_width : Nat) (h0_height : Nat) (h0_radius : Nat) (h0_toolSet : Nat) (hy0 : 0 ≤ h0_count.toInt ∧ h0_count.toInt ≤ 9) (hy1 : 0 ≤ h0_toolCount.toInt ∧ h0_toolCount.toInt ≤ 8) : zCi l g yX4_isState cX4_isState 2 (some .boolean) rm_kX4_isState [.ref h0, .int x1] [(h0, .inr (4, [.int h0_count, .int h0_statements, .int h0_thick, .int h0_punch, .int h0_ups, .int h0_toolCount, .ref h0_toolWidth, .ref h0_told, .ref h0_name, .ref h0_parent, .ref h0_side, .ref h0_from, .ref h0_width, .ref h0_height, .ref h0_radius, .ref h0_toolSet]))] (fun (r : Int32) (u : Unit) => (0 ≤ r.toInt ∧ r.toInt ≤ 1)) (fun (u : Unit) => [(h0, .inr (4, [.int h0_count, .int h0_statements, .int h0_thick, .int h0_punch, .int h0_ups, .int h0_toolCount, .ref h0_toolWidth, .ref h0_told, .ref h0_name, .ref h0_parent, .ref h0_side, .ref h0_from, .ref h0_width, .ref h0_height, .ref h0_radius, .ref h0_toolSet]))]) := by
  refine zCi.mk2 (by decide) (Nat.le_of_ble_eq_true rfl) ?_
  intro p e s m below meth c A args Q hE hret hP hD hS ls hl
  obtain ⟨hx, hb, hr, hml, hown, hG, hlocks, hnm, hX, hA⟩ := hE
  have hown : s.vm.findClass RX4 = some m.cls := hown
  have hl : lv_has ls 2 [(0, .ref h0), (1, .int x1)] := hl
  refine lv_aload_n hx hb dX4_isState_0 rfl (lv_at hl 0 rfl) ?_
  refine zfi (wr := []) (va_runV (As := []) (rest := []) ⟨hx, hb, hml, hown, hG⟩ (kX4_isThere l g h0 h0_count h0_statements h0_thick h0_punch h0_ups h0_toolCount h0_toolWidth h0_told h0_name h0_parent h0_side h0_from h0_width h0_height h0_radius h0_toolSet (ox_0 hy0) (ox_1 hy1) _) ⟨callB_of 0 hG (zGood wc_X4_isThere) rfl rfl rfl (hG _ wini_X4) (hG _ wm_X4_71) hX4_isThere ⟨Nat.le_of_ble_eq_true rfl, Nat.le_of_ble_eq_true rfl⟩, hG _ wi_X4_isThere, hG _ wse_X4_X4_isThere⟩ (zpreV (va_recv hX.1 hP (ci := 4) (q0 := 0) rfl rfl) hX hP hD hS hA [0] rfl (by decide)) rfl rfl hl.1 rfl (lv_room (Nat.le_of_ble_eq_true rfl)) dX4_isState_1 ⟨Nat.le_of_ble_eq_true rfl, Nat.le_of_ble_eq_true rfl⟩) hP hD hS hA [0] [] rfl rfl (by decide) (by decide) (fun r1 _ H locs hp hP hD hS => ?_)
  refine W.cs (cells' := 0) (slots' := 0) rfl rfl ?_
  have hq2 : 0 ≤ r1.toInt ∧ r1.toInt ≤ 1 := hp
  have hP : va_P g.1 vwCl [(h0, .inr (4, [.int h0_count, .int h0_statements, .int h0_thick, .int h0_punch, .int h0_ups, .int h0_toolCount, .ref h0_toolWidth, .ref h0_told, .ref h0_name, .ref h0_parent, .ref h0_side, .ref h0_from, .ref h0_width, .ref h0_height, .ref h0_radius, .ref h0_toolSet]))] H := hP
  have hD : va_D A [(h0, .inr (4, [.int h0_count, .int h0_statements, .int h0_thick, .int h0_punch, .int h0_ups, .int h0_toolCount, .ref h0_toolWidth, .ref h0_told, .ref h0_name, .ref h0_parent, .ref h0_side, .ref h0_from, .ref h0_width, .ref h0_height, .ref h0_radius, .ref h0_toolSet]))] := hD
  refine lv_if_eq (tgt := 23) hx hb dX4_isState_4 (by decide) (fun c3 => ?_) (fun c3 => ?_)
  · skip
    have c3i : r1.toInt = (0 : Int) := (zc_eq (rfl : r1.toInt = _) (show (0 : Int32).toInt = (0 : Int) from by decide)).mp c3
    refine lv_iconst (v := 0) hx hb dX4_isState_23 (by decide) ?_
    exact hret (0 : Int32) () (Nat.le_of_ble_eq_true rfl) (Nat.le_of_ble_eq_true rfl) rfl ((show 0 ≤ (0 : Int) ∧ (0 : Int) ≤ 1 from by decide)) hP hD hS dX4_isState_24
  · skip
    have c3i : ¬ (r1.toInt = (0 : Int)) := fun q => c3 ((zc_eq (rfl : r1.toInt = _) (show (0 : Int32).toInt = (0 : Int) from by decide)).mpr q)
    refine lv_iload_n hx hb dX4_isState_7 rfl (lv_at hl 1 rfl) ?_
    refine lv_if_lt (tgt := 23) hx hb dX4_isState_8 (by decide) (fun c4 => ?_) (fun c4 => ?_)
    · skip
      have c4i : x1.toInt < (0 : Int) := (zc_lt (rfl : x1.toInt = _) (show (0 : Int32).toInt = (0 : Int) from by decide)).mp c4
      refine lv_iconst (v := 0) hx hb dX4_isState_23 (by decide) ?_
      exact hret (0 : Int32) () (Nat.le_of_ble_eq_true rfl) (Nat.le_of_ble_eq_true rfl) rfl ((show 0 ≤ (0 : Int) ∧ (0 : Int) ≤ 1 from by decide)) hP hD hS dX4_isState_24
    · skip
      have c4i : ¬ (x1.toInt < (0 : Int)) := fun q => c4 ((zc_lt (rfl : x1.toInt = _) (show (0 : Int32).toInt = (0 : Int) from by decide)).mpr q)
      refine lv_iload_n hx hb dX4_isState_11 rfl (lv_at hl 1 rfl) ?_
      refine lv_aload_n hx hb dX4_isState_12 rfl (lv_at hl 0 rfl) ?_
      refine zfi (wr := []) (va_runV (As := []) (rest := [.int x1]) ⟨hx, hb, hml, hown, hG⟩ (kX4_allBends l g h0 h0_count h0_statements h0_thick h0_punch h0_ups h0_toolCount h0_toolWidth h0_told h0_name h0_parent h0_side h0_from h0_width h0_height h0_radius h0_toolSet (ox_0 hy0) (ox_1 hy1) _) ⟨callB_of 0 hG (zGood wc_X4_allBends) rfl rfl rfl (hG _ wini_X4) (hG _ wm_X4_75) hX4_allBends ⟨Nat.le_of_ble_eq_true rfl, Nat.le_of_ble_eq_true rfl⟩, hG _ wi_X4_allBends, hG _ wse_X4_X4_allBends⟩ (zpreV (va_recv hX.1 hP (ci := 4) (q0 := 0) rfl rfl) hX hP hD hS hA [0] rfl (by decide)) rfl rfl hl.1 rfl (lv_room (Nat.le_of_ble_eq_true rfl)) dX4_isState_13 ⟨Nat.le_of_ble_eq_true rfl, Nat.le_of_ble_eq_true rfl⟩) hP hD hS hA [0] [] rfl rfl (by decide) (by decide) (fun r5 _ H locs hp hP hD hS => ?_)
      refine W.cs (cells' := 0) (slots' := 0) rfl rfl ?_
      have hq6 : 0 ≤ r5.toInt ∧ r5.toInt ≤ 255 := hp
      have hP : va_P g.1 vwCl [(h0, .inr (4, [.int h0_count, .int h0_statements, .int h0_thick, .int h0_punch, .int h0_ups, .int h0_toolCount, .ref h0_toolWidth, .ref h0_told, .ref h0_name, .ref h0_parent, .ref h0_side, .ref h0_from, .ref h0_width, .ref h0_height, .ref h0_radius, .ref h0_toolSet]))] H := hP
      have hD : va_D A [(h0, .inr (4, [.int h0_count, .int h0_statements, .int h0_thick, .int h0_punch, .int h0_ups, .int h0_toolCount, .ref h0_toolWidth, .ref h0_told, .ref h0_name, .ref h0_parent, .ref h0_side, .ref h0_from, .ref h0_width, .ref h0_height, .ref h0_radius, .ref h0_toolSet]))] := hD
      refine lv_icmp_gt (tgt := 23) hx hb dX4_isState_16 (by decide) (fun c7 => ?_) (fun c7 => ?_)
      · skip
        have c7i : r5.toInt < x1.toInt := (zc_lt (rfl : r5.toInt = _) (rfl : x1.toInt = _)).mp c7
        refine lv_iconst (v := 0) hx hb dX4_isState_23 (by decide) ?_
        exact hret (0 : Int32) () (Nat.le_of_ble_eq_true rfl) (Nat.le_of_ble_eq_true rfl) rfl ((show 0 ≤ (0 : Int) ∧ (0 : Int) ≤ 1 from by decide)) hP hD hS dX4_isState_24
      · skip
        have c7i : ¬ (r5.toInt < x1.toInt) := fun q => c7 ((zc_lt (rfl : r5.toInt = _) (rfl : x1.toInt = _)).mpr q)
        refine lv_iconst (v := 1) hx hb dX4_isState_19 (by decide) ?_
        refine lv_goto (tgt := 24) hx hb dX4_isState_20 (by decide) ?_
        exact hret (1 : Int32) () (Nat.le_of_ble_eq_true rfl) (Nat.le_of_ble_eq_true rfl) rfl ((show 0 ≤ (1 : Int) ∧ (1 : Int) ≤ 1 from by decide)) hP hD hS dX4_isState_24
theorem dX4_runsAlongX_0 : decode cX4_runsAlongX 0 = .ok (.iload_n 0, 1) := by decide +kernel
theorem dX4_runsAlongX_1 : decode cX4_runsAlongX 1 = .ok (.ifCond .eq 8, 3) := by decide +kernel
theorem dX4_runsAlongX_9 : decode cX4_runsAlongX 9 = .ok (.iconst 1, 1) := by decide +kernel
theorem dX4_runsAlongX_10 : decode cX4_runsAlongX 10 = .ok (.goto 4, 3) := by decide +kernel
theorem dX4_runsAlongX_14 : decode cX4_runsAlongX 14 = .ok (.ireturn, 1) := by decide +kernel
theorem dX4_runsAlongX_4 : decode cX4_runsAlongX 4 = .ok (.iload_n 0, 1) := by decide +kernel
theorem dX4_runsAlongX_5 : decode cX4_runsAlongX 5 = .ok (.iconst 2, 1) := by decide +kernel
theorem dX4_runsAlongX_6 : decode cX4_runsAlongX 6 = .ok (.if_icmp .ne 7, 3) := by decide +kernel
theorem dX4_runsAlongX_13 : decode cX4_runsAlongX 13 = .ok (.iconst 0, 1) := by decide +kernel
abbrev rm_kX4_runsAlongX : Room := { frames := 0, cells := 0, slots := 0, locals := 0 }
set_option maxHeartbeats 4000000 in
set_option maxRecDepth 100000 in
theorem kX4_runsAlongX (l : Launch) (g : zL) (x1 : Int32) : zCi l g yX4_runsAlongX cX4_runsAlongX 1 (some .boolean) rm_kX4_runsAlongX [.int x1] [] (fun (r : Int32) (u : Unit) => (0 ≤ r.toInt ∧ r.toInt ≤ 1)) (fun (u : Unit) => []) := by
  refine zCi.mk2 (by decide) (Nat.le_of_ble_eq_true rfl) ?_
  intro p e s m below meth c A args Q hE hret hP hD hS ls hl
  obtain ⟨hx, hb, hr, hml, hown, hG, hlocks, hnm, hX, hA⟩ := hE
  have hown : s.vm.findClass RX4 = some m.cls := hown
  have hl : lv_has ls 1 [(0, .int x1)] := hl
  refine lv_iload_n hx hb dX4_runsAlongX_0 rfl (lv_at hl 0 rfl) ?_
  refine lv_if_eq (tgt := 9) hx hb dX4_runsAlongX_1 (by decide) (fun c1 => ?_) (fun c1 => ?_)
  · skip
    have c1i : x1.toInt = (0 : Int) := (zc_eq (rfl : x1.toInt = _) (show (0 : Int32).toInt = (0 : Int) from by decide)).mp c1
    refine lv_iconst (v := 1) hx hb dX4_runsAlongX_9 (by decide) ?_
    refine lv_goto (tgt := 14) hx hb dX4_runsAlongX_10 (by decide) ?_
    exact hret (1 : Int32) () (Nat.le_of_ble_eq_true rfl) (Nat.le_of_ble_eq_true rfl) rfl ((show 0 ≤ (1 : Int) ∧ (1 : Int) ≤ 1 from by decide)) hP hD hS dX4_runsAlongX_14
  · skip
    have c1i : ¬ (x1.toInt = (0 : Int)) := fun q => c1 ((zc_eq (rfl : x1.toInt = _) (show (0 : Int32).toInt = (0 : Int) from by decide)).mpr q)
    refine lv_iload_n hx hb dX4_runsAlongX_4 rfl (lv_at hl 0 rfl) ?_
    refine lv_iconst (v := 2) hx hb dX4_runsAlongX_5 (by decide) ?_
    refine lv_icmp_ne (tgt := 13) hx hb dX4_runsAlongX_6 (by decide) (fun c2 => ?_) (fun c2 => ?_)
    · skip
      have c2i : ¬ (x1.toInt = (2 : Int)) := fun q => c2 ((zc_eq (rfl : x1.toInt = _) (show (2 : Int32).toInt = (2 : Int) from by decide)).mpr q)
      refine lv_iconst (v := 0) hx hb dX4_runsAlongX_13 (by decide) ?_
      exact hret (0 : Int32) () (Nat.le_of_ble_eq_true rfl) (Nat.le_of_ble_eq_true rfl) rfl ((show 0 ≤ (0 : Int) ∧ (0 : Int) ≤ 1 from by decide)) hP hD hS dX4_runsAlongX_14
    · skip
      have c2i : x1.toInt = (2 : Int) := (zc_eq (rfl : x1.toInt = _) (show (2 : Int32).toInt = (2 : Int) from by decide)).mp c2
      refine lv_iconst (v := 1) hx hb dX4_runsAlongX_9 (by decide) ?_
      refine lv_goto (tgt := 14) hx hb dX4_runsAlongX_10 (by decide) ?_
      exact hret (1 : Int32) () (Nat.le_of_ble_eq_true rfl) (Nat.le_of_ble_eq_true rfl) rfl ((show 0 ≤ (1 : Int) ∧ (1 : Int) ≤ 1 from by decide)) hP hD hS dX4_runsAlongX_14
theorem dX4_sizeX_0 : decode cX4_sizeX 0 = .ok (.aload_n 0, 1) := by decide +kernel
theorem dX4_sizeX_1 : decode cX4_sizeX 1 = .ok (.getfield 24, 3) := by decide +kernel
theorem dX4_sizeX_4 : decode cX4_sizeX 4 = .ok (.iload_n 1, 1) := by decide +kernel
theorem dX4_sizeX_5 : decode cX4_sizeX 5 = .ok (.iaload, 1) := by decide +kernel
theorem dX4_sizeX_6 : decode cX4_sizeX 6 = .ok (.invokestatic 86, 3) := by decide +kernel
theorem dX4_sizeX_9 : decode cX4_sizeX 9 = .ok (.ifCond .eq 12, 3) := by decide +kernel
theorem dX4_sizeX_21 : decode cX4_sizeX 21 = .ok (.aload_n 0, 1) := by decide +kernel
theorem dX4_sizeX_22 : decode cX4_sizeX 22 = .ok (.getfield 33, 3) := by decide +kernel
theorem dX4_sizeX_25 : decode cX4_sizeX 25 = .ok (.iload_n 1, 1) := by decide +kernel
theorem dX4_sizeX_26 : decode cX4_sizeX 26 = .ok (.iaload, 1) := by decide +kernel
theorem dX4_sizeX_27 : decode cX4_sizeX 27 = .ok (.ireturn, 1) := by decide +kernel
theorem dX4_sizeX_12 : decode cX4_sizeX 12 = .ok (.aload_n 0, 1) := by decide +kernel
theorem dX4_sizeX_13 : decode cX4_sizeX 13 = .ok (.getfield 30, 3) := by decide +kernel
theorem dX4_sizeX_16 : decode cX4_sizeX 16 = .ok (.iload_n 1, 1) := by decide +kernel
theorem dX4_sizeX_17 : decode cX4_sizeX 17 = .ok (.iaload, 1) := by decide +kernel
theorem dX4_sizeX_18 : decode cX4_sizeX 18 = .ok (.goto 9, 3) := by decide +kernel
abbrev rm_kX4_sizeX : Room := { frames := 1, cells := 0, slots := 0, locals := 20 }
set_option maxHeartbeats 4000000 in
set_option maxRecDepth 100000 in
theorem kX4_sizeX (l : Launch) (g : zL) (h0 : Nat) (x1 : Int32) (h0_count : Int32) (h0_statements : Int32) (h0_thick : Int32) (h0_punch : Int32) (h0_ups : Int32) (h0_toolCount : Int32) (h0_toolWidth : Nat) (h0_told : Nat) (h0_name : Nat) (h0_parent : Nat) (h0_side : Nat) (h0_from : Nat) (h0_width : Nat) (h0_height : Nat) (h0_radius : Nat) (h0_toolSet : Nat) (f_h0_side : Nat → Int32) (f_h0_height : Nat → Int32) (f_h0_width : Nat → Int32) (hy0 : 0 ≤ x1.toInt ∧ x1.toInt ≤ 8) (hy1 : 0 ≤ h0_count.toInt ∧ h0_count.toInt ≤ 9) (hy2 : 0 ≤ h0_toolCount.toInt ∧ h0_toolCount.toInt ≤ 8) (hy3 : aI 0 3 f_h0_side) : zCi l g yX4_sizeX cX4_sizeX 2 (some .int) rm_kX4_sizeX [.ref h0, .int x1] [(h0, .inr (4, [.int h0_count, .int h0_statements, .int h0_thick, .int h0_punch, .int h0_ups, .int h0_toolCount, .ref h0_toolWidth, .ref h0_told, .ref h0_name, .ref h0_parent, .ref h0_side, .ref h0_from, .ref h0_width, .ref h0_height, .ref h0_radius, .ref h0_toolSet])), (h0_side, .inl (g.2.1.1, 9, .inl f_h0_side)), (h0_height, .inl (g.2.1.1, 9, .inl f_h0_height)), (h0_width, .inl (g.2.1.1, 9, .inl f_h0_width))] (fun (r : Int32) (u : Unit) => True) (fun (u : Unit) => [(h0, .inr (4, [.int h0_count, .int h0_statements, .int h0_thick, .int h0_punch, .int h0_ups, .int h0_toolCount, .ref h0_toolWidth, .ref h0_told, .ref h0_name, .ref h0_parent, .ref h0_side, .ref h0_from, .ref h0_width, .ref h0_height, .ref h0_radius, .ref h0_toolSet])), (h0_side, .inl (g.2.1.1, 9, .inl f_h0_side)), (h0_height, .inl (g.2.1.1, 9, .inl f_h0_height)), (h0_width, .inl (g.2.1.1, 9, .inl f_h0_width))]) := by
  refine zCi.mk2 (by decide) (Nat.le_of_ble_eq_true rfl) ?_
  intro p e s m below meth c A args Q hE hret hP hD hS ls hl
  obtain ⟨hx, hb, hr, hml, hown, hG, hlocks, hnm, hX, hA⟩ := hE
  have hown : s.vm.findClass RX4 = some m.cls := hown
  have hl : lv_has ls 2 [(0, .ref h0), (1, .int x1)] := hl
  refine lv_aload_n hx hb dX4_sizeX_0 rfl (lv_at hl 0 rfl) ?_
  refine va_get (D := g.1) (ci := 4) (v := .ref h0_side) (C := RX4) (T := TX4) (N := 16) hx hb hG iX4 hown hX.1 hP 0 rfl rfl 10 (by decide) (hG _ wf_X4_24) (fun _ h9 => h9) rfl dX4_sizeX_1 ?_
  refine lv_iload_n hx hb dX4_sizeX_4 rfl (lv_at hl 1 rfl) ?_
  refine va_iald hx hb hX.1 hP 1 0 rfl rfl (zin (rfl : x1.toInt = _) (ox_6 hy0)) dX4_sizeX_5 ?_
  refine lv_topi (fun z1 e2 => ?_)
  have i3 : 0 ≤ z1.toInt ∧ z1.toInt ≤ 3 := hy3.at e2
  refine zfi (wr := [(h0, .inr (4, [.int h0_count, .int h0_statements, .int h0_thick, .int h0_punch, .int h0_ups, .int h0_toolCount, .ref h0_toolWidth, .ref h0_told, .ref h0_name, .ref h0_parent, .ref h0_side, .ref h0_from, .ref h0_width, .ref h0_height, .ref h0_radius, .ref h0_toolSet])), (h0_side, .inl (g.2.1.1, 9, .inl f_h0_side)), (h0_height, .inl (g.2.1.1, 9, .inl f_h0_height)), (h0_width, .inl (g.2.1.1, 9, .inl f_h0_width))]) (va_runS (As := [.int z1]) (rest := []) ⟨hx, hb, hml, hown, hG⟩ (kX4_runsAlongX l g z1 _) ⟨callB_of 1 hG (zGood wc_X4_runsAlongX) rfl rfl rfl (hG _ wini_X4) (hG _ wm_X4_86) hX4_runsAlongX ⟨Nat.le_of_ble_eq_true rfl, Nat.le_of_ble_eq_true rfl⟩, hG _ ws_X4_runsAlongX⟩ (zpreS hX hP hD hS hA [] rfl (by decide)) rfl rfl hl.1 rfl (lv_room (Nat.le_of_ble_eq_true rfl)) dX4_sizeX_6 ⟨Nat.le_of_ble_eq_true rfl, Nat.le_of_ble_eq_true rfl⟩) hP hD hS hA [] [0, 1, 2, 3] rfl rfl (by decide) (by decide) (fun r4 _ H locs hp hP hD hS => ?_)
  refine W.cs (cells' := 0) (slots' := 0) rfl rfl ?_
  have hq5 : 0 ≤ r4.toInt ∧ r4.toInt ≤ 1 := hp
  have hP : va_P g.1 vwCl [(h0, .inr (4, [.int h0_count, .int h0_statements, .int h0_thick, .int h0_punch, .int h0_ups, .int h0_toolCount, .ref h0_toolWidth, .ref h0_told, .ref h0_name, .ref h0_parent, .ref h0_side, .ref h0_from, .ref h0_width, .ref h0_height, .ref h0_radius, .ref h0_toolSet])), (h0_side, .inl (g.2.1.1, 9, .inl f_h0_side)), (h0_height, .inl (g.2.1.1, 9, .inl f_h0_height)), (h0_width, .inl (g.2.1.1, 9, .inl f_h0_width))] H := hP
  have hD : va_D A [(h0, .inr (4, [.int h0_count, .int h0_statements, .int h0_thick, .int h0_punch, .int h0_ups, .int h0_toolCount, .ref h0_toolWidth, .ref h0_told, .ref h0_name, .ref h0_parent, .ref h0_side, .ref h0_from, .ref h0_width, .ref h0_height, .ref h0_radius, .ref h0_toolSet])), (h0_side, .inl (g.2.1.1, 9, .inl f_h0_side)), (h0_height, .inl (g.2.1.1, 9, .inl f_h0_height)), (h0_width, .inl (g.2.1.1, 9, .inl f_h0_width))] := hD
  refine lv_if_eq (tgt := 21) hx hb dX4_sizeX_9 (by decide) (fun c6 => ?_) (fun c6 => ?_)
  · skip
    have c6i : r4.toInt = (0 : Int) := (zc_eq (rfl : r4.toInt = _) (show (0 : Int32).toInt = (0 : Int) from by decide)).mp c6
    refine lv_aload_n hx hb dX4_sizeX_21 rfl (lv_at hl 0 rfl) ?_
    refine va_get (D := g.1) (ci := 4) (v := .ref h0_height) (C := RX4) (T := TX4) (N := 16) hx hb hG iX4 hown hX.1 hP 0 rfl rfl 13 (by decide) (hG _ wf_X4_33) (fun _ h9 => h9) rfl dX4_sizeX_22 ?_
    refine lv_iload_n hx hb dX4_sizeX_25 rfl (lv_at hl 1 rfl) ?_
    refine va_iald hx hb hX.1 hP 2 0 rfl rfl (zin (rfl : x1.toInt = _) (ox_6 hy0)) dX4_sizeX_26 ?_
    refine lv_topi (fun z7 e8 => ?_)
    exact hret z7 () (Nat.le_of_ble_eq_true rfl) (Nat.le_of_ble_eq_true rfl) rfl trivial hP hD hS dX4_sizeX_27
  · skip
    have c6i : ¬ (r4.toInt = (0 : Int)) := fun q => c6 ((zc_eq (rfl : r4.toInt = _) (show (0 : Int32).toInt = (0 : Int) from by decide)).mpr q)
    refine lv_aload_n hx hb dX4_sizeX_12 rfl (lv_at hl 0 rfl) ?_
    refine va_get (D := g.1) (ci := 4) (v := .ref h0_width) (C := RX4) (T := TX4) (N := 16) hx hb hG iX4 hown hX.1 hP 0 rfl rfl 12 (by decide) (hG _ wf_X4_30) (fun _ h9 => h9) rfl dX4_sizeX_13 ?_
    refine lv_iload_n hx hb dX4_sizeX_16 rfl (lv_at hl 1 rfl) ?_
    refine va_iald hx hb hX.1 hP 3 0 rfl rfl (zin (rfl : x1.toInt = _) (ox_6 hy0)) dX4_sizeX_17 ?_
    refine lv_topi (fun z9 e10 => ?_)
    refine lv_goto (tgt := 27) hx hb dX4_sizeX_18 (by decide) ?_
    exact hret z9 () (Nat.le_of_ble_eq_true rfl) (Nat.le_of_ble_eq_true rfl) rfl trivial hP hD hS dX4_sizeX_27
theorem dX4_sizeY_0 : decode cX4_sizeY 0 = .ok (.aload_n 0, 1) := by decide +kernel
theorem dX4_sizeY_1 : decode cX4_sizeY 1 = .ok (.getfield 24, 3) := by decide +kernel
theorem dX4_sizeY_4 : decode cX4_sizeY 4 = .ok (.iload_n 1, 1) := by decide +kernel
theorem dX4_sizeY_5 : decode cX4_sizeY 5 = .ok (.iaload, 1) := by decide +kernel
theorem dX4_sizeY_6 : decode cX4_sizeY 6 = .ok (.invokestatic 86, 3) := by decide +kernel
theorem dX4_sizeY_9 : decode cX4_sizeY 9 = .ok (.ifCond .eq 12, 3) := by decide +kernel
theorem dX4_sizeY_21 : decode cX4_sizeY 21 = .ok (.aload_n 0, 1) := by decide +kernel
theorem dX4_sizeY_22 : decode cX4_sizeY 22 = .ok (.getfield 30, 3) := by decide +kernel
theorem dX4_sizeY_25 : decode cX4_sizeY 25 = .ok (.iload_n 1, 1) := by decide +kernel
theorem dX4_sizeY_26 : decode cX4_sizeY 26 = .ok (.iaload, 1) := by decide +kernel
theorem dX4_sizeY_27 : decode cX4_sizeY 27 = .ok (.ireturn, 1) := by decide +kernel
theorem dX4_sizeY_12 : decode cX4_sizeY 12 = .ok (.aload_n 0, 1) := by decide +kernel
theorem dX4_sizeY_13 : decode cX4_sizeY 13 = .ok (.getfield 33, 3) := by decide +kernel
theorem dX4_sizeY_16 : decode cX4_sizeY 16 = .ok (.iload_n 1, 1) := by decide +kernel
theorem dX4_sizeY_17 : decode cX4_sizeY 17 = .ok (.iaload, 1) := by decide +kernel
theorem dX4_sizeY_18 : decode cX4_sizeY 18 = .ok (.goto 9, 3) := by decide +kernel
abbrev rm_kX4_sizeY : Room := { frames := 1, cells := 0, slots := 0, locals := 20 }
set_option maxHeartbeats 4000000 in
set_option maxRecDepth 100000 in
theorem kX4_sizeY (l : Launch) (g : zL) (h0 : Nat) (x1 : Int32) (h0_count : Int32) (h0_statements : Int32) (h0_thick : Int32) (h0_punch : Int32) (h0_ups : Int32) (h0_toolCount : Int32) (h0_toolWidth : Nat) (h0_told : Nat) (h0_name : Nat) (h0_parent : Nat) (h0_side : Nat) (h0_from : Nat) (h0_width : Nat) (h0_height : Nat) (h0_radius : Nat) (h0_toolSet : Nat) (f_h0_side : Nat → Int32) (f_h0_width : Nat → Int32) (f_h0_height : Nat → Int32) (hy0 : 0 ≤ x1.toInt ∧ x1.toInt ≤ 8) (hy1 : 0 ≤ h0_count.toInt ∧ h0_count.toInt ≤ 9) (hy2 : 0 ≤ h0_toolCount.toInt ∧ h0_toolCount.toInt ≤ 8) (hy3 : aI 0 3 f_h0_side) : zCi l g yX4_sizeY cX4_sizeY 2 (some .int) rm_kX4_sizeY [.ref h0, .int x1] [(h0, .inr (4, [.int h0_count, .int h0_statements, .int h0_thick, .int h0_punch, .int h0_ups, .int h0_toolCount, .ref h0_toolWidth, .ref h0_told, .ref h0_name, .ref h0_parent, .ref h0_side, .ref h0_from, .ref h0_width, .ref h0_height, .ref h0_radius, .ref h0_toolSet])), (h0_side, .inl (g.2.1.1, 9, .inl f_h0_side)), (h0_width, .inl (g.2.1.1, 9, .inl f_h0_width)), (h0_height, .inl (g.2.1.1, 9, .inl f_h0_height))] (fun (r : Int32) (u : Unit) => True) (fun (u : Unit) => [(h0, .inr (4, [.int h0_count, .int h0_statements, .int h0_thick, .int h0_punch, .int h0_ups, .int h0_toolCount, .ref h0_toolWidth, .ref h0_told, .ref h0_name, .ref h0_parent, .ref h0_side, .ref h0_from, .ref h0_width, .ref h0_height, .ref h0_radius, .ref h0_toolSet])), (h0_side, .inl (g.2.1.1, 9, .inl f_h0_side)), (h0_width, .inl (g.2.1.1, 9, .inl f_h0_width)), (h0_height, .inl (g.2.1.1, 9, .inl f_h0_height))]) := by
  refine zCi.mk2 (by decide) (Nat.le_of_ble_eq_true rfl) ?_
  intro p e s m below meth c A args Q hE hret hP hD hS ls hl
  obtain ⟨hx, hb, hr, hml, hown, hG, hlocks, hnm, hX, hA⟩ := hE
  have hown : s.vm.findClass RX4 = some m.cls := hown
  have hl : lv_has ls 2 [(0, .ref h0), (1, .int x1)] := hl
  refine lv_aload_n hx hb dX4_sizeY_0 rfl (lv_at hl 0 rfl) ?_
  refine va_get (D := g.1) (ci := 4) (v := .ref h0_side) (C := RX4) (T := TX4) (N := 16) hx hb hG iX4 hown hX.1 hP 0 rfl rfl 10 (by decide) (hG _ wf_X4_24) (fun _ h9 => h9) rfl dX4_sizeY_1 ?_
  refine lv_iload_n hx hb dX4_sizeY_4 rfl (lv_at hl 1 rfl) ?_
  refine va_iald hx hb hX.1 hP 1 0 rfl rfl (zin (rfl : x1.toInt = _) (ox_6 hy0)) dX4_sizeY_5 ?_
  refine lv_topi (fun z1 e2 => ?_)
  have i3 : 0 ≤ z1.toInt ∧ z1.toInt ≤ 3 := hy3.at e2
  refine zfi (wr := [(h0, .inr (4, [.int h0_count, .int h0_statements, .int h0_thick, .int h0_punch, .int h0_ups, .int h0_toolCount, .ref h0_toolWidth, .ref h0_told, .ref h0_name, .ref h0_parent, .ref h0_side, .ref h0_from, .ref h0_width, .ref h0_height, .ref h0_radius, .ref h0_toolSet])), (h0_side, .inl (g.2.1.1, 9, .inl f_h0_side)), (h0_width, .inl (g.2.1.1, 9, .inl f_h0_width)), (h0_height, .inl (g.2.1.1, 9, .inl f_h0_height))]) (va_runS (As := [.int z1]) (rest := []) ⟨hx, hb, hml, hown, hG⟩ (kX4_runsAlongX l g z1 _) ⟨callB_of 1 hG (zGood wc_X4_runsAlongX) rfl rfl rfl (hG _ wini_X4) (hG _ wm_X4_86) hX4_runsAlongX ⟨Nat.le_of_ble_eq_true rfl, Nat.le_of_ble_eq_true rfl⟩, hG _ ws_X4_runsAlongX⟩ (zpreS hX hP hD hS hA [] rfl (by decide)) rfl rfl hl.1 rfl (lv_room (Nat.le_of_ble_eq_true rfl)) dX4_sizeY_6 ⟨Nat.le_of_ble_eq_true rfl, Nat.le_of_ble_eq_true rfl⟩) hP hD hS hA [] [0, 1, 2, 3] rfl rfl (by decide) (by decide) (fun r4 _ H locs hp hP hD hS => ?_)
  refine W.cs (cells' := 0) (slots' := 0) rfl rfl ?_
  have hq5 : 0 ≤ r4.toInt ∧ r4.toInt ≤ 1 := hp
  have hP : va_P g.1 vwCl [(h0, .inr (4, [.int h0_count, .int h0_statements, .int h0_thick, .int h0_punch, .int h0_ups, .int h0_toolCount, .ref h0_toolWidth, .ref h0_told, .ref h0_name, .ref h0_parent, .ref h0_side, .ref h0_from, .ref h0_width, .ref h0_height, .ref h0_radius, .ref h0_toolSet])), (h0_side, .inl (g.2.1.1, 9, .inl f_h0_side)), (h0_width, .inl (g.2.1.1, 9, .inl f_h0_width)), (h0_height, .inl (g.2.1.1, 9, .inl f_h0_height))] H := hP
  have hD : va_D A [(h0, .inr (4, [.int h0_count, .int h0_statements, .int h0_thick, .int h0_punch, .int h0_ups, .int h0_toolCount, .ref h0_toolWidth, .ref h0_told, .ref h0_name, .ref h0_parent, .ref h0_side, .ref h0_from, .ref h0_width, .ref h0_height, .ref h0_radius, .ref h0_toolSet])), (h0_side, .inl (g.2.1.1, 9, .inl f_h0_side)), (h0_width, .inl (g.2.1.1, 9, .inl f_h0_width)), (h0_height, .inl (g.2.1.1, 9, .inl f_h0_height))] := hD
  refine lv_if_eq (tgt := 21) hx hb dX4_sizeY_9 (by decide) (fun c6 => ?_) (fun c6 => ?_)
  · skip
    have c6i : r4.toInt = (0 : Int) := (zc_eq (rfl : r4.toInt = _) (show (0 : Int32).toInt = (0 : Int) from by decide)).mp c6
    refine lv_aload_n hx hb dX4_sizeY_21 rfl (lv_at hl 0 rfl) ?_
    refine va_get (D := g.1) (ci := 4) (v := .ref h0_width) (C := RX4) (T := TX4) (N := 16) hx hb hG iX4 hown hX.1 hP 0 rfl rfl 12 (by decide) (hG _ wf_X4_30) (fun _ h9 => h9) rfl dX4_sizeY_22 ?_
    refine lv_iload_n hx hb dX4_sizeY_25 rfl (lv_at hl 1 rfl) ?_
    refine va_iald hx hb hX.1 hP 2 0 rfl rfl (zin (rfl : x1.toInt = _) (ox_6 hy0)) dX4_sizeY_26 ?_
    refine lv_topi (fun z7 e8 => ?_)
    exact hret z7 () (Nat.le_of_ble_eq_true rfl) (Nat.le_of_ble_eq_true rfl) rfl trivial hP hD hS dX4_sizeY_27
  · skip
    have c6i : ¬ (r4.toInt = (0 : Int)) := fun q => c6 ((zc_eq (rfl : r4.toInt = _) (show (0 : Int32).toInt = (0 : Int) from by decide)).mpr q)
    refine lv_aload_n hx hb dX4_sizeY_12 rfl (lv_at hl 0 rfl) ?_
    refine va_get (D := g.1) (ci := 4) (v := .ref h0_height) (C := RX4) (T := TX4) (N := 16) hx hb hG iX4 hown hX.1 hP 0 rfl rfl 13 (by decide) (hG _ wf_X4_33) (fun _ h9 => h9) rfl dX4_sizeY_13 ?_
    refine lv_iload_n hx hb dX4_sizeY_16 rfl (lv_at hl 1 rfl) ?_
    refine va_iald hx hb hX.1 hP 3 0 rfl rfl (zin (rfl : x1.toInt = _) (ox_6 hy0)) dX4_sizeY_17 ?_
    refine lv_topi (fun z9 e10 => ?_)
    refine lv_goto (tgt := 27) hx hb dX4_sizeY_18 (by decide) ?_
    exact hret z9 () (Nat.le_of_ble_eq_true rfl) (Nat.le_of_ble_eq_true rfl) rfl trivial hP hD hS dX4_sizeY_27
theorem dX4_sideLength_0 : decode cX4_sideLength 0 = .ok (.iload_n 2, 1) := by decide +kernel
theorem dX4_sideLength_1 : decode cX4_sideLength 1 = .ok (.invokestatic 86, 3) := by decide +kernel
theorem dX4_sideLength_4 : decode cX4_sideLength 4 = .ok (.ifCond .eq 11, 3) := by decide +kernel
theorem dX4_sideLength_15 : decode cX4_sideLength 15 = .ok (.aload_n 0, 1) := by decide +kernel
theorem dX4_sideLength_16 : decode cX4_sideLength 16 = .ok (.iload_n 1, 1) := by decide +kernel
theorem dX4_sideLength_17 : decode cX4_sideLength 17 = .ok (.invokevirtual 92, 3) := by decide +kernel
theorem dX4_sideLength_20 : decode cX4_sideLength 20 = .ok (.ireturn, 1) := by decide +kernel
theorem dX4_sideLength_7 : decode cX4_sideLength 7 = .ok (.aload_n 0, 1) := by decide +kernel
theorem dX4_sideLength_8 : decode cX4_sideLength 8 = .ok (.iload_n 1, 1) := by decide +kernel
theorem dX4_sideLength_9 : decode cX4_sideLength 9 = .ok (.invokevirtual 89, 3) := by decide +kernel
theorem dX4_sideLength_12 : decode cX4_sideLength 12 = .ok (.goto 8, 3) := by decide +kernel
abbrev rm_kX4_sideLength : Room := { frames := 2, cells := 0, slots := 0, locals := 41 }
set_option maxHeartbeats 4000000 in
set_option maxRecDepth 100000 in
theorem kX4_sideLength (l : Launch) (g : zL) (h0 : Nat) (x1 : Int32) (x2 : Int32) (h0_count : Int32) (h0_statements : Int32) (h0_thick : Int32) (h0_punch : Int32) (h0_ups : Int32) (h0_toolCount : Int32) (h0_toolWidth : Nat) (h0_told : Nat) (h0_name : Nat) (h0_parent : Nat) (h0_side : Nat) (h0_from : Nat) (h0_width : Nat) (h0_height : Nat) (h0_radius : Nat) (h0_toolSet : Nat) (f_h0_side : Nat → Int32) (f_h0_width : Nat → Int32) (f_h0_height : Nat → Int32) (hy0 : 0 ≤ x1.toInt ∧ x1.toInt ≤ 8) (hy1 : 0 ≤ h0_count.toInt ∧ h0_count.toInt ≤ 9) (hy2 : 0 ≤ h0_toolCount.toInt ∧ h0_toolCount.toInt ≤ 8) (hy3 : aI 0 3 f_h0_side) : zCi l g yX4_sideLength cX4_sideLength 3 (some .int) rm_kX4_sideLength [.ref h0, .int x1, .int x2] [(h0, .inr (4, [.int h0_count, .int h0_statements, .int h0_thick, .int h0_punch, .int h0_ups, .int h0_toolCount, .ref h0_toolWidth, .ref h0_told, .ref h0_name, .ref h0_parent, .ref h0_side, .ref h0_from, .ref h0_width, .ref h0_height, .ref h0_radius, .ref h0_toolSet])), (h0_side, .inl (g.2.1.1, 9, .inl f_h0_side)), (h0_width, .inl (g.2.1.1, 9, .inl f_h0_width)), (h0_height, .inl (g.2.1.1, 9, .inl f_h0_height))] (fun (r : Int32) (u : Unit) => True) (fun (u : Unit) => [(h0, .inr (4, [.int h0_count, .int h0_statements, .int h0_thick, .int h0_punch, .int h0_ups, .int h0_toolCount, .ref h0_toolWidth, .ref h0_told, .ref h0_name, .ref h0_parent, .ref h0_side, .ref h0_from, .ref h0_width, .ref h0_height, .ref h0_radius, .ref h0_toolSet])), (h0_side, .inl (g.2.1.1, 9, .inl f_h0_side)), (h0_width, .inl (g.2.1.1, 9, .inl f_h0_width)), (h0_height, .inl (g.2.1.1, 9, .inl f_h0_height))]) := by
  refine zCi.mk2 (by decide) (Nat.le_of_ble_eq_true rfl) ?_
  intro p e s m below meth c A args Q hE hret hP hD hS ls hl
  obtain ⟨hx, hb, hr, hml, hown, hG, hlocks, hnm, hX, hA⟩ := hE
  have hown : s.vm.findClass RX4 = some m.cls := hown
  have hl : lv_has ls 3 [(0, .ref h0), (1, .int x1), (2, .int x2)] := hl
  refine lv_iload_n hx hb dX4_sideLength_0 rfl (lv_at hl 2 rfl) ?_
  refine zfi (wr := [(h0, .inr (4, [.int h0_count, .int h0_statements, .int h0_thick, .int h0_punch, .int h0_ups, .int h0_toolCount, .ref h0_toolWidth, .ref h0_told, .ref h0_name, .ref h0_parent, .ref h0_side, .ref h0_from, .ref h0_width, .ref h0_height, .ref h0_radius, .ref h0_toolSet])), (h0_side, .inl (g.2.1.1, 9, .inl f_h0_side)), (h0_width, .inl (g.2.1.1, 9, .inl f_h0_width)), (h0_height, .inl (g.2.1.1, 9, .inl f_h0_height))]) (va_runS (As := [.int x2]) (rest := []) ⟨hx, hb, hml, hown, hG⟩ (kX4_runsAlongX l g x2 _) ⟨callB_of 1 hG (zGood wc_X4_runsAlongX) rfl rfl rfl (hG _ wini_X4) (hG _ wm_X4_86) hX4_runsAlongX ⟨Nat.le_of_ble_eq_true rfl, Nat.le_of_ble_eq_true rfl⟩, hG _ ws_X4_runsAlongX⟩ (zpreS hX hP hD hS hA [] rfl (by decide)) rfl rfl hl.1 rfl (lv_room (Nat.le_of_ble_eq_true rfl)) dX4_sideLength_1 ⟨Nat.le_of_ble_eq_true rfl, Nat.le_of_ble_eq_true rfl⟩) hP hD hS hA [] [0, 1, 2, 3] rfl rfl (by decide) (by decide) (fun r1 _ H locs hp hP hD hS => ?_)
  refine W.cs (cells' := 0) (slots' := 0) rfl rfl ?_
  have hq2 : 0 ≤ r1.toInt ∧ r1.toInt ≤ 1 := hp
  have hP : va_P g.1 vwCl [(h0, .inr (4, [.int h0_count, .int h0_statements, .int h0_thick, .int h0_punch, .int h0_ups, .int h0_toolCount, .ref h0_toolWidth, .ref h0_told, .ref h0_name, .ref h0_parent, .ref h0_side, .ref h0_from, .ref h0_width, .ref h0_height, .ref h0_radius, .ref h0_toolSet])), (h0_side, .inl (g.2.1.1, 9, .inl f_h0_side)), (h0_width, .inl (g.2.1.1, 9, .inl f_h0_width)), (h0_height, .inl (g.2.1.1, 9, .inl f_h0_height))] H := hP
  have hD : va_D A [(h0, .inr (4, [.int h0_count, .int h0_statements, .int h0_thick, .int h0_punch, .int h0_ups, .int h0_toolCount, .ref h0_toolWidth, .ref h0_told, .ref h0_name, .ref h0_parent, .ref h0_side, .ref h0_from, .ref h0_width, .ref h0_height, .ref h0_radius, .ref h0_toolSet])), (h0_side, .inl (g.2.1.1, 9, .inl f_h0_side)), (h0_width, .inl (g.2.1.1, 9, .inl f_h0_width)), (h0_height, .inl (g.2.1.1, 9, .inl f_h0_height))] := hD
  refine lv_if_eq (tgt := 15) hx hb dX4_sideLength_4 (by decide) (fun c3 => ?_) (fun c3 => ?_)
  · skip
    have c3i : r1.toInt = (0 : Int) := (zc_eq (rfl : r1.toInt = _) (show (0 : Int32).toInt = (0 : Int) from by decide)).mp c3
    refine lv_aload_n hx hb dX4_sideLength_15 rfl (lv_at hl 0 rfl) ?_
    refine lv_iload_n hx hb dX4_sideLength_16 rfl (lv_at hl 1 rfl) ?_
    refine zfi (wr := []) (va_runV (As := [.int x1]) (rest := []) ⟨hx, hb, hml, hown, hG⟩ (kX4_sizeY l g h0 x1 h0_count h0_statements h0_thick h0_punch h0_ups h0_toolCount h0_toolWidth h0_told h0_name h0_parent h0_side h0_from h0_width h0_height h0_radius h0_toolSet f_h0_side f_h0_width f_h0_height (ox_1 hy0) (ox_0 hy1) (ox_1 hy2) hy3 _) ⟨callB_of 1 hG (zGood wc_X4_sizeY) rfl rfl rfl (hG _ wini_X4) (hG _ wm_X4_92) hX4_sizeY ⟨Nat.le_of_ble_eq_true rfl, Nat.le_of_ble_eq_true rfl⟩, hG _ wi_X4_sizeY, hG _ wse_X4_X4_sizeY⟩ (zpreV (va_recv hX.1 hP (ci := 4) (q0 := 0) rfl rfl) hX hP hD hS hA [0, 1, 2, 3] rfl (by decide)) rfl rfl hl.1 rfl (lv_room (Nat.le_of_ble_eq_true rfl)) dX4_sideLength_17 ⟨Nat.le_of_ble_eq_true rfl, Nat.le_of_ble_eq_true rfl⟩) hP hD hS hA [0, 1, 2, 3] [] rfl rfl (by decide) (by decide) (fun r4 _ H locs hp hP hD hS => ?_)
    refine W.cs (cells' := 0) (slots' := 0) rfl rfl ?_
    have hP : va_P g.1 vwCl [(h0, .inr (4, [.int h0_count, .int h0_statements, .int h0_thick, .int h0_punch, .int h0_ups, .int h0_toolCount, .ref h0_toolWidth, .ref h0_told, .ref h0_name, .ref h0_parent, .ref h0_side, .ref h0_from, .ref h0_width, .ref h0_height, .ref h0_radius, .ref h0_toolSet])), (h0_side, .inl (g.2.1.1, 9, .inl f_h0_side)), (h0_width, .inl (g.2.1.1, 9, .inl f_h0_width)), (h0_height, .inl (g.2.1.1, 9, .inl f_h0_height))] H := hP
    have hD : va_D A [(h0, .inr (4, [.int h0_count, .int h0_statements, .int h0_thick, .int h0_punch, .int h0_ups, .int h0_toolCount, .ref h0_toolWidth, .ref h0_told, .ref h0_name, .ref h0_parent, .ref h0_side, .ref h0_from, .ref h0_width, .ref h0_height, .ref h0_radius, .ref h0_toolSet])), (h0_side, .inl (g.2.1.1, 9, .inl f_h0_side)), (h0_width, .inl (g.2.1.1, 9, .inl f_h0_width)), (h0_height, .inl (g.2.1.1, 9, .inl f_h0_height))] := hD
    exact hret r4 () (Nat.le_of_ble_eq_true rfl) (Nat.le_of_ble_eq_true rfl) rfl trivial hP hD hS dX4_sideLength_20
  · skip
    have c3i : ¬ (r1.toInt = (0 : Int)) := fun q => c3 ((zc_eq (rfl : r1.toInt = _) (show (0 : Int32).toInt = (0 : Int) from by decide)).mpr q)
    refine lv_aload_n hx hb dX4_sideLength_7 rfl (lv_at hl 0 rfl) ?_
    refine lv_iload_n hx hb dX4_sideLength_8 rfl (lv_at hl 1 rfl) ?_
    refine zfi (wr := []) (va_runV (As := [.int x1]) (rest := []) ⟨hx, hb, hml, hown, hG⟩ (kX4_sizeX l g h0 x1 h0_count h0_statements h0_thick h0_punch h0_ups h0_toolCount h0_toolWidth h0_told h0_name h0_parent h0_side h0_from h0_width h0_height h0_radius h0_toolSet f_h0_side f_h0_height f_h0_width (ox_1 hy0) (ox_0 hy1) (ox_1 hy2) hy3 _) ⟨callB_of 1 hG (zGood wc_X4_sizeX) rfl rfl rfl (hG _ wini_X4) (hG _ wm_X4_89) hX4_sizeX ⟨Nat.le_of_ble_eq_true rfl, Nat.le_of_ble_eq_true rfl⟩, hG _ wi_X4_sizeX, hG _ wse_X4_X4_sizeX⟩ (zpreV (va_recv hX.1 hP (ci := 4) (q0 := 0) rfl rfl) hX hP hD hS hA [0, 1, 3, 2] rfl (by decide)) rfl rfl hl.1 rfl (lv_room (Nat.le_of_ble_eq_true rfl)) dX4_sideLength_9 ⟨Nat.le_of_ble_eq_true rfl, Nat.le_of_ble_eq_true rfl⟩) hP hD hS hA [0, 1, 3, 2] [] rfl rfl (by decide) (by decide) (fun r5 _ H locs hp hP hD hS => ?_)
    refine W.cs (cells' := 0) (slots' := 0) rfl rfl ?_
    have hP : va_P g.1 vwCl [(h0, .inr (4, [.int h0_count, .int h0_statements, .int h0_thick, .int h0_punch, .int h0_ups, .int h0_toolCount, .ref h0_toolWidth, .ref h0_told, .ref h0_name, .ref h0_parent, .ref h0_side, .ref h0_from, .ref h0_width, .ref h0_height, .ref h0_radius, .ref h0_toolSet])), (h0_side, .inl (g.2.1.1, 9, .inl f_h0_side)), (h0_height, .inl (g.2.1.1, 9, .inl f_h0_height)), (h0_width, .inl (g.2.1.1, 9, .inl f_h0_width))] H := hP
    have hD : va_D A [(h0, .inr (4, [.int h0_count, .int h0_statements, .int h0_thick, .int h0_punch, .int h0_ups, .int h0_toolCount, .ref h0_toolWidth, .ref h0_told, .ref h0_name, .ref h0_parent, .ref h0_side, .ref h0_from, .ref h0_width, .ref h0_height, .ref h0_radius, .ref h0_toolSet])), (h0_side, .inl (g.2.1.1, 9, .inl f_h0_side)), (h0_height, .inl (g.2.1.1, 9, .inl f_h0_height)), (h0_width, .inl (g.2.1.1, 9, .inl f_h0_width))] := hD
    refine lv_goto (tgt := 20) hx hb dX4_sideLength_12 (by decide) ?_
    exact hret r5 () (Nat.le_of_ble_eq_true rfl) (Nat.le_of_ble_eq_true rfl) rfl trivial (hP.sub [0, 1, 3, 2] rfl) (hD.sub [0, 1, 3, 2] (by decide) rfl) hS dX4_sideLength_20
theorem dX4_hangsBy_0 : decode cX4_hangsBy 0 = .ok (.iload_n 1, 1) := by decide +kernel
theorem dX4_hangsBy_1 : decode cX4_hangsBy 1 = .ok (.ifCond .le 21, 3) := by decide +kernel
theorem dX4_hangsBy_22 : decode cX4_hangsBy 22 = .ok (.iconst 0, 1) := by decide +kernel
theorem dX4_hangsBy_23 : decode cX4_hangsBy 23 = .ok (.ireturn, 1) := by decide +kernel
theorem dX4_hangsBy_4 : decode cX4_hangsBy 4 = .ok (.aload_n 0, 1) := by decide +kernel
theorem dX4_hangsBy_5 : decode cX4_hangsBy 5 = .ok (.getfield 24, 3) := by decide +kernel
theorem dX4_hangsBy_8 : decode cX4_hangsBy 8 = .ok (.iload_n 1, 1) := by decide +kernel
theorem dX4_hangsBy_9 : decode cX4_hangsBy 9 = .ok (.iaload, 1) := by decide +kernel
theorem dX4_hangsBy_10 : decode cX4_hangsBy 10 = .ok (.iconst 2, 1) := by decide +kernel
theorem dX4_hangsBy_11 : decode cX4_hangsBy 11 = .ok (.iadd, 1) := by decide +kernel
theorem dX4_hangsBy_12 : decode cX4_hangsBy 12 = .ok (.iconst 4, 1) := by decide +kernel
theorem dX4_hangsBy_13 : decode cX4_hangsBy 13 = .ok (.irem, 1) := by decide +kernel
theorem dX4_hangsBy_14 : decode cX4_hangsBy 14 = .ok (.iload_n 2, 1) := by decide +kernel
theorem dX4_hangsBy_15 : decode cX4_hangsBy 15 = .ok (.if_icmp .ne 7, 3) := by decide +kernel
theorem dX4_hangsBy_18 : decode cX4_hangsBy 18 = .ok (.iconst 1, 1) := by decide +kernel
theorem dX4_hangsBy_19 : decode cX4_hangsBy 19 = .ok (.goto 4, 3) := by decide +kernel
abbrev rm_kX4_hangsBy : Room := { frames := 0, cells := 0, slots := 0, locals := 0 }
set_option maxHeartbeats 4000000 in
set_option maxRecDepth 100000 in
theorem kX4_hangsBy (l : Launch) (g : zL) (h0 : Nat) (x1 : Int32) (x2 : Int32) (h0_count : Int32) (h0_statements : Int32) (h0_thick : Int32) (h0_punch : Int32) (h0_ups : Int32) (h0_toolCount : Int32) (h0_toolWidth : Nat) (h0_told : Nat) (h0_name : Nat) (h0_parent : Nat) (h0_side : Nat) (h0_from : Nat) (h0_width : Nat) (h0_height : Nat) (h0_radius : Nat) (h0_toolSet : Nat) (f_h0_side : Nat → Int32) (hy0 : 0 ≤ x1.toInt ∧ x1.toInt ≤ 8) (hy1 : 0 ≤ h0_count.toInt ∧ h0_count.toInt ≤ 9) (hy2 : 0 ≤ h0_toolCount.toInt ∧ h0_toolCount.toInt ≤ 8) (hy3 : aI 0 3 f_h0_side) : zCi l g yX4_hangsBy cX4_hangsBy 3 (some .boolean) rm_kX4_hangsBy [.ref h0, .int x1, .int x2] [(h0, .inr (4, [.int h0_count, .int h0_statements, .int h0_thick, .int h0_punch, .int h0_ups, .int h0_toolCount, .ref h0_toolWidth, .ref h0_told, .ref h0_name, .ref h0_parent, .ref h0_side, .ref h0_from, .ref h0_width, .ref h0_height, .ref h0_radius, .ref h0_toolSet])), (h0_side, .inl (g.2.1.1, 9, .inl f_h0_side))] (fun (r : Int32) (u : Unit) => (0 ≤ r.toInt ∧ r.toInt ≤ 1)) (fun (u : Unit) => [(h0, .inr (4, [.int h0_count, .int h0_statements, .int h0_thick, .int h0_punch, .int h0_ups, .int h0_toolCount, .ref h0_toolWidth, .ref h0_told, .ref h0_name, .ref h0_parent, .ref h0_side, .ref h0_from, .ref h0_width, .ref h0_height, .ref h0_radius, .ref h0_toolSet])), (h0_side, .inl (g.2.1.1, 9, .inl f_h0_side))]) := by
  refine zCi.mk2 (by decide) (Nat.le_of_ble_eq_true rfl) ?_
  intro p e s m below meth c A args Q hE hret hP hD hS ls hl
  obtain ⟨hx, hb, hr, hml, hown, hG, hlocks, hnm, hX, hA⟩ := hE
  have hown : s.vm.findClass RX4 = some m.cls := hown
  have hl : lv_has ls 3 [(0, .ref h0), (1, .int x1), (2, .int x2)] := hl
  refine lv_iload_n hx hb dX4_hangsBy_0 rfl (lv_at hl 1 rfl) ?_
  refine lv_if_le (tgt := 22) hx hb dX4_hangsBy_1 (by decide) (fun c1 => ?_) (fun c1 => ?_)
  · skip
    have c1i : x1.toInt ≤ (0 : Int) := (zc_le (rfl : x1.toInt = _) (show (0 : Int32).toInt = (0 : Int) from by decide)).mp c1
    refine lv_iconst (v := 0) hx hb dX4_hangsBy_22 (by decide) ?_
    exact hret (0 : Int32) () (Nat.le_of_ble_eq_true rfl) (Nat.le_of_ble_eq_true rfl) rfl ((show 0 ≤ (0 : Int) ∧ (0 : Int) ≤ 1 from by decide)) hP hD hS dX4_hangsBy_23
  · skip
    have c1i : ¬ (x1.toInt ≤ (0 : Int)) := fun q => c1 ((zc_le (rfl : x1.toInt = _) (show (0 : Int32).toInt = (0 : Int) from by decide)).mpr q)
    refine lv_aload_n hx hb dX4_hangsBy_4 rfl (lv_at hl 0 rfl) ?_
    refine va_get (D := g.1) (ci := 4) (v := .ref h0_side) (C := RX4) (T := TX4) (N := 16) hx hb hG iX4 hown hX.1 hP 0 rfl rfl 10 (by decide) (hG _ wf_X4_24) (fun _ h9 => h9) rfl dX4_hangsBy_5 ?_
    refine lv_iload_n hx hb dX4_hangsBy_8 rfl (lv_at hl 1 rfl) ?_
    refine va_iald hx hb hX.1 hP 1 0 rfl rfl (zin (rfl : x1.toInt = _) (ox_7 c1i hy0)) dX4_hangsBy_9 ?_
    refine lv_topi (fun z2 e3 => ?_)
    have i4 : 0 ≤ z2.toInt ∧ z2.toInt ≤ 3 := hy3.at e3
    refine lv_iconst (v := 2) hx hb dX4_hangsBy_10 (by decide) ?_
    refine lv_iadd hx hb dX4_hangsBy_11 ?_
    refine lv_topi (fun z5 e6 => ?_)
    have f7 : z5.toInt = z2.toInt + (2 : Int) := za e6 (rfl : z2.toInt = _) (show (2 : Int32).toInt = (2 : Int) from by decide) (ox_8 (zr z2) i4)
    refine lv_iconst (v := 4) hx hb dX4_hangsBy_12 (by decide) ?_
    refine lv_irem hx hb dX4_hangsBy_13 (zne0 (show (4 : Int32).toInt = (4 : Int) from by decide) ((show ¬ (4 : Int) = 0 from by decide))) ?_
    refine lv_topi (fun z8 e9 => ?_)
    have f10 : z8.toInt = z5.toInt % (4 : Int) := zrm e9 (rfl : z5.toInt = _) (show (4 : Int32).toInt = (4 : Int) from by decide) (ox_9 f7 i4)
    refine lv_iload_n hx hb dX4_hangsBy_14 rfl (lv_at hl 2 rfl) ?_
    refine lv_icmp_ne (tgt := 22) hx hb dX4_hangsBy_15 (by decide) (fun c11 => ?_) (fun c11 => ?_)
    · skip
      have c11i : ¬ (z8.toInt = x2.toInt) := fun q => c11 ((zc_eq (rfl : z8.toInt = _) (rfl : x2.toInt = _)).mpr q)
      refine lv_iconst (v := 0) hx hb dX4_hangsBy_22 (by decide) ?_
      exact hret (0 : Int32) () (Nat.le_of_ble_eq_true rfl) (Nat.le_of_ble_eq_true rfl) rfl ((show 0 ≤ (0 : Int) ∧ (0 : Int) ≤ 1 from by decide)) hP hD hS dX4_hangsBy_23
    · skip
      have c11i : z8.toInt = x2.toInt := (zc_eq (rfl : z8.toInt = _) (rfl : x2.toInt = _)).mp c11
      refine lv_iconst (v := 1) hx hb dX4_hangsBy_18 (by decide) ?_
      refine lv_goto (tgt := 23) hx hb dX4_hangsBy_19 (by decide) ?_
      exact hret (1 : Int32) () (Nat.le_of_ble_eq_true rfl) (Nat.le_of_ble_eq_true rfl) rfl ((show 0 ≤ (1 : Int) ∧ (1 : Int) ≤ 1 from by decide)) hP hD hS dX4_hangsBy_23
theorem dX4_sharesSide_0 : decode cX4_sharesSide 0 = .ok (.aload_n 0, 1) := by decide +kernel
theorem dX4_sharesSide_1 : decode cX4_sharesSide 1 = .ok (.getfield 21, 3) := by decide +kernel
theorem dX4_sharesSide_4 : decode cX4_sharesSide 4 = .ok (.iload_n 1, 1) := by decide +kernel
theorem dX4_sharesSide_5 : decode cX4_sharesSide 5 = .ok (.iaload, 1) := by decide +kernel
theorem dX4_sharesSide_6 : decode cX4_sharesSide 6 = .ok (.aload_n 0, 1) := by decide +kernel
theorem dX4_sharesSide_7 : decode cX4_sharesSide 7 = .ok (.getfield 21, 3) := by decide +kernel
theorem dX4_sharesSide_10 : decode cX4_sharesSide 10 = .ok (.iload_n 2, 1) := by decide +kernel
theorem dX4_sharesSide_11 : decode cX4_sharesSide 11 = .ok (.iaload, 1) := by decide +kernel
theorem dX4_sharesSide_12 : decode cX4_sharesSide 12 = .ok (.if_icmp .ne 66, 3) := by decide +kernel
theorem dX4_sharesSide_78 : decode cX4_sharesSide 78 = .ok (.iconst 0, 1) := by decide +kernel
theorem dX4_sharesSide_79 : decode cX4_sharesSide 79 = .ok (.ireturn, 1) := by decide +kernel
theorem dX4_sharesSide_15 : decode cX4_sharesSide 15 = .ok (.aload_n 0, 1) := by decide +kernel
theorem dX4_sharesSide_16 : decode cX4_sharesSide 16 = .ok (.getfield 24, 3) := by decide +kernel
theorem dX4_sharesSide_19 : decode cX4_sharesSide 19 = .ok (.iload_n 1, 1) := by decide +kernel
theorem dX4_sharesSide_20 : decode cX4_sharesSide 20 = .ok (.iaload, 1) := by decide +kernel
theorem dX4_sharesSide_21 : decode cX4_sharesSide 21 = .ok (.aload_n 0, 1) := by decide +kernel
theorem dX4_sharesSide_22 : decode cX4_sharesSide 22 = .ok (.getfield 24, 3) := by decide +kernel
theorem dX4_sharesSide_25 : decode cX4_sharesSide 25 = .ok (.iload_n 2, 1) := by decide +kernel
theorem dX4_sharesSide_26 : decode cX4_sharesSide 26 = .ok (.iaload, 1) := by decide +kernel
theorem dX4_sharesSide_27 : decode cX4_sharesSide 27 = .ok (.if_icmp .ne 51, 3) := by decide +kernel
theorem dX4_sharesSide_30 : decode cX4_sharesSide 30 = .ok (.aload_n 0, 1) := by decide +kernel
theorem dX4_sharesSide_31 : decode cX4_sharesSide 31 = .ok (.getfield 27, 3) := by decide +kernel
theorem dX4_sharesSide_34 : decode cX4_sharesSide 34 = .ok (.iload_n 1, 1) := by decide +kernel
theorem dX4_sharesSide_35 : decode cX4_sharesSide 35 = .ok (.iaload, 1) := by decide +kernel
theorem dX4_sharesSide_36 : decode cX4_sharesSide 36 = .ok (.aload_n 0, 1) := by decide +kernel
theorem dX4_sharesSide_37 : decode cX4_sharesSide 37 = .ok (.getfield 27, 3) := by decide +kernel
theorem dX4_sharesSide_40 : decode cX4_sharesSide 40 = .ok (.iload_n 2, 1) := by decide +kernel
theorem dX4_sharesSide_41 : decode cX4_sharesSide 41 = .ok (.iaload, 1) := by decide +kernel
theorem dX4_sharesSide_42 : decode cX4_sharesSide 42 = .ok (.aload_n 0, 1) := by decide +kernel
theorem dX4_sharesSide_43 : decode cX4_sharesSide 43 = .ok (.getfield 30, 3) := by decide +kernel
theorem dX4_sharesSide_46 : decode cX4_sharesSide 46 = .ok (.iload_n 2, 1) := by decide +kernel
theorem dX4_sharesSide_47 : decode cX4_sharesSide 47 = .ok (.iaload, 1) := by decide +kernel
theorem dX4_sharesSide_48 : decode cX4_sharesSide 48 = .ok (.iadd, 1) := by decide +kernel
theorem dX4_sharesSide_49 : decode cX4_sharesSide 49 = .ok (.if_icmp .ge 29, 3) := by decide +kernel
theorem dX4_sharesSide_52 : decode cX4_sharesSide 52 = .ok (.aload_n 0, 1) := by decide +kernel
theorem dX4_sharesSide_53 : decode cX4_sharesSide 53 = .ok (.getfield 27, 3) := by decide +kernel
theorem dX4_sharesSide_56 : decode cX4_sharesSide 56 = .ok (.iload_n 2, 1) := by decide +kernel
theorem dX4_sharesSide_57 : decode cX4_sharesSide 57 = .ok (.iaload, 1) := by decide +kernel
theorem dX4_sharesSide_58 : decode cX4_sharesSide 58 = .ok (.aload_n 0, 1) := by decide +kernel
theorem dX4_sharesSide_59 : decode cX4_sharesSide 59 = .ok (.getfield 27, 3) := by decide +kernel
theorem dX4_sharesSide_62 : decode cX4_sharesSide 62 = .ok (.iload_n 1, 1) := by decide +kernel
theorem dX4_sharesSide_63 : decode cX4_sharesSide 63 = .ok (.iaload, 1) := by decide +kernel
theorem dX4_sharesSide_64 : decode cX4_sharesSide 64 = .ok (.aload_n 0, 1) := by decide +kernel
theorem dX4_sharesSide_65 : decode cX4_sharesSide 65 = .ok (.getfield 30, 3) := by decide +kernel
theorem dX4_sharesSide_68 : decode cX4_sharesSide 68 = .ok (.iload_n 1, 1) := by decide +kernel
theorem dX4_sharesSide_69 : decode cX4_sharesSide 69 = .ok (.iaload, 1) := by decide +kernel
theorem dX4_sharesSide_70 : decode cX4_sharesSide 70 = .ok (.iadd, 1) := by decide +kernel
theorem dX4_sharesSide_71 : decode cX4_sharesSide 71 = .ok (.if_icmp .ge 7, 3) := by decide +kernel
theorem dX4_sharesSide_74 : decode cX4_sharesSide 74 = .ok (.iconst 1, 1) := by decide +kernel
theorem dX4_sharesSide_75 : decode cX4_sharesSide 75 = .ok (.goto 4, 3) := by decide +kernel
abbrev rm_kX4_sharesSide : Room := { frames := 0, cells := 0, slots := 0, locals := 0 }
set_option maxHeartbeats 4000000 in
set_option maxRecDepth 100000 in
theorem kX4_sharesSide (l : Launch) (g : zL) (h0 : Nat) (x1 : Int32) (x2 : Int32) (h0_count : Int32) (h0_statements : Int32) (h0_thick : Int32) (h0_punch : Int32) (h0_ups : Int32) (h0_toolCount : Int32) (h0_toolWidth : Nat) (h0_told : Nat) (h0_name : Nat) (h0_parent : Nat) (h0_side : Nat) (h0_from : Nat) (h0_width : Nat) (h0_height : Nat) (h0_radius : Nat) (h0_toolSet : Nat) (f_h0_parent : Nat → Int32) (f_h0_side : Nat → Int32) (f_h0_from : Nat → Int32) (f_h0_width : Nat → Int32) (hy0 : 0 ≤ x1.toInt ∧ x1.toInt ≤ 8) (hy1 : 0 ≤ x2.toInt ∧ x2.toInt ≤ 8) (hy2 : 0 ≤ h0_count.toInt ∧ h0_count.toInt ≤ 9) (hy3 : 0 ≤ h0_toolCount.toInt ∧ h0_toolCount.toInt ≤ 8) (hy4 : aI 0 8 f_h0_parent) (hy5 : aI 0 3 f_h0_side) : zCi l g yX4_sharesSide cX4_sharesSide 3 (some .boolean) rm_kX4_sharesSide [.ref h0, .int x1, .int x2] [(h0, .inr (4, [.int h0_count, .int h0_statements, .int h0_thick, .int h0_punch, .int h0_ups, .int h0_toolCount, .ref h0_toolWidth, .ref h0_told, .ref h0_name, .ref h0_parent, .ref h0_side, .ref h0_from, .ref h0_width, .ref h0_height, .ref h0_radius, .ref h0_toolSet])), (h0_parent, .inl (g.2.1.1, 9, .inl f_h0_parent)), (h0_side, .inl (g.2.1.1, 9, .inl f_h0_side)), (h0_from, .inl (g.2.1.1, 9, .inl f_h0_from)), (h0_width, .inl (g.2.1.1, 9, .inl f_h0_width))] (fun (r : Int32) (u : Unit) => (0 ≤ r.toInt ∧ r.toInt ≤ 1)) (fun (u : Unit) => [(h0, .inr (4, [.int h0_count, .int h0_statements, .int h0_thick, .int h0_punch, .int h0_ups, .int h0_toolCount, .ref h0_toolWidth, .ref h0_told, .ref h0_name, .ref h0_parent, .ref h0_side, .ref h0_from, .ref h0_width, .ref h0_height, .ref h0_radius, .ref h0_toolSet])), (h0_parent, .inl (g.2.1.1, 9, .inl f_h0_parent)), (h0_side, .inl (g.2.1.1, 9, .inl f_h0_side)), (h0_from, .inl (g.2.1.1, 9, .inl f_h0_from)), (h0_width, .inl (g.2.1.1, 9, .inl f_h0_width))]) := by
  refine zCi.mk2 (by decide) (Nat.le_of_ble_eq_true rfl) ?_
  intro p e s m below meth c A args Q hE hret hP hD hS ls hl
  obtain ⟨hx, hb, hr, hml, hown, hG, hlocks, hnm, hX, hA⟩ := hE
  have hown : s.vm.findClass RX4 = some m.cls := hown
  have hl : lv_has ls 3 [(0, .ref h0), (1, .int x1), (2, .int x2)] := hl
  refine lv_aload_n hx hb dX4_sharesSide_0 rfl (lv_at hl 0 rfl) ?_
  refine va_get (D := g.1) (ci := 4) (v := .ref h0_parent) (C := RX4) (T := TX4) (N := 16) hx hb hG iX4 hown hX.1 hP 0 rfl rfl 9 (by decide) (hG _ wf_X4_21) (fun _ h9 => h9) rfl dX4_sharesSide_1 ?_
  refine lv_iload_n hx hb dX4_sharesSide_4 rfl (lv_at hl 1 rfl) ?_
  refine va_iald hx hb hX.1 hP 1 0 rfl rfl (zin (rfl : x1.toInt = _) (ox_6 hy0)) dX4_sharesSide_5 ?_
  refine lv_topi (fun z1 e2 => ?_)
  have i3 : 0 ≤ z1.toInt ∧ z1.toInt ≤ 8 := hy4.at e2
  refine lv_aload_n hx hb dX4_sharesSide_6 rfl (lv_at hl 0 rfl) ?_
  refine va_get (D := g.1) (ci := 4) (v := .ref h0_parent) (C := RX4) (T := TX4) (N := 16) hx hb hG iX4 hown hX.1 hP 0 rfl rfl 9 (by decide) (hG _ wf_X4_21) (fun _ h9 => h9) rfl dX4_sharesSide_7 ?_
  refine lv_iload_n hx hb dX4_sharesSide_10 rfl (lv_at hl 2 rfl) ?_
  refine va_iald hx hb hX.1 hP 1 0 rfl rfl (zin (rfl : x2.toInt = _) (ox_6 hy1)) dX4_sharesSide_11 ?_
  refine lv_topi (fun z4 e5 => ?_)
  have i6 : 0 ≤ z4.toInt ∧ z4.toInt ≤ 8 := hy4.at e5
  refine lv_icmp_ne (tgt := 78) hx hb dX4_sharesSide_12 (by decide) (fun c7 => ?_) (fun c7 => ?_)
  · skip
    have c7i : ¬ (z1.toInt = z4.toInt) := fun q => c7 ((zc_eq (rfl : z1.toInt = _) (rfl : z4.toInt = _)).mpr q)
    refine lv_iconst (v := 0) hx hb dX4_sharesSide_78 (by decide) ?_
    exact hret (0 : Int32) () (Nat.le_of_ble_eq_true rfl) (Nat.le_of_ble_eq_true rfl) rfl ((show 0 ≤ (0 : Int) ∧ (0 : Int) ≤ 1 from by decide)) hP hD hS dX4_sharesSide_79
  · skip
    have c7i : z1.toInt = z4.toInt := (zc_eq (rfl : z1.toInt = _) (rfl : z4.toInt = _)).mp c7
    refine lv_aload_n hx hb dX4_sharesSide_15 rfl (lv_at hl 0 rfl) ?_
    refine va_get (D := g.1) (ci := 4) (v := .ref h0_side) (C := RX4) (T := TX4) (N := 16) hx hb hG iX4 hown hX.1 hP 0 rfl rfl 10 (by decide) (hG _ wf_X4_24) (fun _ h9 => h9) rfl dX4_sharesSide_16 ?_
    refine lv_iload_n hx hb dX4_sharesSide_19 rfl (lv_at hl 1 rfl) ?_
    refine va_iald hx hb hX.1 hP 2 0 rfl rfl (zin (rfl : x1.toInt = _) (ox_6 hy0)) dX4_sharesSide_20 ?_
    refine lv_topi (fun z8 e9 => ?_)
    have i10 : 0 ≤ z8.toInt ∧ z8.toInt ≤ 3 := hy5.at e9
    refine lv_aload_n hx hb dX4_sharesSide_21 rfl (lv_at hl 0 rfl) ?_
    refine va_get (D := g.1) (ci := 4) (v := .ref h0_side) (C := RX4) (T := TX4) (N := 16) hx hb hG iX4 hown hX.1 hP 0 rfl rfl 10 (by decide) (hG _ wf_X4_24) (fun _ h9 => h9) rfl dX4_sharesSide_22 ?_
    refine lv_iload_n hx hb dX4_sharesSide_25 rfl (lv_at hl 2 rfl) ?_
    refine va_iald hx hb hX.1 hP 2 0 rfl rfl (zin (rfl : x2.toInt = _) (ox_6 hy1)) dX4_sharesSide_26 ?_
    refine lv_topi (fun z11 e12 => ?_)
    have i13 : 0 ≤ z11.toInt ∧ z11.toInt ≤ 3 := hy5.at e12
    refine lv_icmp_ne (tgt := 78) hx hb dX4_sharesSide_27 (by decide) (fun c14 => ?_) (fun c14 => ?_)
    · skip
      have c14i : ¬ (z8.toInt = z11.toInt) := fun q => c14 ((zc_eq (rfl : z8.toInt = _) (rfl : z11.toInt = _)).mpr q)
      refine lv_iconst (v := 0) hx hb dX4_sharesSide_78 (by decide) ?_
      exact hret (0 : Int32) () (Nat.le_of_ble_eq_true rfl) (Nat.le_of_ble_eq_true rfl) rfl ((show 0 ≤ (0 : Int) ∧ (0 : Int) ≤ 1 from by decide)) hP hD hS dX4_sharesSide_79
    · skip
      have c14i : z8.toInt = z11.toInt := (zc_eq (rfl : z8.toInt = _) (rfl : z11.toInt = _)).mp c14
      refine lv_aload_n hx hb dX4_sharesSide_30 rfl (lv_at hl 0 rfl) ?_
      refine va_get (D := g.1) (ci := 4) (v := .ref h0_from) (C := RX4) (T := TX4) (N := 16) hx hb hG iX4 hown hX.1 hP 0 rfl rfl 11 (by decide) (hG _ wf_X4_27) (fun _ h9 => h9) rfl dX4_sharesSide_31 ?_
      refine lv_iload_n hx hb dX4_sharesSide_34 rfl (lv_at hl 1 rfl) ?_
      refine va_iald hx hb hX.1 hP 3 0 rfl rfl (zin (rfl : x1.toInt = _) (ox_6 hy0)) dX4_sharesSide_35 ?_
      refine lv_topi (fun z15 e16 => ?_)
      refine lv_aload_n hx hb dX4_sharesSide_36 rfl (lv_at hl 0 rfl) ?_
      refine va_get (D := g.1) (ci := 4) (v := .ref h0_from) (C := RX4) (T := TX4) (N := 16) hx hb hG iX4 hown hX.1 hP 0 rfl rfl 11 (by decide) (hG _ wf_X4_27) (fun _ h9 => h9) rfl dX4_sharesSide_37 ?_
      refine lv_iload_n hx hb dX4_sharesSide_40 rfl (lv_at hl 2 rfl) ?_
      refine va_iald hx hb hX.1 hP 3 0 rfl rfl (zin (rfl : x2.toInt = _) (ox_6 hy1)) dX4_sharesSide_41 ?_
      refine lv_topi (fun z17 e18 => ?_)
      refine lv_aload_n hx hb dX4_sharesSide_42 rfl (lv_at hl 0 rfl) ?_
      refine va_get (D := g.1) (ci := 4) (v := .ref h0_width) (C := RX4) (T := TX4) (N := 16) hx hb hG iX4 hown hX.1 hP 0 rfl rfl 12 (by decide) (hG _ wf_X4_30) (fun _ h9 => h9) rfl dX4_sharesSide_43 ?_
      refine lv_iload_n hx hb dX4_sharesSide_46 rfl (lv_at hl 2 rfl) ?_
      refine va_iald hx hb hX.1 hP 4 0 rfl rfl (zin (rfl : x2.toInt = _) (ox_6 hy1)) dX4_sharesSide_47 ?_
      refine lv_topi (fun z19 e20 => ?_)
      refine lv_iadd hx hb dX4_sharesSide_48 ?_
      refine lv_topi (fun z21 e22 => ?_)
      refine lv_icmp_ge (tgt := 78) hx hb dX4_sharesSide_49 (by decide) (fun c23 => ?_) (fun c23 => ?_)
      · skip
        have c23i : z21.toInt ≤ z15.toInt := (zc_le (rfl : z21.toInt = _) (rfl : z15.toInt = _)).mp c23
        refine lv_iconst (v := 0) hx hb dX4_sharesSide_78 (by decide) ?_
        exact hret (0 : Int32) () (Nat.le_of_ble_eq_true rfl) (Nat.le_of_ble_eq_true rfl) rfl ((show 0 ≤ (0 : Int) ∧ (0 : Int) ≤ 1 from by decide)) hP hD hS dX4_sharesSide_79
      · skip
        have c23i : ¬ (z21.toInt ≤ z15.toInt) := fun q => c23 ((zc_le (rfl : z21.toInt = _) (rfl : z15.toInt = _)).mpr q)
        refine lv_aload_n hx hb dX4_sharesSide_52 rfl (lv_at hl 0 rfl) ?_
        refine va_get (D := g.1) (ci := 4) (v := .ref h0_from) (C := RX4) (T := TX4) (N := 16) hx hb hG iX4 hown hX.1 hP 0 rfl rfl 11 (by decide) (hG _ wf_X4_27) (fun _ h9 => h9) rfl dX4_sharesSide_53 ?_
        refine lv_iload_n hx hb dX4_sharesSide_56 rfl (lv_at hl 2 rfl) ?_
        refine va_iald hx hb hX.1 hP 3 0 rfl rfl (zin (rfl : x2.toInt = _) (ox_6 hy1)) dX4_sharesSide_57 ?_
        refine lv_topi (fun z24 e25 => ?_)
        refine lv_aload_n hx hb dX4_sharesSide_58 rfl (lv_at hl 0 rfl) ?_
        refine va_get (D := g.1) (ci := 4) (v := .ref h0_from) (C := RX4) (T := TX4) (N := 16) hx hb hG iX4 hown hX.1 hP 0 rfl rfl 11 (by decide) (hG _ wf_X4_27) (fun _ h9 => h9) rfl dX4_sharesSide_59 ?_
        refine lv_iload_n hx hb dX4_sharesSide_62 rfl (lv_at hl 1 rfl) ?_
        refine va_iald hx hb hX.1 hP 3 0 rfl rfl (zin (rfl : x1.toInt = _) (ox_6 hy0)) dX4_sharesSide_63 ?_
        refine lv_topi (fun z26 e27 => ?_)
        refine lv_aload_n hx hb dX4_sharesSide_64 rfl (lv_at hl 0 rfl) ?_
        refine va_get (D := g.1) (ci := 4) (v := .ref h0_width) (C := RX4) (T := TX4) (N := 16) hx hb hG iX4 hown hX.1 hP 0 rfl rfl 12 (by decide) (hG _ wf_X4_30) (fun _ h9 => h9) rfl dX4_sharesSide_65 ?_
        refine lv_iload_n hx hb dX4_sharesSide_68 rfl (lv_at hl 1 rfl) ?_
        refine va_iald hx hb hX.1 hP 4 0 rfl rfl (zin (rfl : x1.toInt = _) (ox_6 hy0)) dX4_sharesSide_69 ?_
        refine lv_topi (fun z28 e29 => ?_)
        refine lv_iadd hx hb dX4_sharesSide_70 ?_
        refine lv_topi (fun z30 e31 => ?_)
        refine lv_icmp_ge (tgt := 78) hx hb dX4_sharesSide_71 (by decide) (fun c32 => ?_) (fun c32 => ?_)
        · skip
          have c32i : z30.toInt ≤ z24.toInt := (zc_le (rfl : z30.toInt = _) (rfl : z24.toInt = _)).mp c32
          refine lv_iconst (v := 0) hx hb dX4_sharesSide_78 (by decide) ?_
          exact hret (0 : Int32) () (Nat.le_of_ble_eq_true rfl) (Nat.le_of_ble_eq_true rfl) rfl ((show 0 ≤ (0 : Int) ∧ (0 : Int) ≤ 1 from by decide)) hP hD hS dX4_sharesSide_79
        · skip
          have c32i : ¬ (z30.toInt ≤ z24.toInt) := fun q => c32 ((zc_le (rfl : z30.toInt = _) (rfl : z24.toInt = _)).mpr q)
          refine lv_iconst (v := 1) hx hb dX4_sharesSide_74 (by decide) ?_
          refine lv_goto (tgt := 79) hx hb dX4_sharesSide_75 (by decide) ?_
          exact hret (1 : Int32) () (Nat.le_of_ble_eq_true rfl) (Nat.le_of_ble_eq_true rfl) rfl ((show 0 ≤ (1 : Int) ∧ (1 : Int) ≤ 1 from by decide)) hP hD hS dX4_sharesSide_79
theorem dX4_depth_0 : decode cX4_depth 0 = .ok (.iconst 0, 1) := by decide +kernel
theorem dX4_depth_1 : decode cX4_depth 1 = .ok (.istore_n 2, 1) := by decide +kernel
theorem dX4_depth_2 : decode cX4_depth 2 = .ok (.iload_n 1, 1) := by decide +kernel
theorem dX4_depth_3 : decode cX4_depth 3 = .ok (.istore_n 3, 1) := by decide +kernel
theorem dX4_depth_4 : decode cX4_depth 4 = .ok (.iload_n 3, 1) := by decide +kernel
theorem dX4_depth_5 : decode cX4_depth 5 = .ok (.ifCond .le 22, 3) := by decide +kernel
theorem dX4_depth_27 : decode cX4_depth 27 = .ok (.iload_n 2, 1) := by decide +kernel
theorem dX4_depth_28 : decode cX4_depth 28 = .ok (.ireturn, 1) := by decide +kernel
theorem dX4_depth_8 : decode cX4_depth 8 = .ok (.iload_n 2, 1) := by decide +kernel
theorem dX4_depth_9 : decode cX4_depth 9 = .ok (.bipush 9, 2) := by decide +kernel
theorem dX4_depth_11 : decode cX4_depth 11 = .ok (.if_icmp .ge 16, 3) := by decide +kernel
theorem dX4_depth_14 : decode cX4_depth 14 = .ok (.iinc 2 1, 3) := by decide +kernel
theorem dX4_depth_17 : decode cX4_depth 17 = .ok (.aload_n 0, 1) := by decide +kernel
theorem dX4_depth_18 : decode cX4_depth 18 = .ok (.getfield 21, 3) := by decide +kernel
theorem dX4_depth_21 : decode cX4_depth 21 = .ok (.iload_n 3, 1) := by decide +kernel
theorem dX4_depth_22 : decode cX4_depth 22 = .ok (.iaload, 1) := by decide +kernel
theorem dX4_depth_23 : decode cX4_depth 23 = .ok (.istore_n 3, 1) := by decide +kernel
theorem dX4_depth_24 : decode cX4_depth 24 = .ok (.goto (-20), 3) := by decide +kernel
abbrev rm_kX4_depth : Room := { frames := 0, cells := 0, slots := 0, locals := 0 }
set_option maxHeartbeats 4000000 in
set_option maxRecDepth 100000 in
theorem kX4_depth (l : Launch) (g : zL) (h0 : Nat) (x1 : Int32) (h0_count : Int32) (h0_statements : Int32) (h0_thick : Int32) (h0_punch : Int32) (h0_ups : Int32) (h0_toolCount : Int32) (h0_toolWidth : Nat) (h0_told : Nat) (h0_name : Nat) (h0_parent : Nat) (h0_side : Nat) (h0_from : Nat) (h0_width : Nat) (h0_height : Nat) (h0_radius : Nat) (h0_toolSet : Nat) (f_h0_parent : Nat → Int32) (hy0 : 0 ≤ x1.toInt ∧ x1.toInt ≤ 8) (hy1 : 0 ≤ h0_count.toInt ∧ h0_count.toInt ≤ 9) (hy2 : 0 ≤ h0_toolCount.toInt ∧ h0_toolCount.toInt ≤ 8) (hy3 : aI 0 8 f_h0_parent) : zCi l g yX4_depth cX4_depth 4 (some .int) rm_kX4_depth [.ref h0, .int x1] [(h0, .inr (4, [.int h0_count, .int h0_statements, .int h0_thick, .int h0_punch, .int h0_ups, .int h0_toolCount, .ref h0_toolWidth, .ref h0_told, .ref h0_name, .ref h0_parent, .ref h0_side, .ref h0_from, .ref h0_width, .ref h0_height, .ref h0_radius, .ref h0_toolSet])), (h0_parent, .inl (g.2.1.1, 9, .inl f_h0_parent))] (fun (r : Int32) (u : Unit) => (0 ≤ r.toInt ∧ r.toInt ≤ 9)) (fun (u : Unit) => [(h0, .inr (4, [.int h0_count, .int h0_statements, .int h0_thick, .int h0_punch, .int h0_ups, .int h0_toolCount, .ref h0_toolWidth, .ref h0_told, .ref h0_name, .ref h0_parent, .ref h0_side, .ref h0_from, .ref h0_width, .ref h0_height, .ref h0_radius, .ref h0_toolSet])), (h0_parent, .inl (g.2.1.1, 9, .inl f_h0_parent))]) := by
  refine zCi.mk2 (by decide) (Nat.le_of_ble_eq_true rfl) ?_
  intro p e s m below meth c A args Q hE hret hP hD hS ls hl
  obtain ⟨hx, hb, hr, hml, hown, hG, hlocks, hnm, hX, hA⟩ := hE
  have hown : s.vm.findClass RX4 = some m.cls := hown
  have hl : lv_has ls 4 [(0, .ref h0), (1, .int x1)] := hl
  refine lv_iconst (v := 0) hx hb dX4_depth_0 (by decide) ?_
  refine lv_istore_n (lv' := [(2, .int 0), (0, .ref h0), (1, .int x1)]) hx hb dX4_depth_1 rfl hl (by decide) rfl (fun ls hl => ?_)
  refine lv_iload_n hx hb dX4_depth_2 rfl (lv_at hl 2 rfl) ?_
  refine lv_istore_n (lv' := [(3, .int x1), (2, .int 0), (0, .ref h0), (1, .int x1)]) hx hb dX4_depth_3 rfl hl (by decide) rfl (fun ls hl => ?_)
  have L90 : ∀ (n : Nat) (v78 : Int32) (v79 : Int32) (H : Heap) (locs : List Loc) (ls : Array Slot), 0 ≤ v78.toInt ∧ v78.toInt ≤ 9 → 0 ≤ v79.toInt ∧ v79.toInt ≤ 8 → (10 - v78.toInt).toNat < n → va_P g.1 vwCl [(h0, .inr (4, [.int h0_count, .int h0_statements, .int h0_thick, .int h0_punch, .int h0_ups, .int h0_toolCount, .ref h0_toolWidth, .ref h0_told, .ref h0_name, .ref h0_parent, .ref h0_side, .ref h0_from, .ref h0_width, .ref h0_height, .ref h0_radius, .ref h0_toolSet])), (h0_parent, .inl (g.2.1.1, 9, .inl f_h0_parent))] H → va_D A [(h0, .inr (4, [.int h0_count, .int h0_statements, .int h0_thick, .int h0_punch, .int h0_ups, .int h0_toolCount, .ref h0_toolWidth, .ref h0_told, .ref h0_name, .ref h0_parent, .ref h0_side, .ref h0_from, .ref h0_width, .ref h0_height, .ref h0_radius, .ref h0_toolSet])), (h0_parent, .inl (g.2.1.1, 9, .inl f_h0_parent))] → va_S A s.heap H locs → lv_has ls 4 [(0, .ref h0), (1, .int x1), (2, .int v78), (3, .int v79)] → W p l e rm_kX4_depth s m args below meth c H locs 0 0 Q (F0 m 4 ls []) := by
    intro n91
    induction n91 with
    | zero => intro v78 v79 H locs ls i93 i94 hm95; exact absurd hm95 (Nat.not_lt_zero _)
    | succ n91 ih92 =>
      intro v78 v79 H locs ls i93 i94 hm95 hP hD hS hl
      refine lv_iload_n hx hb dX4_depth_4 rfl (lv_at hl 3 rfl) ?_
      refine lv_if_le (tgt := 27) hx hb dX4_depth_5 (by decide) (fun c96 => ?_) (fun c96 => ?_)
      · skip
        have c96i : v79.toInt ≤ (0 : Int) := (zc_le (rfl : v79.toInt = _) (show (0 : Int32).toInt = (0 : Int) from by decide)).mp c96
        refine lv_iload_n hx hb dX4_depth_27 rfl (lv_at hl 2 rfl) ?_
        exact hret v78 () (Nat.le_of_ble_eq_true rfl) (Nat.le_of_ble_eq_true rfl) rfl (ox_0 i93) hP hD hS dX4_depth_28
      · skip
        have c96i : ¬ (v79.toInt ≤ (0 : Int)) := fun q => c96 ((zc_le (rfl : v79.toInt = _) (show (0 : Int32).toInt = (0 : Int) from by decide)).mpr q)
        refine lv_iload_n hx hb dX4_depth_8 rfl (lv_at hl 2 rfl) ?_
        refine lv_bipush (v := 9) hx hb dX4_depth_9 (by decide) ?_
        refine lv_icmp_ge (tgt := 27) hx hb dX4_depth_11 (by decide) (fun c97 => ?_) (fun c97 => ?_)
        · skip
          have c97i : (9 : Int) ≤ v78.toInt := (zc_le (show (9 : Int32).toInt = (9 : Int) from by decide) (rfl : v78.toInt = _)).mp c97
          refine lv_iload_n hx hb dX4_depth_27 rfl (lv_at hl 2 rfl) ?_
          exact hret v78 () (Nat.le_of_ble_eq_true rfl) (Nat.le_of_ble_eq_true rfl) rfl (ox_10 c97i i93) hP hD hS dX4_depth_28
        · skip
          have c97i : ¬ ((9 : Int) ≤ v78.toInt) := fun q => c97 ((zc_le (show (9 : Int32).toInt = (9 : Int) from by decide) (rfl : v78.toInt = _)).mpr q)
          obtain ⟨z98, e99⟩ : ∃ y9 : Int32, y9 = v78 + 1 := ⟨_, rfl⟩
          have f100 : z98.toInt = v78.toInt + 1 := za e99 (rfl : v78.toInt = _) (show (1 : Int32).toInt = (1 : Int) from by decide) (ox_11 (zr v78) c97i i93)
          refine lv_iinc (v := z98) (lv' := [(2, .int z98), (0, .ref h0), (1, .int x1), (3, .int v79)]) hx hb dX4_depth_14 hl (k := 2) rfl (by rw [e99]; rfl) (by decide) rfl (fun ls hl => ?_)
          refine lv_aload_n hx hb dX4_depth_17 rfl (lv_at hl 1 rfl) ?_
          refine va_get (D := g.1) (ci := 4) (v := .ref h0_parent) (C := RX4) (T := TX4) (N := 16) hx hb hG iX4 hown hX.1 hP 0 rfl rfl 9 (by decide) (hG _ wf_X4_21) (fun _ h9 => h9) rfl dX4_depth_18 ?_
          refine lv_iload_n hx hb dX4_depth_21 rfl (lv_at hl 3 rfl) ?_
          refine va_iald hx hb hX.1 hP 1 0 rfl rfl (zin (rfl : v79.toInt = _) (ox_7 c96i i94)) dX4_depth_22 ?_
          refine lv_topi (fun z101 e102 => ?_)
          have i103 : 0 ≤ z101.toInt ∧ z101.toInt ≤ 8 := hy3.at e102
          refine lv_istore_n (lv' := [(3, .int z101), (2, .int z98), (0, .ref h0), (1, .int x1)]) hx hb dX4_depth_23 rfl hl (by decide) rfl (fun ls hl => ?_)
          refine lv_goto (tgt := 4) hx hb dX4_depth_24 (by decide) ?_
          exact ih92 z98 z101 H locs ls (ox_12 c97i f100 i93) (ox_1 i103) (zdec hm95 (ox_13 c97i f100 i93)) hP hD hS (lv_sub hl [2, 3, 1, 0] rfl)
  exact L90 _ (0 : Int32) x1 _ _ ls ((show 0 ≤ (0 : Int) ∧ (0 : Int) ≤ 9 from by decide)) (ox_1 hy0) (Nat.lt_succ_self _) hP hD hS (lv_sub hl [2, 3, 1, 0] rfl)
theorem dX4_hangsOn_0 : decode cX4_hangsOn 0 = .ok (.iconst 0, 1) := by decide +kernel
theorem dX4_hangsOn_1 : decode cX4_hangsOn 1 = .ok (.istore_n 3, 1) := by decide +kernel
theorem dX4_hangsOn_2 : decode cX4_hangsOn 2 = .ok (.iload_n 1, 1) := by decide +kernel
theorem dX4_hangsOn_3 : decode cX4_hangsOn 3 = .ok (.istore 4, 2) := by decide +kernel
theorem dX4_hangsOn_5 : decode cX4_hangsOn 5 = .ok (.iload 4, 2) := by decide +kernel
theorem dX4_hangsOn_37 : decode cX4_hangsOn 37 = .ok (.iload 4, 2) := by decide +kernel
theorem dX4_hangsOn_39 : decode cX4_hangsOn 39 = .ok (.iload_n 2, 1) := by decide +kernel
theorem dX4_hangsOn_40 : decode cX4_hangsOn 40 = .ok (.if_icmp .ne 12, 3) := by decide +kernel
theorem dX4_hangsOn_52 : decode cX4_hangsOn 52 = .ok (.iconst 0, 1) := by decide +kernel
theorem dX4_hangsOn_53 : decode cX4_hangsOn 53 = .ok (.ireturn, 1) := by decide +kernel
theorem dX4_hangsOn_43 : decode cX4_hangsOn 43 = .ok (.iload_n 1, 1) := by decide +kernel
theorem dX4_hangsOn_44 : decode cX4_hangsOn 44 = .ok (.iload_n 2, 1) := by decide +kernel
theorem dX4_hangsOn_45 : decode cX4_hangsOn 45 = .ok (.if_icmp .eq 7, 3) := by decide +kernel
theorem dX4_hangsOn_48 : decode cX4_hangsOn 48 = .ok (.iconst 1, 1) := by decide +kernel
theorem dX4_hangsOn_49 : decode cX4_hangsOn 49 = .ok (.goto 4, 3) := by decide +kernel
theorem dX4_hangsOn_7 : decode cX4_hangsOn 7 = .ok (.ifCond .le 30, 3) := by decide +kernel
theorem dX4_hangsOn_10 : decode cX4_hangsOn 10 = .ok (.iload 4, 2) := by decide +kernel
theorem dX4_hangsOn_12 : decode cX4_hangsOn 12 = .ok (.iload_n 2, 1) := by decide +kernel
theorem dX4_hangsOn_13 : decode cX4_hangsOn 13 = .ok (.if_icmp .eq 24, 3) := by decide +kernel
theorem dX4_hangsOn_16 : decode cX4_hangsOn 16 = .ok (.iload_n 3, 1) := by decide +kernel
theorem dX4_hangsOn_17 : decode cX4_hangsOn 17 = .ok (.bipush 9, 2) := by decide +kernel
theorem dX4_hangsOn_19 : decode cX4_hangsOn 19 = .ok (.if_icmp .ge 18, 3) := by decide +kernel
theorem dX4_hangsOn_22 : decode cX4_hangsOn 22 = .ok (.aload_n 0, 1) := by decide +kernel
theorem dX4_hangsOn_23 : decode cX4_hangsOn 23 = .ok (.getfield 21, 3) := by decide +kernel
theorem dX4_hangsOn_26 : decode cX4_hangsOn 26 = .ok (.iload 4, 2) := by decide +kernel
theorem dX4_hangsOn_28 : decode cX4_hangsOn 28 = .ok (.iaload, 1) := by decide +kernel
theorem dX4_hangsOn_29 : decode cX4_hangsOn 29 = .ok (.istore 4, 2) := by decide +kernel
theorem dX4_hangsOn_31 : decode cX4_hangsOn 31 = .ok (.iinc 3 1, 3) := by decide +kernel
theorem dX4_hangsOn_34 : decode cX4_hangsOn 34 = .ok (.goto (-29), 3) := by decide +kernel
abbrev rm_kX4_hangsOn : Room := { frames := 0, cells := 0, slots := 0, locals := 0 }
set_option maxHeartbeats 4000000 in
set_option maxRecDepth 100000 in
theorem kX4_hangsOn (l : Launch) (g : zL) (h0 : Nat) (x1 : Int32) (x2 : Int32) (h0_count : Int32) (h0_statements : Int32) (h0_thick : Int32) (h0_punch : Int32) (h0_ups : Int32) (h0_toolCount : Int32) (h0_toolWidth : Nat) (h0_told : Nat) (h0_name : Nat) (h0_parent : Nat) (h0_side : Nat) (h0_from : Nat) (h0_width : Nat) (h0_height : Nat) (h0_radius : Nat) (h0_toolSet : Nat) (f_h0_parent : Nat → Int32) (hy0 : 0 ≤ x1.toInt ∧ x1.toInt ≤ 8) (hy1 : 0 ≤ h0_count.toInt ∧ h0_count.toInt ≤ 9) (hy2 : 0 ≤ h0_toolCount.toInt ∧ h0_toolCount.toInt ≤ 8) (hy3 : aI 0 8 f_h0_parent) : zCi l g yX4_hangsOn cX4_hangsOn 5 (some .boolean) rm_kX4_hangsOn [.ref h0, .int x1, .int x2] [(h0, .inr (4, [.int h0_count, .int h0_statements, .int h0_thick, .int h0_punch, .int h0_ups, .int h0_toolCount, .ref h0_toolWidth, .ref h0_told, .ref h0_name, .ref h0_parent, .ref h0_side, .ref h0_from, .ref h0_width, .ref h0_height, .ref h0_radius, .ref h0_toolSet])), (h0_parent, .inl (g.2.1.1, 9, .inl f_h0_parent))] (fun (r : Int32) (u : Unit) => (0 ≤ r.toInt ∧ r.toInt ≤ 1)) (fun (u : Unit) => [(h0, .inr (4, [.int h0_count, .int h0_statements, .int h0_thick, .int h0_punch, .int h0_ups, .int h0_toolCount, .ref h0_toolWidth, .ref h0_told, .ref h0_name, .ref h0_parent, .ref h0_side, .ref h0_from, .ref h0_width, .ref h0_height, .ref h0_radius, .ref h0_toolSet])), (h0_parent, .inl (g.2.1.1, 9, .inl f_h0_parent))]) := by
  refine zCi.mk2 (by decide) (Nat.le_of_ble_eq_true rfl) ?_
  intro p e s m below meth c A args Q hE hret hP hD hS ls hl
  obtain ⟨hx, hb, hr, hml, hown, hG, hlocks, hnm, hX, hA⟩ := hE
  have hown : s.vm.findClass RX4 = some m.cls := hown
  have hl : lv_has ls 5 [(0, .ref h0), (1, .int x1), (2, .int x2)] := hl
  refine lv_iconst (v := 0) hx hb dX4_hangsOn_0 (by decide) ?_
  refine lv_istore_n (lv' := [(3, .int 0), (0, .ref h0), (1, .int x1), (2, .int x2)]) hx hb dX4_hangsOn_1 rfl hl (by decide) rfl (fun ls hl => ?_)
  refine lv_iload_n hx hb dX4_hangsOn_2 rfl (lv_at hl 2 rfl) ?_
  refine lv_istore (lv' := [(4, .int x1), (3, .int 0), (0, .ref h0), (1, .int x1), (2, .int x2)]) hx hb dX4_hangsOn_3 hl (by decide) rfl (fun ls hl => ?_)
  have L183 : ∀ (n : Nat) (v159 : Int32) (v160 : Int32) (H : Heap) (locs : List Loc) (ls : Array Slot), 0 ≤ v159.toInt ∧ v159.toInt ≤ 9 → 0 ≤ v160.toInt ∧ v160.toInt ≤ 8 → (10 - v159.toInt).toNat < n → va_P g.1 vwCl [(h0, .inr (4, [.int h0_count, .int h0_statements, .int h0_thick, .int h0_punch, .int h0_ups, .int h0_toolCount, .ref h0_toolWidth, .ref h0_told, .ref h0_name, .ref h0_parent, .ref h0_side, .ref h0_from, .ref h0_width, .ref h0_height, .ref h0_radius, .ref h0_toolSet])), (h0_parent, .inl (g.2.1.1, 9, .inl f_h0_parent))] H → va_D A [(h0, .inr (4, [.int h0_count, .int h0_statements, .int h0_thick, .int h0_punch, .int h0_ups, .int h0_toolCount, .ref h0_toolWidth, .ref h0_told, .ref h0_name, .ref h0_parent, .ref h0_side, .ref h0_from, .ref h0_width, .ref h0_height, .ref h0_radius, .ref h0_toolSet])), (h0_parent, .inl (g.2.1.1, 9, .inl f_h0_parent))] → va_S A s.heap H locs → lv_has ls 5 [(0, .ref h0), (1, .int x1), (2, .int x2), (3, .int v159), (4, .int v160)] → W p l e rm_kX4_hangsOn s m args below meth c H locs 0 0 Q (F0 m 5 ls []) := by
    intro n184
    induction n184 with
    | zero => intro v159 v160 H locs ls i186 i187 hm188; exact absurd hm188 (Nat.not_lt_zero _)
    | succ n184 ih185 =>
      intro v159 v160 H locs ls i186 i187 hm188 hP hD hS hl
      refine lv_iload hx hb dX4_hangsOn_5 (lv_at hl 4 rfl) ?_
      have J198 : ∀  (H : Heap) (locs : List Loc) (ls : Array Slot), va_P g.1 vwCl [(h0, .inr (4, [.int h0_count, .int h0_statements, .int h0_thick, .int h0_punch, .int h0_ups, .int h0_toolCount, .ref h0_toolWidth, .ref h0_told, .ref h0_name, .ref h0_parent, .ref h0_side, .ref h0_from, .ref h0_width, .ref h0_height, .ref h0_radius, .ref h0_toolSet])), (h0_parent, .inl (g.2.1.1, 9, .inl f_h0_parent))] H → va_D A [(h0, .inr (4, [.int h0_count, .int h0_statements, .int h0_thick, .int h0_punch, .int h0_ups, .int h0_toolCount, .ref h0_toolWidth, .ref h0_told, .ref h0_name, .ref h0_parent, .ref h0_side, .ref h0_from, .ref h0_width, .ref h0_height, .ref h0_radius, .ref h0_toolSet])), (h0_parent, .inl (g.2.1.1, 9, .inl f_h0_parent))] → va_S A s.heap H locs → lv_has ls 5 [(0, .ref h0), (1, .int x1), (2, .int x2), (3, .int v159), (4, .int v160)] → W p l e rm_kX4_hangsOn s m args below meth c H locs 0 0 Q (F0 m 37 ls []) := by
        intro  H locs ls  hP hD hS hl
        refine lv_iload hx hb dX4_hangsOn_37 (lv_at hl 4 rfl) ?_
        refine lv_iload_n hx hb dX4_hangsOn_39 rfl (lv_at hl 2 rfl) ?_
        refine lv_icmp_ne (tgt := 52) hx hb dX4_hangsOn_40 (by decide) (fun c199 => ?_) (fun c199 => ?_)
        · skip
          have c199i : ¬ (v160.toInt = x2.toInt) := fun q => c199 ((zc_eq (rfl : v160.toInt = _) (rfl : x2.toInt = _)).mpr q)
          refine lv_iconst (v := 0) hx hb dX4_hangsOn_52 (by decide) ?_
          exact hret (0 : Int32) () (Nat.le_of_ble_eq_true rfl) (Nat.le_of_ble_eq_true rfl) rfl ((show 0 ≤ (0 : Int) ∧ (0 : Int) ≤ 1 from by decide)) hP hD hS dX4_hangsOn_53
        · skip
          have c199i : v160.toInt = x2.toInt := (zc_eq (rfl : v160.toInt = _) (rfl : x2.toInt = _)).mp c199
          refine lv_iload_n hx hb dX4_hangsOn_43 rfl (lv_at hl 1 rfl) ?_
          refine lv_iload_n hx hb dX4_hangsOn_44 rfl (lv_at hl 2 rfl) ?_
          refine lv_icmp_eq (tgt := 52) hx hb dX4_hangsOn_45 (by decide) (fun c200 => ?_) (fun c200 => ?_)
          · skip
            have c200i : x1.toInt = x2.toInt := (zc_eq (rfl : x1.toInt = _) (rfl : x2.toInt = _)).mp c200
            refine lv_iconst (v := 0) hx hb dX4_hangsOn_52 (by decide) ?_
            exact hret (0 : Int32) () (Nat.le_of_ble_eq_true rfl) (Nat.le_of_ble_eq_true rfl) rfl ((show 0 ≤ (0 : Int) ∧ (0 : Int) ≤ 1 from by decide)) hP hD hS dX4_hangsOn_53
          · skip
            have c200i : ¬ (x1.toInt = x2.toInt) := fun q => c200 ((zc_eq (rfl : x1.toInt = _) (rfl : x2.toInt = _)).mpr q)
            refine lv_iconst (v := 1) hx hb dX4_hangsOn_48 (by decide) ?_
            refine lv_goto (tgt := 53) hx hb dX4_hangsOn_49 (by decide) ?_
            exact hret (1 : Int32) () (Nat.le_of_ble_eq_true rfl) (Nat.le_of_ble_eq_true rfl) rfl ((show 0 ≤ (1 : Int) ∧ (1 : Int) ≤ 1 from by decide)) hP hD hS dX4_hangsOn_53
      refine lv_if_le (tgt := 37) hx hb dX4_hangsOn_7 (by decide) (fun c201 => ?_) (fun c201 => ?_)
      · skip
        have c201i : v160.toInt ≤ (0 : Int) := (zc_le (rfl : v160.toInt = _) (show (0 : Int32).toInt = (0 : Int) from by decide)).mp c201
        exact J198 H locs ls  hP hD hS (lv_sub hl [0, 1, 2, 3, 4] rfl)
      · skip
        have c201i : ¬ (v160.toInt ≤ (0 : Int)) := fun q => c201 ((zc_le (rfl : v160.toInt = _) (show (0 : Int32).toInt = (0 : Int) from by decide)).mpr q)
        refine lv_iload hx hb dX4_hangsOn_10 (lv_at hl 4 rfl) ?_
        refine lv_iload_n hx hb dX4_hangsOn_12 rfl (lv_at hl 2 rfl) ?_
        refine lv_icmp_eq (tgt := 37) hx hb dX4_hangsOn_13 (by decide) (fun c202 => ?_) (fun c202 => ?_)
        · skip
          have c202i : v160.toInt = x2.toInt := (zc_eq (rfl : v160.toInt = _) (rfl : x2.toInt = _)).mp c202
          exact J198 H locs ls  hP hD hS (lv_sub hl [0, 1, 2, 3, 4] rfl)
        · skip
          have c202i : ¬ (v160.toInt = x2.toInt) := fun q => c202 ((zc_eq (rfl : v160.toInt = _) (rfl : x2.toInt = _)).mpr q)
          refine lv_iload_n hx hb dX4_hangsOn_16 rfl (lv_at hl 3 rfl) ?_
          refine lv_bipush (v := 9) hx hb dX4_hangsOn_17 (by decide) ?_
          refine lv_icmp_ge (tgt := 37) hx hb dX4_hangsOn_19 (by decide) (fun c203 => ?_) (fun c203 => ?_)
          · skip
            have c203i : (9 : Int) ≤ v159.toInt := (zc_le (show (9 : Int32).toInt = (9 : Int) from by decide) (rfl : v159.toInt = _)).mp c203
            exact J198 H locs ls  hP hD hS (lv_sub hl [0, 1, 2, 3, 4] rfl)
          · skip
            have c203i : ¬ ((9 : Int) ≤ v159.toInt) := fun q => c203 ((zc_le (show (9 : Int32).toInt = (9 : Int) from by decide) (rfl : v159.toInt = _)).mpr q)
            refine lv_aload_n hx hb dX4_hangsOn_22 rfl (lv_at hl 0 rfl) ?_
            refine va_get (D := g.1) (ci := 4) (v := .ref h0_parent) (C := RX4) (T := TX4) (N := 16) hx hb hG iX4 hown hX.1 hP 0 rfl rfl 9 (by decide) (hG _ wf_X4_21) (fun _ h9 => h9) rfl dX4_hangsOn_23 ?_
            refine lv_iload hx hb dX4_hangsOn_26 (lv_at hl 4 rfl) ?_
            refine va_iald hx hb hX.1 hP 1 0 rfl rfl (zin (rfl : v160.toInt = _) (ox_14 c201i c202i i187)) dX4_hangsOn_28 ?_
            refine lv_topi (fun z204 e205 => ?_)
            have i206 : 0 ≤ z204.toInt ∧ z204.toInt ≤ 8 := hy3.at e205
            refine lv_istore (lv' := [(4, .int z204), (0, .ref h0), (1, .int x1), (2, .int x2), (3, .int v159)]) hx hb dX4_hangsOn_29 hl (by decide) rfl (fun ls hl => ?_)
            obtain ⟨z207, e208⟩ : ∃ y9 : Int32, y9 = v159 + 1 := ⟨_, rfl⟩
            have f209 : z207.toInt = v159.toInt + 1 := za e208 (rfl : v159.toInt = _) (show (1 : Int32).toInt = (1 : Int) from by decide) (ox_11 (zr v159) c203i i186)
            refine lv_iinc (v := z207) (lv' := [(3, .int z207), (4, .int z204), (0, .ref h0), (1, .int x1), (2, .int x2)]) hx hb dX4_hangsOn_31 hl (k := 4) rfl (by rw [e208]; rfl) (by decide) rfl (fun ls hl => ?_)
            refine lv_goto (tgt := 5) hx hb dX4_hangsOn_34 (by decide) ?_
            exact ih185 z207 z204 H locs ls (ox_12 c203i f209 i186) (ox_1 i206) (zdec hm188 (ox_13 c203i f209 i186)) hP hD hS (lv_sub hl [2, 3, 4, 0, 1] rfl)
  exact L183 _ (0 : Int32) x1 _ _ ls ((show 0 ≤ (0 : Int) ∧ (0 : Int) ≤ 9 from by decide)) (ox_1 hy0) (Nat.lt_succ_self _) hP hD hS (lv_sub hl [2, 3, 4, 1, 0] rfl)
theorem dX4_countHangers_0 : decode cX4_countHangers 0 = .ok (.iconst 0, 1) := by decide +kernel
theorem dX4_countHangers_1 : decode cX4_countHangers 1 = .ok (.istore_n 2, 1) := by decide +kernel
theorem dX4_countHangers_2 : decode cX4_countHangers 2 = .ok (.iconst 1, 1) := by decide +kernel
theorem dX4_countHangers_3 : decode cX4_countHangers 3 = .ok (.istore_n 3, 1) := by decide +kernel
theorem dX4_countHangers_4 : decode cX4_countHangers 4 = .ok (.iload_n 3, 1) := by decide +kernel
theorem dX4_countHangers_5 : decode cX4_countHangers 5 = .ok (.aload_n 0, 1) := by decide +kernel
theorem dX4_countHangers_6 : decode cX4_countHangers 6 = .ok (.getfield 42, 3) := by decide +kernel
theorem dX4_countHangers_9 : decode cX4_countHangers 9 = .ok (.if_icmp .ge 21, 3) := by decide +kernel
theorem dX4_countHangers_30 : decode cX4_countHangers 30 = .ok (.iload_n 2, 1) := by decide +kernel
theorem dX4_countHangers_31 : decode cX4_countHangers 31 = .ok (.ireturn, 1) := by decide +kernel
theorem dX4_countHangers_12 : decode cX4_countHangers 12 = .ok (.aload_n 0, 1) := by decide +kernel
theorem dX4_countHangers_13 : decode cX4_countHangers 13 = .ok (.iload_n 3, 1) := by decide +kernel
theorem dX4_countHangers_14 : decode cX4_countHangers 14 = .ok (.iload_n 1, 1) := by decide +kernel
theorem dX4_countHangers_15 : decode cX4_countHangers 15 = .ok (.invokevirtual 95, 3) := by decide +kernel
theorem dX4_countHangers_24 : decode cX4_countHangers 24 = .ok (.iinc 3 1, 3) := by decide +kernel
theorem dX4_countHangers_27 : decode cX4_countHangers 27 = .ok (.goto (-23), 3) := by decide +kernel
theorem dX4_countHangers_18 : decode cX4_countHangers 18 = .ok (.ifCond .eq 6, 3) := by decide +kernel
theorem dX4_countHangers_21 : decode cX4_countHangers 21 = .ok (.iinc 2 1, 3) := by decide +kernel
abbrev rm_kX4_countHangers : Room := { frames := 1, cells := 0, slots := 0, locals := 24 }
set_option maxHeartbeats 4000000 in
set_option maxRecDepth 100000 in
theorem kX4_countHangers (l : Launch) (g : zL) (h0 : Nat) (x1 : Int32) (h0_count : Int32) (h0_statements : Int32) (h0_thick : Int32) (h0_punch : Int32) (h0_ups : Int32) (h0_toolCount : Int32) (h0_toolWidth : Nat) (h0_told : Nat) (h0_name : Nat) (h0_parent : Nat) (h0_side : Nat) (h0_from : Nat) (h0_width : Nat) (h0_height : Nat) (h0_radius : Nat) (h0_toolSet : Nat) (f_h0_parent : Nat → Int32) (hy0 : 0 ≤ h0_count.toInt ∧ h0_count.toInt ≤ 9) (hy1 : 0 ≤ h0_toolCount.toInt ∧ h0_toolCount.toInt ≤ 8) (hy2 : aI 0 8 f_h0_parent) : zCi l g yX4_countHangers cX4_countHangers 4 (some .int) rm_kX4_countHangers [.ref h0, .int x1] [(h0, .inr (4, [.int h0_count, .int h0_statements, .int h0_thick, .int h0_punch, .int h0_ups, .int h0_toolCount, .ref h0_toolWidth, .ref h0_told, .ref h0_name, .ref h0_parent, .ref h0_side, .ref h0_from, .ref h0_width, .ref h0_height, .ref h0_radius, .ref h0_toolSet])), (h0_parent, .inl (g.2.1.1, 9, .inl f_h0_parent))] (fun (r : Int32) (u : Unit) => True) (fun (u : Unit) => [(h0, .inr (4, [.int h0_count, .int h0_statements, .int h0_thick, .int h0_punch, .int h0_ups, .int h0_toolCount, .ref h0_toolWidth, .ref h0_told, .ref h0_name, .ref h0_parent, .ref h0_side, .ref h0_from, .ref h0_width, .ref h0_height, .ref h0_radius, .ref h0_toolSet])), (h0_parent, .inl (g.2.1.1, 9, .inl f_h0_parent))]) := by
  refine zCi.mk2 (by decide) (Nat.le_of_ble_eq_true rfl) ?_
  intro p e s m below meth c A args Q hE hret hP hD hS ls hl
  obtain ⟨hx, hb, hr, hml, hown, hG, hlocks, hnm, hX, hA⟩ := hE
  have hown : s.vm.findClass RX4 = some m.cls := hown
  have hl : lv_has ls 4 [(0, .ref h0), (1, .int x1)] := hl
  refine lv_iconst (v := 0) hx hb dX4_countHangers_0 (by decide) ?_
  refine lv_istore_n (lv' := [(2, .int 0), (0, .ref h0), (1, .int x1)]) hx hb dX4_countHangers_1 rfl hl (by decide) rfl (fun ls hl => ?_)
  refine lv_iconst (v := 1) hx hb dX4_countHangers_2 (by decide) ?_
  refine lv_istore_n (lv' := [(3, .int 1), (2, .int 0), (0, .ref h0), (1, .int x1)]) hx hb dX4_countHangers_3 rfl hl (by decide) rfl (fun ls hl => ?_)
  have L153 : ∀ (n : Nat) (v137 : Int32) (v138 : Int32) (H : Heap) (locs : List Loc) (ls : Array Slot), 1 ≤ v138.toInt ∧ v138.toInt ≤ 9 → (10 - v138.toInt).toNat < n → va_P g.1 vwCl [(h0, .inr (4, [.int h0_count, .int h0_statements, .int h0_thick, .int h0_punch, .int h0_ups, .int h0_toolCount, .ref h0_toolWidth, .ref h0_told, .ref h0_name, .ref h0_parent, .ref h0_side, .ref h0_from, .ref h0_width, .ref h0_height, .ref h0_radius, .ref h0_toolSet])), (h0_parent, .inl (g.2.1.1, 9, .inl f_h0_parent))] H → va_D A [(h0, .inr (4, [.int h0_count, .int h0_statements, .int h0_thick, .int h0_punch, .int h0_ups, .int h0_toolCount, .ref h0_toolWidth, .ref h0_told, .ref h0_name, .ref h0_parent, .ref h0_side, .ref h0_from, .ref h0_width, .ref h0_height, .ref h0_radius, .ref h0_toolSet])), (h0_parent, .inl (g.2.1.1, 9, .inl f_h0_parent))] → va_S A s.heap H locs → lv_has ls 4 [(0, .ref h0), (1, .int x1), (2, .int v137), (3, .int v138)] → W p l e rm_kX4_countHangers s m args below meth c H locs 0 0 Q (F0 m 4 ls []) := by
    intro n154
    induction n154 with
    | zero => intro v137 v138 H locs ls i156 hm157; exact absurd hm157 (Nat.not_lt_zero _)
    | succ n154 ih155 =>
      intro v137 v138 H locs ls i156 hm157 hP hD hS hl
      refine lv_iload_n hx hb dX4_countHangers_4 rfl (lv_at hl 3 rfl) ?_
      refine lv_aload_n hx hb dX4_countHangers_5 rfl (lv_at hl 0 rfl) ?_
      refine va_get (D := g.1) (ci := 4) (v := .int h0_count) (C := RX4) (T := TX4) (N := 16) hx hb hG iX4 hown hX.1 hP 0 rfl rfl 0 (by decide) (hG _ wf_X4_42) (fun _ h9 => h9) rfl dX4_countHangers_6 ?_
      refine lv_icmp_ge (tgt := 30) hx hb dX4_countHangers_9 (by decide) (fun c158 => ?_) (fun c158 => ?_)
      · skip
        have c158i : h0_count.toInt ≤ v138.toInt := (zc_le (rfl : h0_count.toInt = _) (rfl : v138.toInt = _)).mp c158
        refine lv_iload_n hx hb dX4_countHangers_30 rfl (lv_at hl 2 rfl) ?_
        exact hret v137 () (Nat.le_of_ble_eq_true rfl) (Nat.le_of_ble_eq_true rfl) rfl trivial hP hD hS dX4_countHangers_31
      · skip
        have c158i : ¬ (h0_count.toInt ≤ v138.toInt) := fun q => c158 ((zc_le (rfl : h0_count.toInt = _) (rfl : v138.toInt = _)).mpr q)
        refine lv_aload_n hx hb dX4_countHangers_12 rfl (lv_at hl 0 rfl) ?_
        refine lv_iload_n hx hb dX4_countHangers_13 rfl (lv_at hl 3 rfl) ?_
        refine lv_iload_n hx hb dX4_countHangers_14 rfl (lv_at hl 1 rfl) ?_
        refine zfi (wr := []) (va_runV (As := [.int v138, .int x1]) (rest := []) ⟨hx, hb, hml, hown, hG⟩ (kX4_hangsOn l g h0 v138 x1 h0_count h0_statements h0_thick h0_punch h0_ups h0_toolCount h0_toolWidth h0_told h0_name h0_parent h0_side h0_from h0_width h0_height h0_radius h0_toolSet f_h0_parent (ox_15 c158i hy0 i156) (ox_16 c158i hy0 i156) (ox_1 hy1) hy2 _) ⟨callB_of 2 hG (zGood wc_X4_hangsOn) rfl rfl rfl (hG _ wini_X4) (hG _ wm_X4_95) hX4_hangsOn ⟨Nat.le_of_ble_eq_true rfl, Nat.le_of_ble_eq_true rfl⟩, hG _ wi_X4_hangsOn, hG _ wse_X4_X4_hangsOn⟩ (zpreV (va_recv hX.1 hP (ci := 4) (q0 := 0) rfl rfl) hX hP hD hS hA [0, 1] rfl (by decide)) rfl rfl hl.1 rfl (lv_room (Nat.le_of_ble_eq_true rfl)) dX4_countHangers_15 ⟨Nat.le_of_ble_eq_true rfl, Nat.le_of_ble_eq_true rfl⟩) hP hD hS hA [0, 1] [] rfl rfl (by decide) (by decide) (fun r159 _ H locs hp hP hD hS => ?_)
        refine W.cs (cells' := 0) (slots' := 0) rfl rfl ?_
        have hq160 : 0 ≤ r159.toInt ∧ r159.toInt ≤ 1 := hp
        have hP : va_P g.1 vwCl [(h0, .inr (4, [.int h0_count, .int h0_statements, .int h0_thick, .int h0_punch, .int h0_ups, .int h0_toolCount, .ref h0_toolWidth, .ref h0_told, .ref h0_name, .ref h0_parent, .ref h0_side, .ref h0_from, .ref h0_width, .ref h0_height, .ref h0_radius, .ref h0_toolSet])), (h0_parent, .inl (g.2.1.1, 9, .inl f_h0_parent))] H := hP
        have hD : va_D A [(h0, .inr (4, [.int h0_count, .int h0_statements, .int h0_thick, .int h0_punch, .int h0_ups, .int h0_toolCount, .ref h0_toolWidth, .ref h0_told, .ref h0_name, .ref h0_parent, .ref h0_side, .ref h0_from, .ref h0_width, .ref h0_height, .ref h0_radius, .ref h0_toolSet])), (h0_parent, .inl (g.2.1.1, 9, .inl f_h0_parent))] := hD
        have J165 : ∀  (v164 : Int32) (H : Heap) (locs : List Loc) (ls : Array Slot), va_P g.1 vwCl [(h0, .inr (4, [.int h0_count, .int h0_statements, .int h0_thick, .int h0_punch, .int h0_ups, .int h0_toolCount, .ref h0_toolWidth, .ref h0_told, .ref h0_name, .ref h0_parent, .ref h0_side, .ref h0_from, .ref h0_width, .ref h0_height, .ref h0_radius, .ref h0_toolSet])), (h0_parent, .inl (g.2.1.1, 9, .inl f_h0_parent))] H → va_D A [(h0, .inr (4, [.int h0_count, .int h0_statements, .int h0_thick, .int h0_punch, .int h0_ups, .int h0_toolCount, .ref h0_toolWidth, .ref h0_told, .ref h0_name, .ref h0_parent, .ref h0_side, .ref h0_from, .ref h0_width, .ref h0_height, .ref h0_radius, .ref h0_toolSet])), (h0_parent, .inl (g.2.1.1, 9, .inl f_h0_parent))] → va_S A s.heap H locs → lv_has ls 4 [(0, .ref h0), (1, .int x1), (2, .int v164), (3, .int v138)] → W p l e rm_kX4_countHangers s m args below meth c H locs 0 0 Q (F0 m 24 ls []) := by
          intro v164 H locs ls  hP hD hS hl
          obtain ⟨z166, e167⟩ : ∃ y9 : Int32, y9 = v138 + 1 := ⟨_, rfl⟩
          have f168 : z166.toInt = v138.toInt + 1 := za e167 (rfl : v138.toInt = _) (show (1 : Int32).toInt = (1 : Int) from by decide) (ox_17 (zr h0_count) (zr v138) c158i hy0 i156)
          refine lv_iinc (v := z166) (lv' := [(3, .int z166), (0, .ref h0), (1, .int x1), (2, .int v164)]) hx hb dX4_countHangers_24 hl (k := 3) rfl (by rw [e167]; rfl) (by decide) rfl (fun ls hl => ?_)
          refine lv_goto (tgt := 4) hx hb dX4_countHangers_27 (by decide) ?_
          exact ih155 v164 z166 H locs ls (ox_18 c158i f168 hy0 i156) (zdec hm157 (ox_19 c158i f168 hy0 i156)) hP hD hS (lv_sub hl [1, 2, 3, 0] rfl)
        refine lv_if_eq (tgt := 24) hx hb dX4_countHangers_18 (by decide) (fun c169 => ?_) (fun c169 => ?_)
        · skip
          have c169i : r159.toInt = (0 : Int) := (zc_eq (rfl : r159.toInt = _) (show (0 : Int32).toInt = (0 : Int) from by decide)).mp c169
          exact J165 v137 H locs ls  hP hD hS (lv_sub hl [0, 1, 2, 3] rfl)
        · skip
          have c169i : ¬ (r159.toInt = (0 : Int)) := fun q => c169 ((zc_eq (rfl : r159.toInt = _) (show (0 : Int32).toInt = (0 : Int) from by decide)).mpr q)
          obtain ⟨z170, e171⟩ : ∃ y9 : Int32, y9 = v137 + 1 := ⟨_, rfl⟩
          refine lv_iinc (v := z170) (lv' := [(2, .int z170), (0, .ref h0), (1, .int x1), (3, .int v138)]) hx hb dX4_countHangers_21 hl (k := 2) rfl (by rw [e171]; rfl) (by decide) rfl (fun ls hl => ?_)
          exact J165 z170 H locs ls  hP hD hS (lv_sub hl [1, 2, 0, 3] rfl)
  exact L153 _ (0 : Int32) (1 : Int32) _ _ ls ((show 1 ≤ (1 : Int) ∧ (1 : Int) ≤ 9 from by decide)) (Nat.lt_succ_self _) hP hD hS (lv_sub hl [2, 3, 1, 0] rfl)
theorem dX4_bendsBetween_0 : decode cX4_bendsBetween 0 = .ok (.iload_n 1, 1) := by decide +kernel
theorem dX4_bendsBetween_1 : decode cX4_bendsBetween 1 = .ok (.istore_n 3, 1) := by decide +kernel
theorem dX4_bendsBetween_2 : decode cX4_bendsBetween 2 = .ok (.iload_n 2, 1) := by decide +kernel
theorem dX4_bendsBetween_3 : decode cX4_bendsBetween 3 = .ok (.istore 4, 2) := by decide +kernel
theorem dX4_bendsBetween_5 : decode cX4_bendsBetween 5 = .ok (.iconst 0, 1) := by decide +kernel
theorem dX4_bendsBetween_6 : decode cX4_bendsBetween 6 = .ok (.istore 5, 2) := by decide +kernel
theorem dX4_bendsBetween_8 : decode cX4_bendsBetween 8 = .ok (.iload_n 3, 1) := by decide +kernel
theorem dX4_bendsBetween_9 : decode cX4_bendsBetween 9 = .ok (.iload 4, 2) := by decide +kernel
theorem dX4_bendsBetween_11 : decode cX4_bendsBetween 11 = .ok (.if_icmp .eq 41, 3) := by decide +kernel
theorem dX4_bendsBetween_52 : decode cX4_bendsBetween 52 = .ok (.iload 5, 2) := by decide +kernel
theorem dX4_bendsBetween_54 : decode cX4_bendsBetween 54 = .ok (.ireturn, 1) := by decide +kernel
theorem dX4_bendsBetween_14 : decode cX4_bendsBetween 14 = .ok (.iload 5, 2) := by decide +kernel
theorem dX4_bendsBetween_16 : decode cX4_bendsBetween 16 = .ok (.bipush 18, 2) := by decide +kernel
theorem dX4_bendsBetween_18 : decode cX4_bendsBetween 18 = .ok (.if_icmp .ge 34, 3) := by decide +kernel
theorem dX4_bendsBetween_21 : decode cX4_bendsBetween 21 = .ok (.iload_n 3, 1) := by decide +kernel
theorem dX4_bendsBetween_22 : decode cX4_bendsBetween 22 = .ok (.iload 4, 2) := by decide +kernel
theorem dX4_bendsBetween_46 : decode cX4_bendsBetween 46 = .ok (.iinc 5 1, 3) := by decide +kernel
theorem dX4_bendsBetween_49 : decode cX4_bendsBetween 49 = .ok (.goto (-41), 3) := by decide +kernel
theorem dX4_bendsBetween_24 : decode cX4_bendsBetween 24 = .ok (.if_icmp .le 13, 3) := by decide +kernel
theorem dX4_bendsBetween_37 : decode cX4_bendsBetween 37 = .ok (.aload_n 0, 1) := by decide +kernel
theorem dX4_bendsBetween_38 : decode cX4_bendsBetween 38 = .ok (.getfield 21, 3) := by decide +kernel
theorem dX4_bendsBetween_41 : decode cX4_bendsBetween 41 = .ok (.iload 4, 2) := by decide +kernel
theorem dX4_bendsBetween_43 : decode cX4_bendsBetween 43 = .ok (.iaload, 1) := by decide +kernel
theorem dX4_bendsBetween_44 : decode cX4_bendsBetween 44 = .ok (.istore 4, 2) := by decide +kernel
theorem dX4_bendsBetween_27 : decode cX4_bendsBetween 27 = .ok (.aload_n 0, 1) := by decide +kernel
theorem dX4_bendsBetween_28 : decode cX4_bendsBetween 28 = .ok (.getfield 21, 3) := by decide +kernel
theorem dX4_bendsBetween_31 : decode cX4_bendsBetween 31 = .ok (.iload_n 3, 1) := by decide +kernel
theorem dX4_bendsBetween_32 : decode cX4_bendsBetween 32 = .ok (.iaload, 1) := by decide +kernel
theorem dX4_bendsBetween_33 : decode cX4_bendsBetween 33 = .ok (.istore_n 3, 1) := by decide +kernel
theorem dX4_bendsBetween_34 : decode cX4_bendsBetween 34 = .ok (.goto 12, 3) := by decide +kernel
abbrev rm_kX4_bendsBetween : Room := { frames := 0, cells := 0, slots := 0, locals := 0 }
set_option maxHeartbeats 4000000 in
set_option maxRecDepth 100000 in
theorem kX4_bendsBetween (l : Launch) (g : zL) (h0 : Nat) (x1 : Int32) (x2 : Int32) (h0_count : Int32) (h0_statements : Int32) (h0_thick : Int32) (h0_punch : Int32) (h0_ups : Int32) (h0_toolCount : Int32) (h0_toolWidth : Nat) (h0_told : Nat) (h0_name : Nat) (h0_parent : Nat) (h0_side : Nat) (h0_from : Nat) (h0_width : Nat) (h0_height : Nat) (h0_radius : Nat) (h0_toolSet : Nat) (f_h0_parent : Nat → Int32) (hy0 : 0 ≤ x1.toInt ∧ x1.toInt ≤ 8) (hy1 : 0 ≤ x2.toInt ∧ x2.toInt ≤ 8) (hy2 : 0 ≤ h0_count.toInt ∧ h0_count.toInt ≤ 9) (hy3 : 0 ≤ h0_toolCount.toInt ∧ h0_toolCount.toInt ≤ 8) (hy4 : aI 0 8 f_h0_parent) : zCi l g yX4_bendsBetween cX4_bendsBetween 6 (some .int) rm_kX4_bendsBetween [.ref h0, .int x1, .int x2] [(h0, .inr (4, [.int h0_count, .int h0_statements, .int h0_thick, .int h0_punch, .int h0_ups, .int h0_toolCount, .ref h0_toolWidth, .ref h0_told, .ref h0_name, .ref h0_parent, .ref h0_side, .ref h0_from, .ref h0_width, .ref h0_height, .ref h0_radius, .ref h0_toolSet])), (h0_parent, .inl (g.2.1.1, 9, .inl f_h0_parent))] (fun (r : Int32) (u : Unit) => (0 ≤ r.toInt ∧ r.toInt ≤ 18)) (fun (u : Unit) => [(h0, .inr (4, [.int h0_count, .int h0_statements, .int h0_thick, .int h0_punch, .int h0_ups, .int h0_toolCount, .ref h0_toolWidth, .ref h0_told, .ref h0_name, .ref h0_parent, .ref h0_side, .ref h0_from, .ref h0_width, .ref h0_height, .ref h0_radius, .ref h0_toolSet])), (h0_parent, .inl (g.2.1.1, 9, .inl f_h0_parent))]) := by
  refine zCi.mk2 (by decide) (Nat.le_of_ble_eq_true rfl) ?_
  intro p e s m below meth c A args Q hE hret hP hD hS ls hl
  obtain ⟨hx, hb, hr, hml, hown, hG, hlocks, hnm, hX, hA⟩ := hE
  have hown : s.vm.findClass RX4 = some m.cls := hown
  have hl : lv_has ls 6 [(0, .ref h0), (1, .int x1), (2, .int x2)] := hl
  refine lv_iload_n hx hb dX4_bendsBetween_0 rfl (lv_at hl 1 rfl) ?_
  refine lv_istore_n (lv' := [(3, .int x1), (0, .ref h0), (1, .int x1), (2, .int x2)]) hx hb dX4_bendsBetween_1 rfl hl (by decide) rfl (fun ls hl => ?_)
  refine lv_iload_n hx hb dX4_bendsBetween_2 rfl (lv_at hl 3 rfl) ?_
  refine lv_istore (lv' := [(4, .int x2), (3, .int x1), (0, .ref h0), (1, .int x1), (2, .int x2)]) hx hb dX4_bendsBetween_3 hl (by decide) rfl (fun ls hl => ?_)
  refine lv_iconst (v := 0) hx hb dX4_bendsBetween_5 (by decide) ?_
  refine lv_istore (lv' := [(5, .int 0), (4, .int x2), (3, .int x1), (0, .ref h0), (1, .int x1), (2, .int x2)]) hx hb dX4_bendsBetween_6 hl (by decide) rfl (fun ls hl => ?_)
  have L224 : ∀ (n : Nat) (v195 : Int32) (v196 : Int32) (v197 : Int32) (H : Heap) (locs : List Loc) (ls : Array Slot), 0 ≤ v195.toInt ∧ v195.toInt ≤ 8 → 0 ≤ v196.toInt ∧ v196.toInt ≤ 8 → 0 ≤ v197.toInt ∧ v197.toInt ≤ 18 → (19 - v197.toInt).toNat < n → va_P g.1 vwCl [(h0, .inr (4, [.int h0_count, .int h0_statements, .int h0_thick, .int h0_punch, .int h0_ups, .int h0_toolCount, .ref h0_toolWidth, .ref h0_told, .ref h0_name, .ref h0_parent, .ref h0_side, .ref h0_from, .ref h0_width, .ref h0_height, .ref h0_radius, .ref h0_toolSet])), (h0_parent, .inl (g.2.1.1, 9, .inl f_h0_parent))] H → va_D A [(h0, .inr (4, [.int h0_count, .int h0_statements, .int h0_thick, .int h0_punch, .int h0_ups, .int h0_toolCount, .ref h0_toolWidth, .ref h0_told, .ref h0_name, .ref h0_parent, .ref h0_side, .ref h0_from, .ref h0_width, .ref h0_height, .ref h0_radius, .ref h0_toolSet])), (h0_parent, .inl (g.2.1.1, 9, .inl f_h0_parent))] → va_S A s.heap H locs → lv_has ls 6 [(0, .ref h0), (1, .int x1), (2, .int x2), (3, .int v195), (4, .int v196), (5, .int v197)] → W p l e rm_kX4_bendsBetween s m args below meth c H locs 0 0 Q (F0 m 8 ls []) := by
    intro n225
    induction n225 with
    | zero => intro v195 v196 v197 H locs ls i227 i228 i229 hm230; exact absurd hm230 (Nat.not_lt_zero _)
    | succ n225 ih226 =>
      intro v195 v196 v197 H locs ls i227 i228 i229 hm230 hP hD hS hl
      refine lv_iload_n hx hb dX4_bendsBetween_8 rfl (lv_at hl 3 rfl) ?_
      refine lv_iload hx hb dX4_bendsBetween_9 (lv_at hl 4 rfl) ?_
      refine lv_icmp_eq (tgt := 52) hx hb dX4_bendsBetween_11 (by decide) (fun c231 => ?_) (fun c231 => ?_)
      · skip
        have c231i : v195.toInt = v196.toInt := (zc_eq (rfl : v195.toInt = _) (rfl : v196.toInt = _)).mp c231
        refine lv_iload hx hb dX4_bendsBetween_52 (lv_at hl 5 rfl) ?_
        exact hret v197 () (Nat.le_of_ble_eq_true rfl) (Nat.le_of_ble_eq_true rfl) rfl (ox_20 i229) hP hD hS dX4_bendsBetween_54
      · skip
        have c231i : ¬ (v195.toInt = v196.toInt) := fun q => c231 ((zc_eq (rfl : v195.toInt = _) (rfl : v196.toInt = _)).mpr q)
        refine lv_iload hx hb dX4_bendsBetween_14 (lv_at hl 5 rfl) ?_
        refine lv_bipush (v := 18) hx hb dX4_bendsBetween_16 (by decide) ?_
        refine lv_icmp_ge (tgt := 52) hx hb dX4_bendsBetween_18 (by decide) (fun c232 => ?_) (fun c232 => ?_)
        · skip
          have c232i : (18 : Int) ≤ v197.toInt := (zc_le (show (18 : Int32).toInt = (18 : Int) from by decide) (rfl : v197.toInt = _)).mp c232
          refine lv_iload hx hb dX4_bendsBetween_52 (lv_at hl 5 rfl) ?_
          exact hret v197 () (Nat.le_of_ble_eq_true rfl) (Nat.le_of_ble_eq_true rfl) rfl (ox_21 c232i i229) hP hD hS dX4_bendsBetween_54
        · skip
          have c232i : ¬ ((18 : Int) ≤ v197.toInt) := fun q => c232 ((zc_le (show (18 : Int32).toInt = (18 : Int) from by decide) (rfl : v197.toInt = _)).mpr q)
          refine lv_iload_n hx hb dX4_bendsBetween_21 rfl (lv_at hl 3 rfl) ?_
          refine lv_iload hx hb dX4_bendsBetween_22 (lv_at hl 4 rfl) ?_
          have J242 : ∀  (v240 : Int32) (v241 : Int32) (H : Heap) (locs : List Loc) (ls : Array Slot), 0 ≤ v240.toInt ∧ v240.toInt ≤ 8 → 0 ≤ v241.toInt ∧ v241.toInt ≤ 8 → va_P g.1 vwCl [(h0, .inr (4, [.int h0_count, .int h0_statements, .int h0_thick, .int h0_punch, .int h0_ups, .int h0_toolCount, .ref h0_toolWidth, .ref h0_told, .ref h0_name, .ref h0_parent, .ref h0_side, .ref h0_from, .ref h0_width, .ref h0_height, .ref h0_radius, .ref h0_toolSet])), (h0_parent, .inl (g.2.1.1, 9, .inl f_h0_parent))] H → va_D A [(h0, .inr (4, [.int h0_count, .int h0_statements, .int h0_thick, .int h0_punch, .int h0_ups, .int h0_toolCount, .ref h0_toolWidth, .ref h0_told, .ref h0_name, .ref h0_parent, .ref h0_side, .ref h0_from, .ref h0_width, .ref h0_height, .ref h0_radius, .ref h0_toolSet])), (h0_parent, .inl (g.2.1.1, 9, .inl f_h0_parent))] → va_S A s.heap H locs → lv_has ls 6 [(0, .ref h0), (1, .int x1), (2, .int x2), (3, .int v240), (4, .int v241), (5, .int v197)] → W p l e rm_kX4_bendsBetween s m args below meth c H locs 0 0 Q (F0 m 46 ls []) := by
            intro v240 v241 H locs ls i243 i244 hP hD hS hl
            obtain ⟨z245, e246⟩ : ∃ y9 : Int32, y9 = v197 + 1 := ⟨_, rfl⟩
            have f247 : z245.toInt = v197.toInt + 1 := za e246 (rfl : v197.toInt = _) (show (1 : Int32).toInt = (1 : Int) from by decide) (ox_22 (zr v197) c232i i229)
            refine lv_iinc (v := z245) (lv' := [(5, .int z245), (0, .ref h0), (1, .int x1), (2, .int x2), (3, .int v240), (4, .int v241)]) hx hb dX4_bendsBetween_46 hl (k := 5) rfl (by rw [e246]; rfl) (by decide) rfl (fun ls hl => ?_)
            refine lv_goto (tgt := 8) hx hb dX4_bendsBetween_49 (by decide) ?_
            exact ih226 v240 v241 z245 H locs ls (ox_1 i243) (ox_1 i244) (ox_23 c232i f247 i229) (zdec hm230 (ox_24 c232i f247 i229)) hP hD hS (lv_sub hl [1, 2, 3, 4, 5, 0] rfl)
          refine lv_icmp_le (tgt := 37) hx hb dX4_bendsBetween_24 (by decide) (fun c248 => ?_) (fun c248 => ?_)
          · skip
            have c248i : v195.toInt ≤ v196.toInt := (zc_le (rfl : v195.toInt = _) (rfl : v196.toInt = _)).mp c248
            refine lv_aload_n hx hb dX4_bendsBetween_37 rfl (lv_at hl 0 rfl) ?_
            refine va_get (D := g.1) (ci := 4) (v := .ref h0_parent) (C := RX4) (T := TX4) (N := 16) hx hb hG iX4 hown hX.1 hP 0 rfl rfl 9 (by decide) (hG _ wf_X4_21) (fun _ h9 => h9) rfl dX4_bendsBetween_38 ?_
            refine lv_iload hx hb dX4_bendsBetween_41 (lv_at hl 4 rfl) ?_
            refine va_iald hx hb hX.1 hP 1 0 rfl rfl (zin (rfl : v196.toInt = _) (ox_25 c231i c248i i227 i228)) dX4_bendsBetween_43 ?_
            refine lv_topi (fun z249 e250 => ?_)
            have i251 : 0 ≤ z249.toInt ∧ z249.toInt ≤ 8 := hy4.at e250
            refine lv_istore (lv' := [(4, .int z249), (0, .ref h0), (1, .int x1), (2, .int x2), (3, .int v195), (5, .int v197)]) hx hb dX4_bendsBetween_44 hl (by decide) rfl (fun ls hl => ?_)
            exact J242 v195 z249 H locs ls (ox_26 c231i c248i i227 i228) (ox_1 i251) hP hD hS (lv_sub hl [1, 2, 3, 4, 0, 5] rfl)
          · skip
            have c248i : ¬ (v195.toInt ≤ v196.toInt) := fun q => c248 ((zc_le (rfl : v195.toInt = _) (rfl : v196.toInt = _)).mpr q)
            refine lv_aload_n hx hb dX4_bendsBetween_27 rfl (lv_at hl 0 rfl) ?_
            refine va_get (D := g.1) (ci := 4) (v := .ref h0_parent) (C := RX4) (T := TX4) (N := 16) hx hb hG iX4 hown hX.1 hP 0 rfl rfl 9 (by decide) (hG _ wf_X4_21) (fun _ h9 => h9) rfl dX4_bendsBetween_28 ?_
            refine lv_iload_n hx hb dX4_bendsBetween_31 rfl (lv_at hl 3 rfl) ?_
            refine va_iald hx hb hX.1 hP 1 0 rfl rfl (zin (rfl : v195.toInt = _) (ox_27 c231i c248i i227 i228)) dX4_bendsBetween_32 ?_
            refine lv_topi (fun z252 e253 => ?_)
            have i254 : 0 ≤ z252.toInt ∧ z252.toInt ≤ 8 := hy4.at e253
            refine lv_istore_n (lv' := [(3, .int z252), (0, .ref h0), (1, .int x1), (2, .int x2), (4, .int v196), (5, .int v197)]) hx hb dX4_bendsBetween_33 rfl hl (by decide) rfl (fun ls hl => ?_)
            refine lv_goto (tgt := 46) hx hb dX4_bendsBetween_34 (by decide) ?_
            exact J242 z252 v196 H locs ls (ox_1 i254) (ox_28 c231i c248i i227 i228) hP hD hS (lv_sub hl [1, 2, 3, 0, 4, 5] rfl)
  exact L224 _ x1 x2 (0 : Int32) _ _ ls (ox_1 hy0) (ox_1 hy1) ((show 0 ≤ (0 : Int) ∧ (0 : Int) ≤ 18 from by decide)) (Nat.lt_succ_self _) hP hD hS (lv_sub hl [3, 4, 5, 2, 1, 0] rfl)
theorem dX4_timesInLength_0 : decode cX4_timesInLength 0 = .ok (.iconst 0, 1) := by decide +kernel
theorem dX4_timesInLength_1 : decode cX4_timesInLength 1 = .ok (.istore_n 3, 1) := by decide +kernel
theorem dX4_timesInLength_2 : decode cX4_timesInLength 2 = .ok (.iload_n 1, 1) := by decide +kernel
theorem dX4_timesInLength_3 : decode cX4_timesInLength 3 = .ok (.istore 4, 2) := by decide +kernel
theorem dX4_timesInLength_5 : decode cX4_timesInLength 5 = .ok (.iconst 0, 1) := by decide +kernel
theorem dX4_timesInLength_6 : decode cX4_timesInLength 6 = .ok (.istore 5, 2) := by decide +kernel
theorem dX4_timesInLength_8 : decode cX4_timesInLength 8 = .ok (.iload 4, 2) := by decide +kernel
theorem dX4_timesInLength_10 : decode cX4_timesInLength 10 = .ok (.ifCond .le 39, 3) := by decide +kernel
theorem dX4_timesInLength_49 : decode cX4_timesInLength 49 = .ok (.iload_n 3, 1) := by decide +kernel
theorem dX4_timesInLength_50 : decode cX4_timesInLength 50 = .ok (.ireturn, 1) := by decide +kernel
theorem dX4_timesInLength_13 : decode cX4_timesInLength 13 = .ok (.iload 5, 2) := by decide +kernel
theorem dX4_timesInLength_15 : decode cX4_timesInLength 15 = .ok (.bipush 9, 2) := by decide +kernel
theorem dX4_timesInLength_17 : decode cX4_timesInLength 17 = .ok (.if_icmp .ge 32, 3) := by decide +kernel
theorem dX4_timesInLength_20 : decode cX4_timesInLength 20 = .ok (.aload_n 0, 1) := by decide +kernel
theorem dX4_timesInLength_21 : decode cX4_timesInLength 21 = .ok (.getfield 36, 3) := by decide +kernel
theorem dX4_timesInLength_24 : decode cX4_timesInLength 24 = .ok (.iload 4, 2) := by decide +kernel
theorem dX4_timesInLength_26 : decode cX4_timesInLength 26 = .ok (.iaload, 1) := by decide +kernel
theorem dX4_timesInLength_27 : decode cX4_timesInLength 27 = .ok (.iload_n 2, 1) := by decide +kernel
theorem dX4_timesInLength_34 : decode cX4_timesInLength 34 = .ok (.aload_n 0, 1) := by decide +kernel
theorem dX4_timesInLength_35 : decode cX4_timesInLength 35 = .ok (.getfield 21, 3) := by decide +kernel
theorem dX4_timesInLength_38 : decode cX4_timesInLength 38 = .ok (.iload 4, 2) := by decide +kernel
theorem dX4_timesInLength_40 : decode cX4_timesInLength 40 = .ok (.iaload, 1) := by decide +kernel
theorem dX4_timesInLength_41 : decode cX4_timesInLength 41 = .ok (.istore 4, 2) := by decide +kernel
theorem dX4_timesInLength_43 : decode cX4_timesInLength 43 = .ok (.iinc 5 1, 3) := by decide +kernel
theorem dX4_timesInLength_46 : decode cX4_timesInLength 46 = .ok (.goto (-38), 3) := by decide +kernel
theorem dX4_timesInLength_28 : decode cX4_timesInLength 28 = .ok (.if_icmp .ne 6, 3) := by decide +kernel
theorem dX4_timesInLength_31 : decode cX4_timesInLength 31 = .ok (.iinc 3 1, 3) := by decide +kernel
abbrev rm_kX4_timesInLength : Room := { frames := 0, cells := 0, slots := 0, locals := 0 }
set_option maxHeartbeats 4000000 in
set_option maxRecDepth 100000 in
theorem kX4_timesInLength (l : Launch) (g : zL) (h0 : Nat) (x1 : Int32) (x2 : Int32) (h0_count : Int32) (h0_statements : Int32) (h0_thick : Int32) (h0_punch : Int32) (h0_ups : Int32) (h0_toolCount : Int32) (h0_toolWidth : Nat) (h0_told : Nat) (h0_name : Nat) (h0_parent : Nat) (h0_side : Nat) (h0_from : Nat) (h0_width : Nat) (h0_height : Nat) (h0_radius : Nat) (h0_toolSet : Nat) (f_h0_radius : Nat → Int32) (f_h0_parent : Nat → Int32) (hy0 : 0 ≤ x1.toInt ∧ x1.toInt ≤ 8) (hy1 : 0 ≤ h0_count.toInt ∧ h0_count.toInt ≤ 9) (hy2 : 0 ≤ h0_toolCount.toInt ∧ h0_toolCount.toInt ≤ 8) (hy3 : True) (hy4 : aI 0 8 f_h0_parent) : zCi l g yX4_timesInLength cX4_timesInLength 6 (some .int) rm_kX4_timesInLength [.ref h0, .int x1, .int x2] [(h0, .inr (4, [.int h0_count, .int h0_statements, .int h0_thick, .int h0_punch, .int h0_ups, .int h0_toolCount, .ref h0_toolWidth, .ref h0_told, .ref h0_name, .ref h0_parent, .ref h0_side, .ref h0_from, .ref h0_width, .ref h0_height, .ref h0_radius, .ref h0_toolSet])), (h0_radius, .inl (g.2.1.1, 9, .inl f_h0_radius)), (h0_parent, .inl (g.2.1.1, 9, .inl f_h0_parent))] (fun (r : Int32) (u : Unit) => True) (fun (u : Unit) => [(h0, .inr (4, [.int h0_count, .int h0_statements, .int h0_thick, .int h0_punch, .int h0_ups, .int h0_toolCount, .ref h0_toolWidth, .ref h0_told, .ref h0_name, .ref h0_parent, .ref h0_side, .ref h0_from, .ref h0_width, .ref h0_height, .ref h0_radius, .ref h0_toolSet])), (h0_radius, .inl (g.2.1.1, 9, .inl f_h0_radius)), (h0_parent, .inl (g.2.1.1, 9, .inl f_h0_parent))]) := by
  refine zCi.mk2 (by decide) (Nat.le_of_ble_eq_true rfl) ?_
  intro p e s m below meth c A args Q hE hret hP hD hS ls hl
  obtain ⟨hx, hb, hr, hml, hown, hG, hlocks, hnm, hX, hA⟩ := hE
  have hown : s.vm.findClass RX4 = some m.cls := hown
  have hl : lv_has ls 6 [(0, .ref h0), (1, .int x1), (2, .int x2)] := hl
  refine lv_iconst (v := 0) hx hb dX4_timesInLength_0 (by decide) ?_
  refine lv_istore_n (lv' := [(3, .int 0), (0, .ref h0), (1, .int x1), (2, .int x2)]) hx hb dX4_timesInLength_1 rfl hl (by decide) rfl (fun ls hl => ?_)
  refine lv_iload_n hx hb dX4_timesInLength_2 rfl (lv_at hl 2 rfl) ?_
  refine lv_istore (lv' := [(4, .int x1), (3, .int 0), (0, .ref h0), (1, .int x1), (2, .int x2)]) hx hb dX4_timesInLength_3 hl (by decide) rfl (fun ls hl => ?_)
  refine lv_iconst (v := 0) hx hb dX4_timesInLength_5 (by decide) ?_
  refine lv_istore (lv' := [(5, .int 0), (4, .int x1), (3, .int 0), (0, .ref h0), (1, .int x1), (2, .int x2)]) hx hb dX4_timesInLength_6 hl (by decide) rfl (fun ls hl => ?_)
  have L205 : ∀ (n : Nat) (v183 : Int32) (v184 : Int32) (v185 : Int32) (H : Heap) (locs : List Loc) (ls : Array Slot), 0 ≤ v184.toInt ∧ v184.toInt ≤ 8 → 0 ≤ v185.toInt ∧ v185.toInt ≤ 9 → (10 - v185.toInt).toNat < n → va_P g.1 vwCl [(h0, .inr (4, [.int h0_count, .int h0_statements, .int h0_thick, .int h0_punch, .int h0_ups, .int h0_toolCount, .ref h0_toolWidth, .ref h0_told, .ref h0_name, .ref h0_parent, .ref h0_side, .ref h0_from, .ref h0_width, .ref h0_height, .ref h0_radius, .ref h0_toolSet])), (h0_radius, .inl (g.2.1.1, 9, .inl f_h0_radius)), (h0_parent, .inl (g.2.1.1, 9, .inl f_h0_parent))] H → va_D A [(h0, .inr (4, [.int h0_count, .int h0_statements, .int h0_thick, .int h0_punch, .int h0_ups, .int h0_toolCount, .ref h0_toolWidth, .ref h0_told, .ref h0_name, .ref h0_parent, .ref h0_side, .ref h0_from, .ref h0_width, .ref h0_height, .ref h0_radius, .ref h0_toolSet])), (h0_radius, .inl (g.2.1.1, 9, .inl f_h0_radius)), (h0_parent, .inl (g.2.1.1, 9, .inl f_h0_parent))] → va_S A s.heap H locs → lv_has ls 6 [(0, .ref h0), (1, .int x1), (2, .int x2), (3, .int v183), (4, .int v184), (5, .int v185)] → W p l e rm_kX4_timesInLength s m args below meth c H locs 0 0 Q (F0 m 8 ls []) := by
    intro n206
    induction n206 with
    | zero => intro v183 v184 v185 H locs ls i208 i209 hm210; exact absurd hm210 (Nat.not_lt_zero _)
    | succ n206 ih207 =>
      intro v183 v184 v185 H locs ls i208 i209 hm210 hP hD hS hl
      refine lv_iload hx hb dX4_timesInLength_8 (lv_at hl 4 rfl) ?_
      refine lv_if_le (tgt := 49) hx hb dX4_timesInLength_10 (by decide) (fun c211 => ?_) (fun c211 => ?_)
      · skip
        have c211i : v184.toInt ≤ (0 : Int) := (zc_le (rfl : v184.toInt = _) (show (0 : Int32).toInt = (0 : Int) from by decide)).mp c211
        refine lv_iload_n hx hb dX4_timesInLength_49 rfl (lv_at hl 3 rfl) ?_
        exact hret v183 () (Nat.le_of_ble_eq_true rfl) (Nat.le_of_ble_eq_true rfl) rfl trivial hP hD hS dX4_timesInLength_50
      · skip
        have c211i : ¬ (v184.toInt ≤ (0 : Int)) := fun q => c211 ((zc_le (rfl : v184.toInt = _) (show (0 : Int32).toInt = (0 : Int) from by decide)).mpr q)
        refine lv_iload hx hb dX4_timesInLength_13 (lv_at hl 5 rfl) ?_
        refine lv_bipush (v := 9) hx hb dX4_timesInLength_15 (by decide) ?_
        refine lv_icmp_ge (tgt := 49) hx hb dX4_timesInLength_17 (by decide) (fun c212 => ?_) (fun c212 => ?_)
        · skip
          have c212i : (9 : Int) ≤ v185.toInt := (zc_le (show (9 : Int32).toInt = (9 : Int) from by decide) (rfl : v185.toInt = _)).mp c212
          refine lv_iload_n hx hb dX4_timesInLength_49 rfl (lv_at hl 3 rfl) ?_
          exact hret v183 () (Nat.le_of_ble_eq_true rfl) (Nat.le_of_ble_eq_true rfl) rfl trivial hP hD hS dX4_timesInLength_50
        · skip
          have c212i : ¬ ((9 : Int) ≤ v185.toInt) := fun q => c212 ((zc_le (show (9 : Int32).toInt = (9 : Int) from by decide) (rfl : v185.toInt = _)).mpr q)
          refine lv_aload_n hx hb dX4_timesInLength_20 rfl (lv_at hl 0 rfl) ?_
          refine va_get (D := g.1) (ci := 4) (v := .ref h0_radius) (C := RX4) (T := TX4) (N := 16) hx hb hG iX4 hown hX.1 hP 0 rfl rfl 14 (by decide) (hG _ wf_X4_36) (fun _ h9 => h9) rfl dX4_timesInLength_21 ?_
          refine lv_iload hx hb dX4_timesInLength_24 (lv_at hl 4 rfl) ?_
          refine va_iald hx hb hX.1 hP 1 0 rfl rfl (zin (rfl : v184.toInt = _) (ox_7 c211i i208)) dX4_timesInLength_26 ?_
          refine lv_topi (fun z213 e214 => ?_)
          refine lv_iload_n hx hb dX4_timesInLength_27 rfl (lv_at hl 2 rfl) ?_
          have J219 : ∀  (v218 : Int32) (H : Heap) (locs : List Loc) (ls : Array Slot), va_P g.1 vwCl [(h0, .inr (4, [.int h0_count, .int h0_statements, .int h0_thick, .int h0_punch, .int h0_ups, .int h0_toolCount, .ref h0_toolWidth, .ref h0_told, .ref h0_name, .ref h0_parent, .ref h0_side, .ref h0_from, .ref h0_width, .ref h0_height, .ref h0_radius, .ref h0_toolSet])), (h0_radius, .inl (g.2.1.1, 9, .inl f_h0_radius)), (h0_parent, .inl (g.2.1.1, 9, .inl f_h0_parent))] H → va_D A [(h0, .inr (4, [.int h0_count, .int h0_statements, .int h0_thick, .int h0_punch, .int h0_ups, .int h0_toolCount, .ref h0_toolWidth, .ref h0_told, .ref h0_name, .ref h0_parent, .ref h0_side, .ref h0_from, .ref h0_width, .ref h0_height, .ref h0_radius, .ref h0_toolSet])), (h0_radius, .inl (g.2.1.1, 9, .inl f_h0_radius)), (h0_parent, .inl (g.2.1.1, 9, .inl f_h0_parent))] → va_S A s.heap H locs → lv_has ls 6 [(0, .ref h0), (1, .int x1), (2, .int x2), (3, .int v218), (4, .int v184), (5, .int v185)] → W p l e rm_kX4_timesInLength s m args below meth c H locs 0 0 Q (F0 m 34 ls []) := by
            intro v218 H locs ls  hP hD hS hl
            refine lv_aload_n hx hb dX4_timesInLength_34 rfl (lv_at hl 0 rfl) ?_
            refine va_get (D := g.1) (ci := 4) (v := .ref h0_parent) (C := RX4) (T := TX4) (N := 16) hx hb hG iX4 hown hX.1 hP 0 rfl rfl 9 (by decide) (hG _ wf_X4_21) (fun _ h9 => h9) rfl dX4_timesInLength_35 ?_
            refine lv_iload hx hb dX4_timesInLength_38 (lv_at hl 4 rfl) ?_
            refine va_iald hx hb hX.1 hP 2 0 rfl rfl (zin (rfl : v184.toInt = _) (ox_7 c211i i208)) dX4_timesInLength_40 ?_
            refine lv_topi (fun z220 e221 => ?_)
            have i222 : 0 ≤ z220.toInt ∧ z220.toInt ≤ 8 := hy4.at e221
            refine lv_istore (lv' := [(4, .int z220), (0, .ref h0), (1, .int x1), (2, .int x2), (3, .int v218), (5, .int v185)]) hx hb dX4_timesInLength_41 hl (by decide) rfl (fun ls hl => ?_)
            obtain ⟨z223, e224⟩ : ∃ y9 : Int32, y9 = v185 + 1 := ⟨_, rfl⟩
            have f225 : z223.toInt = v185.toInt + 1 := za e224 (rfl : v185.toInt = _) (show (1 : Int32).toInt = (1 : Int) from by decide) (ox_11 (zr v185) c212i i209)
            refine lv_iinc (v := z223) (lv' := [(5, .int z223), (4, .int z220), (0, .ref h0), (1, .int x1), (2, .int x2), (3, .int v218)]) hx hb dX4_timesInLength_43 hl (k := 5) rfl (by rw [e224]; rfl) (by decide) rfl (fun ls hl => ?_)
            refine lv_goto (tgt := 8) hx hb dX4_timesInLength_46 (by decide) ?_
            exact ih207 v218 z220 z223 H locs ls (ox_1 i222) (ox_12 c212i f225 i209) (zdec hm210 (ox_13 c212i f225 i209)) hP hD hS (lv_sub hl [2, 3, 4, 5, 1, 0] rfl)
          refine lv_icmp_ne (tgt := 34) hx hb dX4_timesInLength_28 (by decide) (fun c226 => ?_) (fun c226 => ?_)
          · skip
            have c226i : ¬ (z213.toInt = x2.toInt) := fun q => c226 ((zc_eq (rfl : z213.toInt = _) (rfl : x2.toInt = _)).mpr q)
            exact J219 v183 H locs ls  hP hD hS (lv_sub hl [0, 1, 2, 3, 4, 5] rfl)
          · skip
            have c226i : z213.toInt = x2.toInt := (zc_eq (rfl : z213.toInt = _) (rfl : x2.toInt = _)).mp c226
            obtain ⟨z227, e228⟩ : ∃ y9 : Int32, y9 = v183 + 1 := ⟨_, rfl⟩
            refine lv_iinc (v := z227) (lv' := [(3, .int z227), (0, .ref h0), (1, .int x1), (2, .int x2), (4, .int v184), (5, .int v185)]) hx hb dX4_timesInLength_31 hl (k := 3) rfl (by rw [e228]; rfl) (by decide) rfl (fun ls hl => ?_)
            exact J219 z227 H locs ls  hP hD hS (lv_sub hl [1, 2, 3, 0, 4, 5] rfl)
  exact L205 _ (0 : Int32) x1 (0 : Int32) _ _ ls (ox_1 hy0) ((show 0 ≤ (0 : Int) ∧ (0 : Int) ≤ 9 from by decide)) (Nat.lt_succ_self _) hP hD hS (lv_sub hl [3, 4, 5, 2, 1, 0] rfl)
theorem dX4_widthOfTools_0 : decode cX4_widthOfTools 0 = .ok (.iconst 0, 1) := by decide +kernel
theorem dX4_widthOfTools_1 : decode cX4_widthOfTools 1 = .ok (.istore_n 2, 1) := by decide +kernel
theorem dX4_widthOfTools_2 : decode cX4_widthOfTools 2 = .ok (.iconst 0, 1) := by decide +kernel
theorem dX4_widthOfTools_3 : decode cX4_widthOfTools 3 = .ok (.istore_n 3, 1) := by decide +kernel
theorem dX4_widthOfTools_4 : decode cX4_widthOfTools 4 = .ok (.iload_n 3, 1) := by decide +kernel
theorem dX4_widthOfTools_5 : decode cX4_widthOfTools 5 = .ok (.aload_n 0, 1) := by decide +kernel
theorem dX4_widthOfTools_6 : decode cX4_widthOfTools 6 = .ok (.getfield 52, 3) := by decide +kernel
theorem dX4_widthOfTools_9 : decode cX4_widthOfTools 9 = .ok (.if_icmp .ge 26, 3) := by decide +kernel
theorem dX4_widthOfTools_35 : decode cX4_widthOfTools 35 = .ok (.iload_n 2, 1) := by decide +kernel
theorem dX4_widthOfTools_36 : decode cX4_widthOfTools 36 = .ok (.ireturn, 1) := by decide +kernel
theorem dX4_widthOfTools_12 : decode cX4_widthOfTools 12 = .ok (.iload_n 1, 1) := by decide +kernel
theorem dX4_widthOfTools_13 : decode cX4_widthOfTools 13 = .ok (.iload_n 3, 1) := by decide +kernel
theorem dX4_widthOfTools_14 : decode cX4_widthOfTools 14 = .ok (.ishr, 1) := by decide +kernel
theorem dX4_widthOfTools_15 : decode cX4_widthOfTools 15 = .ok (.iconst 1, 1) := by decide +kernel
theorem dX4_widthOfTools_16 : decode cX4_widthOfTools 16 = .ok (.iand, 1) := by decide +kernel
theorem dX4_widthOfTools_29 : decode cX4_widthOfTools 29 = .ok (.iinc 3 1, 3) := by decide +kernel
theorem dX4_widthOfTools_32 : decode cX4_widthOfTools 32 = .ok (.goto (-28), 3) := by decide +kernel
theorem dX4_widthOfTools_17 : decode cX4_widthOfTools 17 = .ok (.ifCond .eq 12, 3) := by decide +kernel
theorem dX4_widthOfTools_20 : decode cX4_widthOfTools 20 = .ok (.iload_n 2, 1) := by decide +kernel
theorem dX4_widthOfTools_21 : decode cX4_widthOfTools 21 = .ok (.aload_n 0, 1) := by decide +kernel
theorem dX4_widthOfTools_22 : decode cX4_widthOfTools 22 = .ok (.getfield 9, 3) := by decide +kernel
theorem dX4_widthOfTools_25 : decode cX4_widthOfTools 25 = .ok (.iload_n 3, 1) := by decide +kernel
theorem dX4_widthOfTools_26 : decode cX4_widthOfTools 26 = .ok (.iaload, 1) := by decide +kernel
theorem dX4_widthOfTools_27 : decode cX4_widthOfTools 27 = .ok (.iadd, 1) := by decide +kernel
theorem dX4_widthOfTools_28 : decode cX4_widthOfTools 28 = .ok (.istore_n 2, 1) := by decide +kernel
abbrev rm_kX4_widthOfTools : Room := { frames := 0, cells := 0, slots := 0, locals := 0 }
set_option maxHeartbeats 4000000 in
set_option maxRecDepth 100000 in
theorem kX4_widthOfTools (l : Launch) (g : zL) (h0 : Nat) (x1 : Int32) (h0_count : Int32) (h0_statements : Int32) (h0_thick : Int32) (h0_punch : Int32) (h0_ups : Int32) (h0_toolCount : Int32) (h0_toolWidth : Nat) (h0_told : Nat) (h0_name : Nat) (h0_parent : Nat) (h0_side : Nat) (h0_from : Nat) (h0_width : Nat) (h0_height : Nat) (h0_radius : Nat) (h0_toolSet : Nat) (f_h0_toolWidth : Nat → Int32) (hy0 : 0 ≤ h0_count.toInt ∧ h0_count.toInt ≤ 9) (hy1 : 0 ≤ h0_toolCount.toInt ∧ h0_toolCount.toInt ≤ 8) : zCi l g yX4_widthOfTools cX4_widthOfTools 4 (some .int) rm_kX4_widthOfTools [.ref h0, .int x1] [(h0, .inr (4, [.int h0_count, .int h0_statements, .int h0_thick, .int h0_punch, .int h0_ups, .int h0_toolCount, .ref h0_toolWidth, .ref h0_told, .ref h0_name, .ref h0_parent, .ref h0_side, .ref h0_from, .ref h0_width, .ref h0_height, .ref h0_radius, .ref h0_toolSet])), (h0_toolWidth, .inl (g.2.1.1, 8, .inl f_h0_toolWidth))] (fun (r : Int32) (u : Unit) => True) (fun (u : Unit) => [(h0, .inr (4, [.int h0_count, .int h0_statements, .int h0_thick, .int h0_punch, .int h0_ups, .int h0_toolCount, .ref h0_toolWidth, .ref h0_told, .ref h0_name, .ref h0_parent, .ref h0_side, .ref h0_from, .ref h0_width, .ref h0_height, .ref h0_radius, .ref h0_toolSet])), (h0_toolWidth, .inl (g.2.1.1, 8, .inl f_h0_toolWidth))]) := by
  refine zCi.mk2 (by decide) (Nat.le_of_ble_eq_true rfl) ?_
  intro p e s m below meth c A args Q hE hret hP hD hS ls hl
  obtain ⟨hx, hb, hr, hml, hown, hG, hlocks, hnm, hX, hA⟩ := hE
  have hown : s.vm.findClass RX4 = some m.cls := hown
  have hl : lv_has ls 4 [(0, .ref h0), (1, .int x1)] := hl
  refine lv_iconst (v := 0) hx hb dX4_widthOfTools_0 (by decide) ?_
  refine lv_istore_n (lv' := [(2, .int 0), (0, .ref h0), (1, .int x1)]) hx hb dX4_widthOfTools_1 rfl hl (by decide) rfl (fun ls hl => ?_)
  refine lv_iconst (v := 0) hx hb dX4_widthOfTools_2 (by decide) ?_
  refine lv_istore_n (lv' := [(3, .int 0), (2, .int 0), (0, .ref h0), (1, .int x1)]) hx hb dX4_widthOfTools_3 rfl hl (by decide) rfl (fun ls hl => ?_)
  have L182 : ∀ (n : Nat) (v159 : Int32) (v160 : Int32) (H : Heap) (locs : List Loc) (ls : Array Slot), 0 ≤ v160.toInt ∧ v160.toInt ≤ 8 → (9 - v160.toInt).toNat < n → va_P g.1 vwCl [(h0, .inr (4, [.int h0_count, .int h0_statements, .int h0_thick, .int h0_punch, .int h0_ups, .int h0_toolCount, .ref h0_toolWidth, .ref h0_told, .ref h0_name, .ref h0_parent, .ref h0_side, .ref h0_from, .ref h0_width, .ref h0_height, .ref h0_radius, .ref h0_toolSet])), (h0_toolWidth, .inl (g.2.1.1, 8, .inl f_h0_toolWidth))] H → va_D A [(h0, .inr (4, [.int h0_count, .int h0_statements, .int h0_thick, .int h0_punch, .int h0_ups, .int h0_toolCount, .ref h0_toolWidth, .ref h0_told, .ref h0_name, .ref h0_parent, .ref h0_side, .ref h0_from, .ref h0_width, .ref h0_height, .ref h0_radius, .ref h0_toolSet])), (h0_toolWidth, .inl (g.2.1.1, 8, .inl f_h0_toolWidth))] → va_S A s.heap H locs → lv_has ls 4 [(0, .ref h0), (1, .int x1), (2, .int v159), (3, .int v160)] → W p l e rm_kX4_widthOfTools s m args below meth c H locs 0 0 Q (F0 m 4 ls []) := by
    intro n183
    induction n183 with
    | zero => intro v159 v160 H locs ls i185 hm186; exact absurd hm186 (Nat.not_lt_zero _)
    | succ n183 ih184 =>
      intro v159 v160 H locs ls i185 hm186 hP hD hS hl
      refine lv_iload_n hx hb dX4_widthOfTools_4 rfl (lv_at hl 3 rfl) ?_
      refine lv_aload_n hx hb dX4_widthOfTools_5 rfl (lv_at hl 0 rfl) ?_
      refine va_get (D := g.1) (ci := 4) (v := .int h0_toolCount) (C := RX4) (T := TX4) (N := 16) hx hb hG iX4 hown hX.1 hP 0 rfl rfl 5 (by decide) (hG _ wf_X4_52) (fun _ h9 => h9) rfl dX4_widthOfTools_6 ?_
      refine lv_icmp_ge (tgt := 35) hx hb dX4_widthOfTools_9 (by decide) (fun c187 => ?_) (fun c187 => ?_)
      · skip
        have c187i : h0_toolCount.toInt ≤ v160.toInt := (zc_le (rfl : h0_toolCount.toInt = _) (rfl : v160.toInt = _)).mp c187
        refine lv_iload_n hx hb dX4_widthOfTools_35 rfl (lv_at hl 2 rfl) ?_
        exact hret v159 () (Nat.le_of_ble_eq_true rfl) (Nat.le_of_ble_eq_true rfl) rfl trivial hP hD hS dX4_widthOfTools_36
      · skip
        have c187i : ¬ (h0_toolCount.toInt ≤ v160.toInt) := fun q => c187 ((zc_le (rfl : h0_toolCount.toInt = _) (rfl : v160.toInt = _)).mpr q)
        refine lv_iload_n hx hb dX4_widthOfTools_12 rfl (lv_at hl 1 rfl) ?_
        refine lv_iload_n hx hb dX4_widthOfTools_13 rfl (lv_at hl 3 rfl) ?_
        refine lv_ishr hx hb dX4_widthOfTools_14 ?_
        refine lv_topi (fun z188 e189 => ?_)
        refine lv_iconst (v := 1) hx hb dX4_widthOfTools_15 (by decide) ?_
        refine lv_iand hx hb dX4_widthOfTools_16 ?_
        refine lv_topi (fun z190 e191 => ?_)
        have f192 : 0 ≤ z190.toInt ∧ z190.toInt ≤ (1 : Int) := zand e191 (show (1 : Int32).toInt = (1 : Int) from by decide) ((show 0 ≤ (1 : Int) from by decide))
        have J199 : ∀  (v198 : Int32) (H : Heap) (locs : List Loc) (ls : Array Slot), va_P g.1 vwCl [(h0, .inr (4, [.int h0_count, .int h0_statements, .int h0_thick, .int h0_punch, .int h0_ups, .int h0_toolCount, .ref h0_toolWidth, .ref h0_told, .ref h0_name, .ref h0_parent, .ref h0_side, .ref h0_from, .ref h0_width, .ref h0_height, .ref h0_radius, .ref h0_toolSet])), (h0_toolWidth, .inl (g.2.1.1, 8, .inl f_h0_toolWidth))] H → va_D A [(h0, .inr (4, [.int h0_count, .int h0_statements, .int h0_thick, .int h0_punch, .int h0_ups, .int h0_toolCount, .ref h0_toolWidth, .ref h0_told, .ref h0_name, .ref h0_parent, .ref h0_side, .ref h0_from, .ref h0_width, .ref h0_height, .ref h0_radius, .ref h0_toolSet])), (h0_toolWidth, .inl (g.2.1.1, 8, .inl f_h0_toolWidth))] → va_S A s.heap H locs → lv_has ls 4 [(0, .ref h0), (1, .int x1), (2, .int v198), (3, .int v160)] → W p l e rm_kX4_widthOfTools s m args below meth c H locs 0 0 Q (F0 m 29 ls []) := by
          intro v198 H locs ls  hP hD hS hl
          obtain ⟨z200, e201⟩ : ∃ y9 : Int32, y9 = v160 + 1 := ⟨_, rfl⟩
          have f202 : z200.toInt = v160.toInt + 1 := za e201 (rfl : v160.toInt = _) (show (1 : Int32).toInt = (1 : Int) from by decide) (ox_29 (zr h0_toolCount) (zr v160) c187i hy1 i185)
          refine lv_iinc (v := z200) (lv' := [(3, .int z200), (0, .ref h0), (1, .int x1), (2, .int v198)]) hx hb dX4_widthOfTools_29 hl (k := 3) rfl (by rw [e201]; rfl) (by decide) rfl (fun ls hl => ?_)
          refine lv_goto (tgt := 4) hx hb dX4_widthOfTools_32 (by decide) ?_
          exact ih184 v198 z200 H locs ls (ox_30 c187i f202 hy1 i185) (zdec hm186 (ox_31 c187i f202 hy1 i185)) hP hD hS (lv_sub hl [1, 2, 3, 0] rfl)
        refine lv_if_eq (tgt := 29) hx hb dX4_widthOfTools_17 (by decide) (fun c203 => ?_) (fun c203 => ?_)
        · skip
          have c203i : z190.toInt = (0 : Int) := (zc_eq (rfl : z190.toInt = _) (show (0 : Int32).toInt = (0 : Int) from by decide)).mp c203
          exact J199 v159 H locs ls  hP hD hS (lv_sub hl [0, 1, 2, 3] rfl)
        · skip
          have c203i : ¬ (z190.toInt = (0 : Int)) := fun q => c203 ((zc_eq (rfl : z190.toInt = _) (show (0 : Int32).toInt = (0 : Int) from by decide)).mpr q)
          refine lv_iload_n hx hb dX4_widthOfTools_20 rfl (lv_at hl 2 rfl) ?_
          refine lv_aload_n hx hb dX4_widthOfTools_21 rfl (lv_at hl 0 rfl) ?_
          refine va_get (D := g.1) (ci := 4) (v := .ref h0_toolWidth) (C := RX4) (T := TX4) (N := 16) hx hb hG iX4 hown hX.1 hP 0 rfl rfl 6 (by decide) (hG _ wf_X4_9) (fun _ h9 => h9) rfl dX4_widthOfTools_22 ?_
          refine lv_iload_n hx hb dX4_widthOfTools_25 rfl (lv_at hl 3 rfl) ?_
          refine va_iald hx hb hX.1 hP 1 0 rfl rfl (zin (rfl : v160.toInt = _) (ox_32 c187i hy1 i185)) dX4_widthOfTools_26 ?_
          refine lv_topi (fun z204 e205 => ?_)
          refine lv_iadd hx hb dX4_widthOfTools_27 ?_
          refine lv_topi (fun z206 e207 => ?_)
          refine lv_istore_n (lv' := [(2, .int z206), (0, .ref h0), (1, .int x1), (3, .int v160)]) hx hb dX4_widthOfTools_28 rfl hl (by decide) rfl (fun ls hl => ?_)
          exact J199 z206 H locs ls  hP hD hS (lv_sub hl [1, 2, 0, 3] rfl)
  exact L182 _ (0 : Int32) (0 : Int32) _ _ ls ((show 0 ≤ (0 : Int) ∧ (0 : Int) ≤ 8 from by decide)) (Nat.lt_succ_self _) hP hD hS (lv_sub hl [2, 3, 1, 0] rfl)
theorem dX8_bit_0 : decode cX8_bit 0 = .ok (.iconst 1, 1) := by decide +kernel
theorem dX8_bit_1 : decode cX8_bit 1 = .ok (.iload_n 0, 1) := by decide +kernel
theorem dX8_bit_2 : decode cX8_bit 2 = .ok (.iconst 1, 1) := by decide +kernel
theorem dX8_bit_3 : decode cX8_bit 3 = .ok (.isub, 1) := by decide +kernel
theorem dX8_bit_4 : decode cX8_bit 4 = .ok (.ishl, 1) := by decide +kernel
theorem dX8_bit_5 : decode cX8_bit 5 = .ok (.ireturn, 1) := by decide +kernel
abbrev rm_kX8_bita : Room := { frames := 0, cells := 0, slots := 0, locals := 0 }
set_option maxHeartbeats 4000000 in
set_option maxRecDepth 100000 in
theorem kX8_bita (l : Launch) (g : zL) (x1 : Int32) : zCi l g yX8_bit cX8_bit 1 (some .int) rm_kX8_bita [.int x1] [] (fun (r : Int32) (u : Unit) => True) (fun (u : Unit) => []) := by
  refine zCi.mk2 (by decide) (Nat.le_of_ble_eq_true rfl) ?_
  intro p e s m below meth c A args Q hE hret hP hD hS ls hl
  obtain ⟨hx, hb, hr, hml, hown, hG, hlocks, hnm, hX, hA⟩ := hE
  have hown : s.vm.findClass RX8 = some m.cls := hown
  have hl : lv_has ls 1 [(0, .int x1)] := hl
  refine lv_iconst (v := 1) hx hb dX8_bit_0 (by decide) ?_
  refine lv_iload_n hx hb dX8_bit_1 rfl (lv_at hl 0 rfl) ?_
  refine lv_iconst (v := 1) hx hb dX8_bit_2 (by decide) ?_
  refine lv_isub hx hb dX8_bit_3 ?_
  refine lv_topi (fun z1 e2 => ?_)
  have f3 : (z1.toInt = x1.toInt - (1 : Int) ∨ z1.toInt = x1.toInt - (1 : Int) + 4294967296) := zs_w e2 (rfl : x1.toInt = _) (show (1 : Int32).toInt = (1 : Int) from by decide) (by decide)
  refine lv_ishl hx hb dX8_bit_4 ?_
  refine lv_topi (fun z4 e5 => ?_)
  exact hret z4 () (Nat.le_of_ble_eq_true rfl) (Nat.le_of_ble_eq_true rfl) rfl trivial hP hD hS dX8_bit_5
theorem dX8_isIn_0 : decode cX8_isIn 0 = .ok (.iload_n 1, 1) := by decide +kernel
theorem dX8_isIn_1 : decode cX8_isIn 1 = .ok (.iload_n 0, 1) := by decide +kernel
theorem dX8_isIn_2 : decode cX8_isIn 2 = .ok (.invokestatic 302, 3) := by decide +kernel
theorem dX8_isIn_5 : decode cX8_isIn 5 = .ok (.iand, 1) := by decide +kernel
theorem dX8_isIn_6 : decode cX8_isIn 6 = .ok (.ifCond .eq 7, 3) := by decide +kernel
theorem dX8_isIn_13 : decode cX8_isIn 13 = .ok (.iconst 0, 1) := by decide +kernel
theorem dX8_isIn_14 : decode cX8_isIn 14 = .ok (.ireturn, 1) := by decide +kernel
theorem dX8_isIn_9 : decode cX8_isIn 9 = .ok (.iconst 1, 1) := by decide +kernel
theorem dX8_isIn_10 : decode cX8_isIn 10 = .ok (.goto 4, 3) := by decide +kernel
abbrev rm_kX8_isIn : Room := { frames := 1, cells := 0, slots := 0, locals := 20 }
set_option maxHeartbeats 4000000 in
set_option maxRecDepth 100000 in
theorem kX8_isIn (l : Launch) (g : zL) (x1 : Int32) (x2 : Int32) : zCi l g yX8_isIn cX8_isIn 2 (some .boolean) rm_kX8_isIn [.int x1, .int x2] [] (fun (r : Int32) (u : Unit) => (0 ≤ r.toInt ∧ r.toInt ≤ 1)) (fun (u : Unit) => []) := by
  refine zCi.mk2 (by decide) (Nat.le_of_ble_eq_true rfl) ?_
  intro p e s m below meth c A args Q hE hret hP hD hS ls hl
  obtain ⟨hx, hb, hr, hml, hown, hG, hlocks, hnm, hX, hA⟩ := hE
  have hown : s.vm.findClass RX8 = some m.cls := hown
  have hl : lv_has ls 2 [(0, .int x1), (1, .int x2)] := hl
  refine lv_iload_n hx hb dX8_isIn_0 rfl (lv_at hl 1 rfl) ?_
  refine lv_iload_n hx hb dX8_isIn_1 rfl (lv_at hl 0 rfl) ?_
  refine zfi (wr := []) (va_runS (As := [.int x1]) (rest := [.int x2]) ⟨hx, hb, hml, hown, hG⟩ (kX8_bita l g x1 _) ⟨callB_of 1 hG (zGood wc_X8_bit) rfl rfl rfl (hG _ wini_X8) (hG _ wm_X8_302) hX8_bit ⟨Nat.le_of_ble_eq_true rfl, Nat.le_of_ble_eq_true rfl⟩, hG _ ws_X8_bit⟩ (zpreS hX hP hD hS hA [] rfl (by decide)) rfl rfl hl.1 rfl (lv_room (Nat.le_of_ble_eq_true rfl)) dX8_isIn_2 ⟨Nat.le_of_ble_eq_true rfl, Nat.le_of_ble_eq_true rfl⟩) hP hD hS hA [] [] rfl rfl (by decide) (by decide) (fun r1 _ H locs hp hP hD hS => ?_)
  refine W.cs (cells' := 0) (slots' := 0) rfl rfl ?_
  have hP : va_P g.1 vwCl [] H := hP
  have hD : va_D A [] := hD
  refine lv_iand hx hb dX8_isIn_5 ?_
  refine lv_topi (fun z2 e3 => ?_)
  refine lv_if_eq (tgt := 13) hx hb dX8_isIn_6 (by decide) (fun c4 => ?_) (fun c4 => ?_)
  · skip
    have c4i : z2.toInt = (0 : Int) := (zc_eq (rfl : z2.toInt = _) (show (0 : Int32).toInt = (0 : Int) from by decide)).mp c4
    refine lv_iconst (v := 0) hx hb dX8_isIn_13 (by decide) ?_
    exact hret (0 : Int32) () (Nat.le_of_ble_eq_true rfl) (Nat.le_of_ble_eq_true rfl) rfl ((show 0 ≤ (0 : Int) ∧ (0 : Int) ≤ 1 from by decide)) hP hD hS dX8_isIn_14
  · skip
    have c4i : ¬ (z2.toInt = (0 : Int)) := fun q => c4 ((zc_eq (rfl : z2.toInt = _) (show (0 : Int32).toInt = (0 : Int) from by decide)).mpr q)
    refine lv_iconst (v := 1) hx hb dX8_isIn_9 (by decide) ?_
    refine lv_goto (tgt := 14) hx hb dX8_isIn_10 (by decide) ?_
    exact hret (1 : Int32) () (Nat.le_of_ble_eq_true rfl) (Nat.le_of_ble_eq_true rfl) rfl ((show 0 ≤ (1 : Int) ∧ (1 : Int) ≤ 1 from by decide)) hP hD hS dX8_isIn_14
theorem dX4_needsTools_0 : decode cX4_needsTools 0 = .ok (.iconst 0, 1) := by decide +kernel
theorem dX4_needsTools_1 : decode cX4_needsTools 1 = .ok (.istore_n 2, 1) := by decide +kernel
theorem dX4_needsTools_2 : decode cX4_needsTools 2 = .ok (.iconst 1, 1) := by decide +kernel
theorem dX4_needsTools_3 : decode cX4_needsTools 3 = .ok (.istore_n 3, 1) := by decide +kernel
theorem dX4_needsTools_4 : decode cX4_needsTools 4 = .ok (.iload_n 3, 1) := by decide +kernel
theorem dX4_needsTools_5 : decode cX4_needsTools 5 = .ok (.aload_n 0, 1) := by decide +kernel
theorem dX4_needsTools_6 : decode cX4_needsTools 6 = .ok (.getfield 42, 3) := by decide +kernel
theorem dX4_needsTools_9 : decode cX4_needsTools 9 = .ok (.if_icmp .ge 34, 3) := by decide +kernel
theorem dX4_needsTools_43 : decode cX4_needsTools 43 = .ok (.iload_n 2, 1) := by decide +kernel
theorem dX4_needsTools_44 : decode cX4_needsTools 44 = .ok (.ireturn, 1) := by decide +kernel
theorem dX4_needsTools_12 : decode cX4_needsTools 12 = .ok (.iload_n 2, 1) := by decide +kernel
theorem dX4_needsTools_13 : decode cX4_needsTools 13 = .ok (.aload_n 0, 1) := by decide +kernel
theorem dX4_needsTools_14 : decode cX4_needsTools 14 = .ok (.getfield 39, 3) := by decide +kernel
theorem dX4_needsTools_17 : decode cX4_needsTools 17 = .ok (.iload_n 3, 1) := by decide +kernel
theorem dX4_needsTools_18 : decode cX4_needsTools 18 = .ok (.iaload, 1) := by decide +kernel
theorem dX4_needsTools_35 : decode cX4_needsTools 35 = .ok (.ior, 1) := by decide +kernel
theorem dX4_needsTools_36 : decode cX4_needsTools 36 = .ok (.istore_n 2, 1) := by decide +kernel
theorem dX4_needsTools_37 : decode cX4_needsTools 37 = .ok (.iinc 3 1, 3) := by decide +kernel
theorem dX4_needsTools_40 : decode cX4_needsTools 40 = .ok (.goto (-36), 3) := by decide +kernel
theorem dX4_needsTools_34 : decode cX4_needsTools 34 = .ok (.iconst 0, 1) := by decide +kernel
theorem dX4_needsTools_19 : decode cX4_needsTools 19 = .ok (.ifCond .ne 15, 3) := by decide +kernel
theorem dX4_needsTools_22 : decode cX4_needsTools 22 = .ok (.iload_n 3, 1) := by decide +kernel
theorem dX4_needsTools_23 : decode cX4_needsTools 23 = .ok (.iload_n 1, 1) := by decide +kernel
theorem dX4_needsTools_24 : decode cX4_needsTools 24 = .ok (.invokestatic 114, 3) := by decide +kernel
theorem dX4_needsTools_27 : decode cX4_needsTools 27 = .ok (.ifCond .ne 7, 3) := by decide +kernel
theorem dX4_needsTools_30 : decode cX4_needsTools 30 = .ok (.iconst 1, 1) := by decide +kernel
theorem dX4_needsTools_31 : decode cX4_needsTools 31 = .ok (.goto 4, 3) := by decide +kernel
abbrev rm_kX4_needsTools : Room := { frames := 2, cells := 0, slots := 0, locals := 41 }
set_option maxHeartbeats 4000000 in
set_option maxRecDepth 100000 in
theorem kX4_needsTools (l : Launch) (g : zL) (h0 : Nat) (x1 : Int32) (h0_count : Int32) (h0_statements : Int32) (h0_thick : Int32) (h0_punch : Int32) (h0_ups : Int32) (h0_toolCount : Int32) (h0_toolWidth : Nat) (h0_told : Nat) (h0_name : Nat) (h0_parent : Nat) (h0_side : Nat) (h0_from : Nat) (h0_width : Nat) (h0_height : Nat) (h0_radius : Nat) (h0_toolSet : Nat) (f_h0_toolSet : Nat → Int32) (hy0 : 0 ≤ h0_count.toInt ∧ h0_count.toInt ≤ 9) (hy1 : 0 ≤ h0_toolCount.toInt ∧ h0_toolCount.toInt ≤ 8) : zCi l g yX4_needsTools cX4_needsTools 4 (some .boolean) rm_kX4_needsTools [.ref h0, .int x1] [(h0, .inr (4, [.int h0_count, .int h0_statements, .int h0_thick, .int h0_punch, .int h0_ups, .int h0_toolCount, .ref h0_toolWidth, .ref h0_told, .ref h0_name, .ref h0_parent, .ref h0_side, .ref h0_from, .ref h0_width, .ref h0_height, .ref h0_radius, .ref h0_toolSet])), (h0_toolSet, .inl (g.2.1.1, 9, .inl f_h0_toolSet))] (fun (r : Int32) (u : Unit) => (0 ≤ r.toInt ∧ r.toInt ≤ 1)) (fun (u : Unit) => [(h0, .inr (4, [.int h0_count, .int h0_statements, .int h0_thick, .int h0_punch, .int h0_ups, .int h0_toolCount, .ref h0_toolWidth, .ref h0_told, .ref h0_name, .ref h0_parent, .ref h0_side, .ref h0_from, .ref h0_width, .ref h0_height, .ref h0_radius, .ref h0_toolSet])), (h0_toolSet, .inl (g.2.1.1, 9, .inl f_h0_toolSet))]) := by
  refine zCi.mk2 (by decide) (Nat.le_of_ble_eq_true rfl) ?_
  intro p e s m below meth c A args Q hE hret hP hD hS ls hl
  obtain ⟨hx, hb, hr, hml, hown, hG, hlocks, hnm, hX, hA⟩ := hE
  have hown : s.vm.findClass RX4 = some m.cls := hown
  have hl : lv_has ls 4 [(0, .ref h0), (1, .int x1)] := hl
  refine lv_iconst (v := 0) hx hb dX4_needsTools_0 (by decide) ?_
  refine lv_istore_n (lv' := [(2, .int 0), (0, .ref h0), (1, .int x1)]) hx hb dX4_needsTools_1 rfl hl (by decide) rfl (fun ls hl => ?_)
  refine lv_iconst (v := 1) hx hb dX4_needsTools_2 (by decide) ?_
  refine lv_istore_n (lv' := [(3, .int 1), (2, .int 0), (0, .ref h0), (1, .int x1)]) hx hb dX4_needsTools_3 rfl hl (by decide) rfl (fun ls hl => ?_)
  have L210 : ∀ (n : Nat) (v183 : Int32) (v184 : Int32) (H : Heap) (locs : List Loc) (ls : Array Slot), 0 ≤ v183.toInt ∧ v183.toInt ≤ 1 → 1 ≤ v184.toInt ∧ v184.toInt ≤ 9 → (10 - v184.toInt).toNat < n → va_P g.1 vwCl [(h0, .inr (4, [.int h0_count, .int h0_statements, .int h0_thick, .int h0_punch, .int h0_ups, .int h0_toolCount, .ref h0_toolWidth, .ref h0_told, .ref h0_name, .ref h0_parent, .ref h0_side, .ref h0_from, .ref h0_width, .ref h0_height, .ref h0_radius, .ref h0_toolSet])), (h0_toolSet, .inl (g.2.1.1, 9, .inl f_h0_toolSet))] H → va_D A [(h0, .inr (4, [.int h0_count, .int h0_statements, .int h0_thick, .int h0_punch, .int h0_ups, .int h0_toolCount, .ref h0_toolWidth, .ref h0_told, .ref h0_name, .ref h0_parent, .ref h0_side, .ref h0_from, .ref h0_width, .ref h0_height, .ref h0_radius, .ref h0_toolSet])), (h0_toolSet, .inl (g.2.1.1, 9, .inl f_h0_toolSet))] → va_S A s.heap H locs → lv_has ls 4 [(0, .ref h0), (1, .int x1), (2, .int v183), (3, .int v184)] → W p l e rm_kX4_needsTools s m args below meth c H locs 0 0 Q (F0 m 4 ls []) := by
    intro n211
    induction n211 with
    | zero => intro v183 v184 H locs ls i213 i214 hm215; exact absurd hm215 (Nat.not_lt_zero _)
    | succ n211 ih212 =>
      intro v183 v184 H locs ls i213 i214 hm215 hP hD hS hl
      refine lv_iload_n hx hb dX4_needsTools_4 rfl (lv_at hl 3 rfl) ?_
      refine lv_aload_n hx hb dX4_needsTools_5 rfl (lv_at hl 0 rfl) ?_
      refine va_get (D := g.1) (ci := 4) (v := .int h0_count) (C := RX4) (T := TX4) (N := 16) hx hb hG iX4 hown hX.1 hP 0 rfl rfl 0 (by decide) (hG _ wf_X4_42) (fun _ h9 => h9) rfl dX4_needsTools_6 ?_
      refine lv_icmp_ge (tgt := 43) hx hb dX4_needsTools_9 (by decide) (fun c216 => ?_) (fun c216 => ?_)
      · skip
        have c216i : h0_count.toInt ≤ v184.toInt := (zc_le (rfl : h0_count.toInt = _) (rfl : v184.toInt = _)).mp c216
        refine lv_iload_n hx hb dX4_needsTools_43 rfl (lv_at hl 2 rfl) ?_
        exact hret v183 () (Nat.le_of_ble_eq_true rfl) (Nat.le_of_ble_eq_true rfl) (z01 (rfl : v183.toInt = _) (ox_33 i213)) (ox_33 i213) hP hD hS dX4_needsTools_44
      · skip
        have c216i : ¬ (h0_count.toInt ≤ v184.toInt) := fun q => c216 ((zc_le (rfl : h0_count.toInt = _) (rfl : v184.toInt = _)).mpr q)
        refine lv_iload_n hx hb dX4_needsTools_12 rfl (lv_at hl 2 rfl) ?_
        refine lv_aload_n hx hb dX4_needsTools_13 rfl (lv_at hl 0 rfl) ?_
        refine va_get (D := g.1) (ci := 4) (v := .ref h0_toolSet) (C := RX4) (T := TX4) (N := 16) hx hb hG iX4 hown hX.1 hP 0 rfl rfl 15 (by decide) (hG _ wf_X4_39) (fun _ h9 => h9) rfl dX4_needsTools_14 ?_
        refine lv_iload_n hx hb dX4_needsTools_17 rfl (lv_at hl 3 rfl) ?_
        refine va_iald hx hb hX.1 hP 1 0 rfl rfl (zin (rfl : v184.toInt = _) (ox_34 c216i hy0 i214)) dX4_needsTools_18 ?_
        refine lv_topi (fun z217 e218 => ?_)
        have J224 : ∀  (v223 : Int32) (H : Heap) (locs : List Loc) (ls : Array Slot), 0 ≤ v223.toInt ∧ v223.toInt ≤ 1 → va_P g.1 vwCl [(h0, .inr (4, [.int h0_count, .int h0_statements, .int h0_thick, .int h0_punch, .int h0_ups, .int h0_toolCount, .ref h0_toolWidth, .ref h0_told, .ref h0_name, .ref h0_parent, .ref h0_side, .ref h0_from, .ref h0_width, .ref h0_height, .ref h0_radius, .ref h0_toolSet])), (h0_toolSet, .inl (g.2.1.1, 9, .inl f_h0_toolSet))] H → va_D A [(h0, .inr (4, [.int h0_count, .int h0_statements, .int h0_thick, .int h0_punch, .int h0_ups, .int h0_toolCount, .ref h0_toolWidth, .ref h0_told, .ref h0_name, .ref h0_parent, .ref h0_side, .ref h0_from, .ref h0_width, .ref h0_height, .ref h0_radius, .ref h0_toolSet])), (h0_toolSet, .inl (g.2.1.1, 9, .inl f_h0_toolSet))] → va_S A s.heap H locs → lv_has ls 4 [(0, .ref h0), (1, .int x1), (2, .int v183), (3, .int v184)] → W p l e rm_kX4_needsTools s m args below meth c H locs 0 0 Q (F0 m 35 ls [.int v223, .int v183]) := by
          intro v223 H locs ls i225 hP hD hS hl
          refine lv_ior hx hb dX4_needsTools_35 ?_
          refine lv_topi (fun z226 e227 => ?_)
          have f228 : 0 ≤ z226.toInt ∧ z226.toInt < 2 := zor 1 e227 (rfl : v183.toInt = _) (rfl : v223.toInt = _) (by decide) (ox_35 i213 i225)
          refine lv_istore_n (lv' := [(2, .int z226), (0, .ref h0), (1, .int x1), (3, .int v184)]) hx hb dX4_needsTools_36 rfl hl (by decide) rfl (fun ls hl => ?_)
          obtain ⟨z229, e230⟩ : ∃ y9 : Int32, y9 = v184 + 1 := ⟨_, rfl⟩
          have f231 : z229.toInt = v184.toInt + 1 := za e230 (rfl : v184.toInt = _) (show (1 : Int32).toInt = (1 : Int) from by decide) (ox_17 (zr h0_count) (zr v184) c216i hy0 i214)
          refine lv_iinc (v := z229) (lv' := [(3, .int z229), (2, .int z226), (0, .ref h0), (1, .int x1)]) hx hb dX4_needsTools_37 hl (k := 3) rfl (by rw [e230]; rfl) (by decide) rfl (fun ls hl => ?_)
          refine lv_goto (tgt := 4) hx hb dX4_needsTools_40 (by decide) ?_
          exact ih212 z226 z229 H locs ls (ox_36 f228) (ox_18 c216i f231 hy0 i214) (zdec hm215 (ox_19 c216i f231 hy0 i214)) hP hD hS (lv_sub hl [2, 3, 1, 0] rfl)
        have J236 : ∀  (H : Heap) (locs : List Loc) (ls : Array Slot), va_P g.1 vwCl [(h0, .inr (4, [.int h0_count, .int h0_statements, .int h0_thick, .int h0_punch, .int h0_ups, .int h0_toolCount, .ref h0_toolWidth, .ref h0_told, .ref h0_name, .ref h0_parent, .ref h0_side, .ref h0_from, .ref h0_width, .ref h0_height, .ref h0_radius, .ref h0_toolSet])), (h0_toolSet, .inl (g.2.1.1, 9, .inl f_h0_toolSet))] H → va_D A [(h0, .inr (4, [.int h0_count, .int h0_statements, .int h0_thick, .int h0_punch, .int h0_ups, .int h0_toolCount, .ref h0_toolWidth, .ref h0_told, .ref h0_name, .ref h0_parent, .ref h0_side, .ref h0_from, .ref h0_width, .ref h0_height, .ref h0_radius, .ref h0_toolSet])), (h0_toolSet, .inl (g.2.1.1, 9, .inl f_h0_toolSet))] → va_S A s.heap H locs → lv_has ls 4 [(0, .ref h0), (1, .int x1), (2, .int v183), (3, .int v184)] → W p l e rm_kX4_needsTools s m args below meth c H locs 0 0 Q (F0 m 34 ls [.int v183]) := by
          intro  H locs ls  hP hD hS hl
          refine lv_iconst (v := 0) hx hb dX4_needsTools_34 (by decide) ?_
          exact J224 (0 : Int32) H locs ls ((show 0 ≤ (0 : Int) ∧ (0 : Int) ≤ 1 from by decide)) hP hD hS (lv_sub hl [0, 1, 2, 3] rfl)
        refine lv_if_ne (tgt := 34) hx hb dX4_needsTools_19 (by decide) (fun c237 => ?_) (fun c237 => ?_)
        · skip
          have c237i : ¬ (z217.toInt = (0 : Int)) := fun q => c237 ((zc_eq (rfl : z217.toInt = _) (show (0 : Int32).toInt = (0 : Int) from by decide)).mpr q)
          exact J236 H locs ls  hP hD hS (lv_sub hl [0, 1, 2, 3] rfl)
        · skip
          have c237i : z217.toInt = (0 : Int) := (zc_eq (rfl : z217.toInt = _) (show (0 : Int32).toInt = (0 : Int) from by decide)).mp c237
          refine lv_iload_n hx hb dX4_needsTools_22 rfl (lv_at hl 3 rfl) ?_
          refine lv_iload_n hx hb dX4_needsTools_23 rfl (lv_at hl 1 rfl) ?_
          refine zfi (wr := [(h0, .inr (4, [.int h0_count, .int h0_statements, .int h0_thick, .int h0_punch, .int h0_ups, .int h0_toolCount, .ref h0_toolWidth, .ref h0_told, .ref h0_name, .ref h0_parent, .ref h0_side, .ref h0_from, .ref h0_width, .ref h0_height, .ref h0_radius, .ref h0_toolSet])), (h0_toolSet, .inl (g.2.1.1, 9, .inl f_h0_toolSet))]) (va_runSN (As := [.int v184, .int x1]) (rest := [.int v183]) ⟨hx, hb, hml, hown, hG⟩ (kX8_isIn l g v184 x1 _) ⟨va_cnB 2 hG (zGood wc_X8_isIn) rfl rfl rfl (hX.2.1.ml wmn_X4_114) (hG _ wini_X8) hX8_isIn ⟨Nat.le_of_ble_eq_true rfl, Nat.le_of_ble_eq_true rfl⟩, hG _ ws_X8_isIn, trivial⟩ (zpreS hX hP hD hS hA [] rfl (by decide)) rfl rfl hl.1 rfl (lv_room (Nat.le_of_ble_eq_true rfl)) dX4_needsTools_24 ⟨Nat.le_of_ble_eq_true rfl, Nat.le_of_ble_eq_true rfl⟩) hP hD hS hA [] [0, 1] rfl rfl (by decide) (by decide) (fun r238 _ H locs hp hP hD hS => ?_)
          refine W.cs (cells' := 0) (slots' := 0) rfl rfl ?_
          have hq239 : 0 ≤ r238.toInt ∧ r238.toInt ≤ 1 := hp
          have hP : va_P g.1 vwCl [(h0, .inr (4, [.int h0_count, .int h0_statements, .int h0_thick, .int h0_punch, .int h0_ups, .int h0_toolCount, .ref h0_toolWidth, .ref h0_told, .ref h0_name, .ref h0_parent, .ref h0_side, .ref h0_from, .ref h0_width, .ref h0_height, .ref h0_radius, .ref h0_toolSet])), (h0_toolSet, .inl (g.2.1.1, 9, .inl f_h0_toolSet))] H := hP
          have hD : va_D A [(h0, .inr (4, [.int h0_count, .int h0_statements, .int h0_thick, .int h0_punch, .int h0_ups, .int h0_toolCount, .ref h0_toolWidth, .ref h0_told, .ref h0_name, .ref h0_parent, .ref h0_side, .ref h0_from, .ref h0_width, .ref h0_height, .ref h0_radius, .ref h0_toolSet])), (h0_toolSet, .inl (g.2.1.1, 9, .inl f_h0_toolSet))] := hD
          refine lv_if_ne (tgt := 34) hx hb dX4_needsTools_27 (by decide) (fun c240 => ?_) (fun c240 => ?_)
          · skip
            have c240i : ¬ (r238.toInt = (0 : Int)) := fun q => c240 ((zc_eq (rfl : r238.toInt = _) (show (0 : Int32).toInt = (0 : Int) from by decide)).mpr q)
            exact J236 H locs ls  hP hD hS (lv_sub hl [0, 1, 2, 3] rfl)
          · skip
            have c240i : r238.toInt = (0 : Int) := (zc_eq (rfl : r238.toInt = _) (show (0 : Int32).toInt = (0 : Int) from by decide)).mp c240
            refine lv_iconst (v := 1) hx hb dX4_needsTools_30 (by decide) ?_
            refine lv_goto (tgt := 35) hx hb dX4_needsTools_31 (by decide) ?_
            exact J224 (1 : Int32) H locs ls ((show 0 ≤ (1 : Int) ∧ (1 : Int) ≤ 1 from by decide)) hP hD hS (lv_sub hl [0, 1, 2, 3] rfl)
  exact L210 _ (0 : Int32) (1 : Int32) _ _ ls ((show 0 ≤ (0 : Int) ∧ (0 : Int) ≤ 1 from by decide)) ((show 1 ≤ (1 : Int) ∧ (1 : Int) ≤ 9 from by decide)) (Nat.lt_succ_self _) hP hD hS (lv_sub hl [2, 3, 1, 0] rfl)
theorem dX4_leastWidthWithoutTools_0 : decode cX4_leastWidthWithoutTools 0 = .ok (.iconst (-1), 1) := by decide +kernel
theorem dX4_leastWidthWithoutTools_1 : decode cX4_leastWidthWithoutTools 1 = .ok (.istore_n 1, 1) := by decide +kernel
theorem dX4_leastWidthWithoutTools_2 : decode cX4_leastWidthWithoutTools 2 = .ok (.iconst 1, 1) := by decide +kernel
theorem dX4_leastWidthWithoutTools_3 : decode cX4_leastWidthWithoutTools 3 = .ok (.istore_n 2, 1) := by decide +kernel
theorem dX4_leastWidthWithoutTools_4 : decode cX4_leastWidthWithoutTools 4 = .ok (.iload_n 2, 1) := by decide +kernel
theorem dX4_leastWidthWithoutTools_5 : decode cX4_leastWidthWithoutTools 5 = .ok (.aload_n 0, 1) := by decide +kernel
theorem dX4_leastWidthWithoutTools_6 : decode cX4_leastWidthWithoutTools 6 = .ok (.getfield 42, 3) := by decide +kernel
theorem dX4_leastWidthWithoutTools_9 : decode cX4_leastWidthWithoutTools 9 = .ok (.if_icmp .ge 40, 3) := by decide +kernel
theorem dX4_leastWidthWithoutTools_49 : decode cX4_leastWidthWithoutTools 49 = .ok (.iload_n 1, 1) := by decide +kernel
theorem dX4_leastWidthWithoutTools_50 : decode cX4_leastWidthWithoutTools 50 = .ok (.ireturn, 1) := by decide +kernel
theorem dX4_leastWidthWithoutTools_12 : decode cX4_leastWidthWithoutTools 12 = .ok (.aload_n 0, 1) := by decide +kernel
theorem dX4_leastWidthWithoutTools_13 : decode cX4_leastWidthWithoutTools 13 = .ok (.getfield 39, 3) := by decide +kernel
theorem dX4_leastWidthWithoutTools_16 : decode cX4_leastWidthWithoutTools 16 = .ok (.iload_n 2, 1) := by decide +kernel
theorem dX4_leastWidthWithoutTools_17 : decode cX4_leastWidthWithoutTools 17 = .ok (.iaload, 1) := by decide +kernel
theorem dX4_leastWidthWithoutTools_43 : decode cX4_leastWidthWithoutTools 43 = .ok (.iinc 2 1, 3) := by decide +kernel
theorem dX4_leastWidthWithoutTools_46 : decode cX4_leastWidthWithoutTools 46 = .ok (.goto (-42), 3) := by decide +kernel
theorem dX4_leastWidthWithoutTools_18 : decode cX4_leastWidthWithoutTools 18 = .ok (.ifCond .ne 25, 3) := by decide +kernel
theorem dX4_leastWidthWithoutTools_21 : decode cX4_leastWidthWithoutTools 21 = .ok (.iload_n 1, 1) := by decide +kernel
theorem dX4_leastWidthWithoutTools_22 : decode cX4_leastWidthWithoutTools 22 = .ok (.iconst (-1), 1) := by decide +kernel
theorem dX4_leastWidthWithoutTools_36 : decode cX4_leastWidthWithoutTools 36 = .ok (.aload_n 0, 1) := by decide +kernel
theorem dX4_leastWidthWithoutTools_37 : decode cX4_leastWidthWithoutTools 37 = .ok (.getfield 30, 3) := by decide +kernel
theorem dX4_leastWidthWithoutTools_40 : decode cX4_leastWidthWithoutTools 40 = .ok (.iload_n 2, 1) := by decide +kernel
theorem dX4_leastWidthWithoutTools_41 : decode cX4_leastWidthWithoutTools 41 = .ok (.iaload, 1) := by decide +kernel
theorem dX4_leastWidthWithoutTools_42 : decode cX4_leastWidthWithoutTools 42 = .ok (.istore_n 1, 1) := by decide +kernel
theorem dX4_leastWidthWithoutTools_23 : decode cX4_leastWidthWithoutTools 23 = .ok (.if_icmp .eq 13, 3) := by decide +kernel
theorem dX4_leastWidthWithoutTools_26 : decode cX4_leastWidthWithoutTools 26 = .ok (.aload_n 0, 1) := by decide +kernel
theorem dX4_leastWidthWithoutTools_27 : decode cX4_leastWidthWithoutTools 27 = .ok (.getfield 30, 3) := by decide +kernel
theorem dX4_leastWidthWithoutTools_30 : decode cX4_leastWidthWithoutTools 30 = .ok (.iload_n 2, 1) := by decide +kernel
theorem dX4_leastWidthWithoutTools_31 : decode cX4_leastWidthWithoutTools 31 = .ok (.iaload, 1) := by decide +kernel
theorem dX4_leastWidthWithoutTools_32 : decode cX4_leastWidthWithoutTools 32 = .ok (.iload_n 1, 1) := by decide +kernel
theorem dX4_leastWidthWithoutTools_33 : decode cX4_leastWidthWithoutTools 33 = .ok (.if_icmp .ge 10, 3) := by decide +kernel
abbrev rm_kX4_leastWidthWithoutTools : Room := { frames := 0, cells := 0, slots := 0, locals := 0 }
set_option maxHeartbeats 4000000 in
set_option maxRecDepth 100000 in
theorem kX4_leastWidthWithoutTools (l : Launch) (g : zL) (h0 : Nat) (h0_count : Int32) (h0_statements : Int32) (h0_thick : Int32) (h0_punch : Int32) (h0_ups : Int32) (h0_toolCount : Int32) (h0_toolWidth : Nat) (h0_told : Nat) (h0_name : Nat) (h0_parent : Nat) (h0_side : Nat) (h0_from : Nat) (h0_width : Nat) (h0_height : Nat) (h0_radius : Nat) (h0_toolSet : Nat) (f_h0_toolSet : Nat → Int32) (f_h0_width : Nat → Int32) (hy0 : 0 ≤ h0_count.toInt ∧ h0_count.toInt ≤ 9) (hy1 : 0 ≤ h0_toolCount.toInt ∧ h0_toolCount.toInt ≤ 8) : zCi l g yX4_leastWidthWithoutTools cX4_leastWidthWithoutTools 3 (some .int) rm_kX4_leastWidthWithoutTools [.ref h0] [(h0, .inr (4, [.int h0_count, .int h0_statements, .int h0_thick, .int h0_punch, .int h0_ups, .int h0_toolCount, .ref h0_toolWidth, .ref h0_told, .ref h0_name, .ref h0_parent, .ref h0_side, .ref h0_from, .ref h0_width, .ref h0_height, .ref h0_radius, .ref h0_toolSet])), (h0_toolSet, .inl (g.2.1.1, 9, .inl f_h0_toolSet)), (h0_width, .inl (g.2.1.1, 9, .inl f_h0_width))] (fun (r : Int32) (u : Unit) => True) (fun (u : Unit) => [(h0, .inr (4, [.int h0_count, .int h0_statements, .int h0_thick, .int h0_punch, .int h0_ups, .int h0_toolCount, .ref h0_toolWidth, .ref h0_told, .ref h0_name, .ref h0_parent, .ref h0_side, .ref h0_from, .ref h0_width, .ref h0_height, .ref h0_radius, .ref h0_toolSet])), (h0_toolSet, .inl (g.2.1.1, 9, .inl f_h0_toolSet)), (h0_width, .inl (g.2.1.1, 9, .inl f_h0_width))]) := by
  refine zCi.mk2 (by decide) (Nat.le_of_ble_eq_true rfl) ?_
  intro p e s m below meth c A args Q hE hret hP hD hS ls hl
  obtain ⟨hx, hb, hr, hml, hown, hG, hlocks, hnm, hX, hA⟩ := hE
  have hown : s.vm.findClass RX4 = some m.cls := hown
  have hl : lv_has ls 3 [(0, .ref h0)] := hl
  refine lv_iconst (v := (-1)) hx hb dX4_leastWidthWithoutTools_0 (by decide) ?_
  refine lv_istore_n (lv' := [(1, .int (-1)), (0, .ref h0)]) hx hb dX4_leastWidthWithoutTools_1 rfl hl (by decide) rfl (fun ls hl => ?_)
  refine lv_iconst (v := 1) hx hb dX4_leastWidthWithoutTools_2 (by decide) ?_
  refine lv_istore_n (lv' := [(2, .int 1), (1, .int (-1)), (0, .ref h0)]) hx hb dX4_leastWidthWithoutTools_3 rfl hl (by decide) rfl (fun ls hl => ?_)
  have L239 : ∀ (n : Nat) (v207 : Int32) (v208 : Int32) (H : Heap) (locs : List Loc) (ls : Array Slot), 1 ≤ v208.toInt ∧ v208.toInt ≤ 9 → (10 - v208.toInt).toNat < n → va_P g.1 vwCl [(h0, .inr (4, [.int h0_count, .int h0_statements, .int h0_thick, .int h0_punch, .int h0_ups, .int h0_toolCount, .ref h0_toolWidth, .ref h0_told, .ref h0_name, .ref h0_parent, .ref h0_side, .ref h0_from, .ref h0_width, .ref h0_height, .ref h0_radius, .ref h0_toolSet])), (h0_toolSet, .inl (g.2.1.1, 9, .inl f_h0_toolSet)), (h0_width, .inl (g.2.1.1, 9, .inl f_h0_width))] H → va_D A [(h0, .inr (4, [.int h0_count, .int h0_statements, .int h0_thick, .int h0_punch, .int h0_ups, .int h0_toolCount, .ref h0_toolWidth, .ref h0_told, .ref h0_name, .ref h0_parent, .ref h0_side, .ref h0_from, .ref h0_width, .ref h0_height, .ref h0_radius, .ref h0_toolSet])), (h0_toolSet, .inl (g.2.1.1, 9, .inl f_h0_toolSet)), (h0_width, .inl (g.2.1.1, 9, .inl f_h0_width))] → va_S A s.heap H locs → lv_has ls 3 [(0, .ref h0), (1, .int v207), (2, .int v208)] → W p l e rm_kX4_leastWidthWithoutTools s m args below meth c H locs 0 0 Q (F0 m 4 ls []) := by
    intro n240
    induction n240 with
    | zero => intro v207 v208 H locs ls i242 hm243; exact absurd hm243 (Nat.not_lt_zero _)
    | succ n240 ih241 =>
      intro v207 v208 H locs ls i242 hm243 hP hD hS hl
      refine lv_iload_n hx hb dX4_leastWidthWithoutTools_4 rfl (lv_at hl 2 rfl) ?_
      refine lv_aload_n hx hb dX4_leastWidthWithoutTools_5 rfl (lv_at hl 0 rfl) ?_
      refine va_get (D := g.1) (ci := 4) (v := .int h0_count) (C := RX4) (T := TX4) (N := 16) hx hb hG iX4 hown hX.1 hP 0 rfl rfl 0 (by decide) (hG _ wf_X4_42) (fun _ h9 => h9) rfl dX4_leastWidthWithoutTools_6 ?_
      refine lv_icmp_ge (tgt := 49) hx hb dX4_leastWidthWithoutTools_9 (by decide) (fun c244 => ?_) (fun c244 => ?_)
      · skip
        have c244i : h0_count.toInt ≤ v208.toInt := (zc_le (rfl : h0_count.toInt = _) (rfl : v208.toInt = _)).mp c244
        refine lv_iload_n hx hb dX4_leastWidthWithoutTools_49 rfl (lv_at hl 1 rfl) ?_
        exact hret v207 () (Nat.le_of_ble_eq_true rfl) (Nat.le_of_ble_eq_true rfl) rfl trivial hP hD hS dX4_leastWidthWithoutTools_50
      · skip
        have c244i : ¬ (h0_count.toInt ≤ v208.toInt) := fun q => c244 ((zc_le (rfl : h0_count.toInt = _) (rfl : v208.toInt = _)).mpr q)
        refine lv_aload_n hx hb dX4_leastWidthWithoutTools_12 rfl (lv_at hl 0 rfl) ?_
        refine va_get (D := g.1) (ci := 4) (v := .ref h0_toolSet) (C := RX4) (T := TX4) (N := 16) hx hb hG iX4 hown hX.1 hP 0 rfl rfl 15 (by decide) (hG _ wf_X4_39) (fun _ h9 => h9) rfl dX4_leastWidthWithoutTools_13 ?_
        refine lv_iload_n hx hb dX4_leastWidthWithoutTools_16 rfl (lv_at hl 2 rfl) ?_
        refine va_iald hx hb hX.1 hP 1 0 rfl rfl (zin (rfl : v208.toInt = _) (ox_34 c244i hy0 i242)) dX4_leastWidthWithoutTools_17 ?_
        refine lv_topi (fun z245 e246 => ?_)
        have J259 : ∀  (v258 : Int32) (H : Heap) (locs : List Loc) (ls : Array Slot), va_P g.1 vwCl [(h0, .inr (4, [.int h0_count, .int h0_statements, .int h0_thick, .int h0_punch, .int h0_ups, .int h0_toolCount, .ref h0_toolWidth, .ref h0_told, .ref h0_name, .ref h0_parent, .ref h0_side, .ref h0_from, .ref h0_width, .ref h0_height, .ref h0_radius, .ref h0_toolSet])), (h0_toolSet, .inl (g.2.1.1, 9, .inl f_h0_toolSet)), (h0_width, .inl (g.2.1.1, 9, .inl f_h0_width))] H → va_D A [(h0, .inr (4, [.int h0_count, .int h0_statements, .int h0_thick, .int h0_punch, .int h0_ups, .int h0_toolCount, .ref h0_toolWidth, .ref h0_told, .ref h0_name, .ref h0_parent, .ref h0_side, .ref h0_from, .ref h0_width, .ref h0_height, .ref h0_radius, .ref h0_toolSet])), (h0_toolSet, .inl (g.2.1.1, 9, .inl f_h0_toolSet)), (h0_width, .inl (g.2.1.1, 9, .inl f_h0_width))] → va_S A s.heap H locs → lv_has ls 3 [(0, .ref h0), (1, .int v258), (2, .int v208)] → W p l e rm_kX4_leastWidthWithoutTools s m args below meth c H locs 0 0 Q (F0 m 43 ls []) := by
          intro v258 H locs ls  hP hD hS hl
          obtain ⟨z260, e261⟩ : ∃ y9 : Int32, y9 = v208 + 1 := ⟨_, rfl⟩
          have f262 : z260.toInt = v208.toInt + 1 := za e261 (rfl : v208.toInt = _) (show (1 : Int32).toInt = (1 : Int) from by decide) (ox_17 (zr h0_count) (zr v208) c244i hy0 i242)
          refine lv_iinc (v := z260) (lv' := [(2, .int z260), (0, .ref h0), (1, .int v258)]) hx hb dX4_leastWidthWithoutTools_43 hl (k := 2) rfl (by rw [e261]; rfl) (by decide) rfl (fun ls hl => ?_)
          refine lv_goto (tgt := 4) hx hb dX4_leastWidthWithoutTools_46 (by decide) ?_
          exact ih241 v258 z260 H locs ls (ox_18 c244i f262 hy0 i242) (zdec hm243 (ox_19 c244i f262 hy0 i242)) hP hD hS (lv_sub hl [1, 2, 0] rfl)
        refine lv_if_ne (tgt := 43) hx hb dX4_leastWidthWithoutTools_18 (by decide) (fun c263 => ?_) (fun c263 => ?_)
        · skip
          have c263i : ¬ (z245.toInt = (0 : Int)) := fun q => c263 ((zc_eq (rfl : z245.toInt = _) (show (0 : Int32).toInt = (0 : Int) from by decide)).mpr q)
          exact J259 v207 H locs ls  hP hD hS (lv_sub hl [0, 1, 2] rfl)
        · skip
          have c263i : z245.toInt = (0 : Int) := (zc_eq (rfl : z245.toInt = _) (show (0 : Int32).toInt = (0 : Int) from by decide)).mp c263
          refine lv_iload_n hx hb dX4_leastWidthWithoutTools_21 rfl (lv_at hl 1 rfl) ?_
          refine lv_iconst (v := (-1)) hx hb dX4_leastWidthWithoutTools_22 (by decide) ?_
          have J268 : ∀  (H : Heap) (locs : List Loc) (ls : Array Slot), va_P g.1 vwCl [(h0, .inr (4, [.int h0_count, .int h0_statements, .int h0_thick, .int h0_punch, .int h0_ups, .int h0_toolCount, .ref h0_toolWidth, .ref h0_told, .ref h0_name, .ref h0_parent, .ref h0_side, .ref h0_from, .ref h0_width, .ref h0_height, .ref h0_radius, .ref h0_toolSet])), (h0_toolSet, .inl (g.2.1.1, 9, .inl f_h0_toolSet)), (h0_width, .inl (g.2.1.1, 9, .inl f_h0_width))] H → va_D A [(h0, .inr (4, [.int h0_count, .int h0_statements, .int h0_thick, .int h0_punch, .int h0_ups, .int h0_toolCount, .ref h0_toolWidth, .ref h0_told, .ref h0_name, .ref h0_parent, .ref h0_side, .ref h0_from, .ref h0_width, .ref h0_height, .ref h0_radius, .ref h0_toolSet])), (h0_toolSet, .inl (g.2.1.1, 9, .inl f_h0_toolSet)), (h0_width, .inl (g.2.1.1, 9, .inl f_h0_width))] → va_S A s.heap H locs → lv_has ls 3 [(0, .ref h0), (1, .int v207), (2, .int v208)] → W p l e rm_kX4_leastWidthWithoutTools s m args below meth c H locs 0 0 Q (F0 m 36 ls []) := by
            intro  H locs ls  hP hD hS hl
            refine lv_aload_n hx hb dX4_leastWidthWithoutTools_36 rfl (lv_at hl 0 rfl) ?_
            refine va_get (D := g.1) (ci := 4) (v := .ref h0_width) (C := RX4) (T := TX4) (N := 16) hx hb hG iX4 hown hX.1 hP 0 rfl rfl 12 (by decide) (hG _ wf_X4_30) (fun _ h9 => h9) rfl dX4_leastWidthWithoutTools_37 ?_
            refine lv_iload_n hx hb dX4_leastWidthWithoutTools_40 rfl (lv_at hl 2 rfl) ?_
            refine va_iald hx hb hX.1 hP 2 0 rfl rfl (zin (rfl : v208.toInt = _) (ox_34 c244i hy0 i242)) dX4_leastWidthWithoutTools_41 ?_
            refine lv_topi (fun z269 e270 => ?_)
            refine lv_istore_n (lv' := [(1, .int z269), (0, .ref h0), (2, .int v208)]) hx hb dX4_leastWidthWithoutTools_42 rfl hl (by decide) rfl (fun ls hl => ?_)
            exact J259 z269 H locs ls  hP hD hS (lv_sub hl [1, 0, 2] rfl)
          refine lv_icmp_eq (tgt := 36) hx hb dX4_leastWidthWithoutTools_23 (by decide) (fun c271 => ?_) (fun c271 => ?_)
          · skip
            have c271i : v207.toInt = (-1 : Int) := (zc_eq (rfl : v207.toInt = _) (show (-1 : Int32).toInt = (-1 : Int) from by decide)).mp c271
            exact J268 H locs ls  hP hD hS (lv_sub hl [0, 1, 2] rfl)
          · skip
            have c271i : ¬ (v207.toInt = (-1 : Int)) := fun q => c271 ((zc_eq (rfl : v207.toInt = _) (show (-1 : Int32).toInt = (-1 : Int) from by decide)).mpr q)
            refine lv_aload_n hx hb dX4_leastWidthWithoutTools_26 rfl (lv_at hl 0 rfl) ?_
            refine va_get (D := g.1) (ci := 4) (v := .ref h0_width) (C := RX4) (T := TX4) (N := 16) hx hb hG iX4 hown hX.1 hP 0 rfl rfl 12 (by decide) (hG _ wf_X4_30) (fun _ h9 => h9) rfl dX4_leastWidthWithoutTools_27 ?_
            refine lv_iload_n hx hb dX4_leastWidthWithoutTools_30 rfl (lv_at hl 2 rfl) ?_
            refine va_iald hx hb hX.1 hP 2 0 rfl rfl (zin (rfl : v208.toInt = _) (ox_34 c244i hy0 i242)) dX4_leastWidthWithoutTools_31 ?_
            refine lv_topi (fun z272 e273 => ?_)
            refine lv_iload_n hx hb dX4_leastWidthWithoutTools_32 rfl (lv_at hl 1 rfl) ?_
            refine lv_icmp_ge (tgt := 43) hx hb dX4_leastWidthWithoutTools_33 (by decide) (fun c274 => ?_) (fun c274 => ?_)
            · skip
              have c274i : v207.toInt ≤ z272.toInt := (zc_le (rfl : v207.toInt = _) (rfl : z272.toInt = _)).mp c274
              exact J259 v207 H locs ls  hP hD hS (lv_sub hl [0, 1, 2] rfl)
            · skip
              have c274i : ¬ (v207.toInt ≤ z272.toInt) := fun q => c274 ((zc_le (rfl : v207.toInt = _) (rfl : z272.toInt = _)).mpr q)
              exact J268 H locs ls  hP hD hS (lv_sub hl [0, 1, 2] rfl)
  exact L239 _ (-1 : Int32) (1 : Int32) _ _ ls ((show 1 ≤ (1 : Int) ∧ (1 : Int) ≤ 9 from by decide)) (Nat.lt_succ_self _) hP hD hS (lv_sub hl [2, 1, 0] rfl)
theorem dX4_countWithoutTools_0 : decode cX4_countWithoutTools 0 = .ok (.iconst 0, 1) := by decide +kernel
theorem dX4_countWithoutTools_1 : decode cX4_countWithoutTools 1 = .ok (.istore_n 1, 1) := by decide +kernel
theorem dX4_countWithoutTools_2 : decode cX4_countWithoutTools 2 = .ok (.iconst 1, 1) := by decide +kernel
theorem dX4_countWithoutTools_3 : decode cX4_countWithoutTools 3 = .ok (.istore_n 2, 1) := by decide +kernel
theorem dX4_countWithoutTools_4 : decode cX4_countWithoutTools 4 = .ok (.iload_n 2, 1) := by decide +kernel
theorem dX4_countWithoutTools_5 : decode cX4_countWithoutTools 5 = .ok (.aload_n 0, 1) := by decide +kernel
theorem dX4_countWithoutTools_6 : decode cX4_countWithoutTools 6 = .ok (.getfield 42, 3) := by decide +kernel
theorem dX4_countWithoutTools_9 : decode cX4_countWithoutTools 9 = .ok (.if_icmp .ge 21, 3) := by decide +kernel
theorem dX4_countWithoutTools_30 : decode cX4_countWithoutTools 30 = .ok (.iload_n 1, 1) := by decide +kernel
theorem dX4_countWithoutTools_31 : decode cX4_countWithoutTools 31 = .ok (.ireturn, 1) := by decide +kernel
theorem dX4_countWithoutTools_12 : decode cX4_countWithoutTools 12 = .ok (.aload_n 0, 1) := by decide +kernel
theorem dX4_countWithoutTools_13 : decode cX4_countWithoutTools 13 = .ok (.getfield 39, 3) := by decide +kernel
theorem dX4_countWithoutTools_16 : decode cX4_countWithoutTools 16 = .ok (.iload_n 2, 1) := by decide +kernel
theorem dX4_countWithoutTools_17 : decode cX4_countWithoutTools 17 = .ok (.iaload, 1) := by decide +kernel
theorem dX4_countWithoutTools_24 : decode cX4_countWithoutTools 24 = .ok (.iinc 2 1, 3) := by decide +kernel
theorem dX4_countWithoutTools_27 : decode cX4_countWithoutTools 27 = .ok (.goto (-23), 3) := by decide +kernel
theorem dX4_countWithoutTools_18 : decode cX4_countWithoutTools 18 = .ok (.ifCond .ne 6, 3) := by decide +kernel
theorem dX4_countWithoutTools_21 : decode cX4_countWithoutTools 21 = .ok (.iinc 1 1, 3) := by decide +kernel
abbrev rm_kX4_countWithoutTools : Room := { frames := 0, cells := 0, slots := 0, locals := 0 }
set_option maxHeartbeats 4000000 in
set_option maxRecDepth 100000 in
theorem kX4_countWithoutTools (l : Launch) (g : zL) (h0 : Nat) (h0_count : Int32) (h0_statements : Int32) (h0_thick : Int32) (h0_punch : Int32) (h0_ups : Int32) (h0_toolCount : Int32) (h0_toolWidth : Nat) (h0_told : Nat) (h0_name : Nat) (h0_parent : Nat) (h0_side : Nat) (h0_from : Nat) (h0_width : Nat) (h0_height : Nat) (h0_radius : Nat) (h0_toolSet : Nat) (f_h0_toolSet : Nat → Int32) (hy0 : 0 ≤ h0_count.toInt ∧ h0_count.toInt ≤ 9) (hy1 : 0 ≤ h0_toolCount.toInt ∧ h0_toolCount.toInt ≤ 8) : zCi l g yX4_countWithoutTools cX4_countWithoutTools 3 (some .int) rm_kX4_countWithoutTools [.ref h0] [(h0, .inr (4, [.int h0_count, .int h0_statements, .int h0_thick, .int h0_punch, .int h0_ups, .int h0_toolCount, .ref h0_toolWidth, .ref h0_told, .ref h0_name, .ref h0_parent, .ref h0_side, .ref h0_from, .ref h0_width, .ref h0_height, .ref h0_radius, .ref h0_toolSet])), (h0_toolSet, .inl (g.2.1.1, 9, .inl f_h0_toolSet))] (fun (r : Int32) (u : Unit) => True) (fun (u : Unit) => [(h0, .inr (4, [.int h0_count, .int h0_statements, .int h0_thick, .int h0_punch, .int h0_ups, .int h0_toolCount, .ref h0_toolWidth, .ref h0_told, .ref h0_name, .ref h0_parent, .ref h0_side, .ref h0_from, .ref h0_width, .ref h0_height, .ref h0_radius, .ref h0_toolSet])), (h0_toolSet, .inl (g.2.1.1, 9, .inl f_h0_toolSet))]) := by
  refine zCi.mk2 (by decide) (Nat.le_of_ble_eq_true rfl) ?_
  intro p e s m below meth c A args Q hE hret hP hD hS ls hl
  obtain ⟨hx, hb, hr, hml, hown, hG, hlocks, hnm, hX, hA⟩ := hE
  have hown : s.vm.findClass RX4 = some m.cls := hown
  have hl : lv_has ls 3 [(0, .ref h0)] := hl
  refine lv_iconst (v := 0) hx hb dX4_countWithoutTools_0 (by decide) ?_
  refine lv_istore_n (lv' := [(1, .int 0), (0, .ref h0)]) hx hb dX4_countWithoutTools_1 rfl hl (by decide) rfl (fun ls hl => ?_)
  refine lv_iconst (v := 1) hx hb dX4_countWithoutTools_2 (by decide) ?_
  refine lv_istore_n (lv' := [(2, .int 1), (1, .int 0), (0, .ref h0)]) hx hb dX4_countWithoutTools_3 rfl hl (by decide) rfl (fun ls hl => ?_)
  have L153 : ∀ (n : Nat) (v137 : Int32) (v138 : Int32) (H : Heap) (locs : List Loc) (ls : Array Slot), 1 ≤ v138.toInt ∧ v138.toInt ≤ 9 → (10 - v138.toInt).toNat < n → va_P g.1 vwCl [(h0, .inr (4, [.int h0_count, .int h0_statements, .int h0_thick, .int h0_punch, .int h0_ups, .int h0_toolCount, .ref h0_toolWidth, .ref h0_told, .ref h0_name, .ref h0_parent, .ref h0_side, .ref h0_from, .ref h0_width, .ref h0_height, .ref h0_radius, .ref h0_toolSet])), (h0_toolSet, .inl (g.2.1.1, 9, .inl f_h0_toolSet))] H → va_D A [(h0, .inr (4, [.int h0_count, .int h0_statements, .int h0_thick, .int h0_punch, .int h0_ups, .int h0_toolCount, .ref h0_toolWidth, .ref h0_told, .ref h0_name, .ref h0_parent, .ref h0_side, .ref h0_from, .ref h0_width, .ref h0_height, .ref h0_radius, .ref h0_toolSet])), (h0_toolSet, .inl (g.2.1.1, 9, .inl f_h0_toolSet))] → va_S A s.heap H locs → lv_has ls 3 [(0, .ref h0), (1, .int v137), (2, .int v138)] → W p l e rm_kX4_countWithoutTools s m args below meth c H locs 0 0 Q (F0 m 4 ls []) := by
    intro n154
    induction n154 with
    | zero => intro v137 v138 H locs ls i156 hm157; exact absurd hm157 (Nat.not_lt_zero _)
    | succ n154 ih155 =>
      intro v137 v138 H locs ls i156 hm157 hP hD hS hl
      refine lv_iload_n hx hb dX4_countWithoutTools_4 rfl (lv_at hl 2 rfl) ?_
      refine lv_aload_n hx hb dX4_countWithoutTools_5 rfl (lv_at hl 0 rfl) ?_
      refine va_get (D := g.1) (ci := 4) (v := .int h0_count) (C := RX4) (T := TX4) (N := 16) hx hb hG iX4 hown hX.1 hP 0 rfl rfl 0 (by decide) (hG _ wf_X4_42) (fun _ h9 => h9) rfl dX4_countWithoutTools_6 ?_
      refine lv_icmp_ge (tgt := 30) hx hb dX4_countWithoutTools_9 (by decide) (fun c158 => ?_) (fun c158 => ?_)
      · skip
        have c158i : h0_count.toInt ≤ v138.toInt := (zc_le (rfl : h0_count.toInt = _) (rfl : v138.toInt = _)).mp c158
        refine lv_iload_n hx hb dX4_countWithoutTools_30 rfl (lv_at hl 1 rfl) ?_
        exact hret v137 () (Nat.le_of_ble_eq_true rfl) (Nat.le_of_ble_eq_true rfl) rfl trivial hP hD hS dX4_countWithoutTools_31
      · skip
        have c158i : ¬ (h0_count.toInt ≤ v138.toInt) := fun q => c158 ((zc_le (rfl : h0_count.toInt = _) (rfl : v138.toInt = _)).mpr q)
        refine lv_aload_n hx hb dX4_countWithoutTools_12 rfl (lv_at hl 0 rfl) ?_
        refine va_get (D := g.1) (ci := 4) (v := .ref h0_toolSet) (C := RX4) (T := TX4) (N := 16) hx hb hG iX4 hown hX.1 hP 0 rfl rfl 15 (by decide) (hG _ wf_X4_39) (fun _ h9 => h9) rfl dX4_countWithoutTools_13 ?_
        refine lv_iload_n hx hb dX4_countWithoutTools_16 rfl (lv_at hl 2 rfl) ?_
        refine va_iald hx hb hX.1 hP 1 0 rfl rfl (zin (rfl : v138.toInt = _) (ox_34 c158i hy0 i156)) dX4_countWithoutTools_17 ?_
        refine lv_topi (fun z159 e160 => ?_)
        have J165 : ∀  (v164 : Int32) (H : Heap) (locs : List Loc) (ls : Array Slot), va_P g.1 vwCl [(h0, .inr (4, [.int h0_count, .int h0_statements, .int h0_thick, .int h0_punch, .int h0_ups, .int h0_toolCount, .ref h0_toolWidth, .ref h0_told, .ref h0_name, .ref h0_parent, .ref h0_side, .ref h0_from, .ref h0_width, .ref h0_height, .ref h0_radius, .ref h0_toolSet])), (h0_toolSet, .inl (g.2.1.1, 9, .inl f_h0_toolSet))] H → va_D A [(h0, .inr (4, [.int h0_count, .int h0_statements, .int h0_thick, .int h0_punch, .int h0_ups, .int h0_toolCount, .ref h0_toolWidth, .ref h0_told, .ref h0_name, .ref h0_parent, .ref h0_side, .ref h0_from, .ref h0_width, .ref h0_height, .ref h0_radius, .ref h0_toolSet])), (h0_toolSet, .inl (g.2.1.1, 9, .inl f_h0_toolSet))] → va_S A s.heap H locs → lv_has ls 3 [(0, .ref h0), (1, .int v164), (2, .int v138)] → W p l e rm_kX4_countWithoutTools s m args below meth c H locs 0 0 Q (F0 m 24 ls []) := by
          intro v164 H locs ls  hP hD hS hl
          obtain ⟨z166, e167⟩ : ∃ y9 : Int32, y9 = v138 + 1 := ⟨_, rfl⟩
          have f168 : z166.toInt = v138.toInt + 1 := za e167 (rfl : v138.toInt = _) (show (1 : Int32).toInt = (1 : Int) from by decide) (ox_17 (zr h0_count) (zr v138) c158i hy0 i156)
          refine lv_iinc (v := z166) (lv' := [(2, .int z166), (0, .ref h0), (1, .int v164)]) hx hb dX4_countWithoutTools_24 hl (k := 2) rfl (by rw [e167]; rfl) (by decide) rfl (fun ls hl => ?_)
          refine lv_goto (tgt := 4) hx hb dX4_countWithoutTools_27 (by decide) ?_
          exact ih155 v164 z166 H locs ls (ox_18 c158i f168 hy0 i156) (zdec hm157 (ox_19 c158i f168 hy0 i156)) hP hD hS (lv_sub hl [1, 2, 0] rfl)
        refine lv_if_ne (tgt := 24) hx hb dX4_countWithoutTools_18 (by decide) (fun c169 => ?_) (fun c169 => ?_)
        · skip
          have c169i : ¬ (z159.toInt = (0 : Int)) := fun q => c169 ((zc_eq (rfl : z159.toInt = _) (show (0 : Int32).toInt = (0 : Int) from by decide)).mpr q)
          exact J165 v137 H locs ls  hP hD hS (lv_sub hl [0, 1, 2] rfl)
        · skip
          have c169i : z159.toInt = (0 : Int) := (zc_eq (rfl : z159.toInt = _) (show (0 : Int32).toInt = (0 : Int) from by decide)).mp c169
          obtain ⟨z170, e171⟩ : ∃ y9 : Int32, y9 = v137 + 1 := ⟨_, rfl⟩
          refine lv_iinc (v := z170) (lv' := [(1, .int z170), (0, .ref h0), (2, .int v138)]) hx hb dX4_countWithoutTools_21 hl (k := 1) rfl (by rw [e171]; rfl) (by decide) rfl (fun ls hl => ?_)
          exact J165 z170 H locs ls  hP hD hS (lv_sub hl [1, 0, 2] rfl)
  exact L153 _ (0 : Int32) (1 : Int32) _ _ ls ((show 1 ≤ (1 : Int) ∧ (1 : Int) ≤ 9 from by decide)) (Nat.lt_succ_self _) hP hD hS (lv_sub hl [2, 1, 0] rfl)
theorem dX7_hasRoom_0 : decode cX7_hasRoom 0 = .ok (.aload_n 0, 1) := by decide +kernel
theorem dX7_hasRoom_1 : decode cX7_hasRoom 1 = .ok (.getfield 15, 3) := by decide +kernel
theorem dX7_hasRoom_4 : decode cX7_hasRoom 4 = .ok (.sipush 1180, 3) := by decide +kernel
theorem dX7_hasRoom_7 : decode cX7_hasRoom 7 = .ok (.if_icmp .gt 7, 3) := by decide +kernel
theorem dX7_hasRoom_14 : decode cX7_hasRoom 14 = .ok (.iconst 0, 1) := by decide +kernel
theorem dX7_hasRoom_15 : decode cX7_hasRoom 15 = .ok (.ireturn, 1) := by decide +kernel
theorem dX7_hasRoom_10 : decode cX7_hasRoom 10 = .ok (.iconst 1, 1) := by decide +kernel
theorem dX7_hasRoom_11 : decode cX7_hasRoom 11 = .ok (.goto 4, 3) := by decide +kernel
abbrev rm_kX7_hasRoom : Room := { frames := 0, cells := 0, slots := 0, locals := 0 }
set_option maxHeartbeats 4000000 in
set_option maxRecDepth 100000 in
theorem kX7_hasRoom (l : Launch) (g : zL) (h0 : Nat) (h0_bytes : Nat) (h0_length : Int32) (hy0 : 0 ≤ h0_length.toInt ∧ h0_length.toInt ≤ 1200) : zCi l g yX7_hasRoom cX7_hasRoom 1 (some .boolean) rm_kX7_hasRoom [.ref h0] [(h0, .inr (7, [.ref h0_bytes, .int h0_length]))] (fun (r : Int32) (u : Unit) => (0 ≤ r.toInt ∧ r.toInt ≤ 1)) (fun (u : Unit) => [(h0, .inr (7, [.ref h0_bytes, .int h0_length]))]) := by
  refine zCi.mk2 (by decide) (Nat.le_of_ble_eq_true rfl) ?_
  intro p e s m below meth c A args Q hE hret hP hD hS ls hl
  obtain ⟨hx, hb, hr, hml, hown, hG, hlocks, hnm, hX, hA⟩ := hE
  have hown : s.vm.findClass RX7 = some m.cls := hown
  have hl : lv_has ls 1 [(0, .ref h0)] := hl
  refine lv_aload_n hx hb dX7_hasRoom_0 rfl (lv_at hl 0 rfl) ?_
  refine va_get (D := g.1) (ci := 7) (v := .int h0_length) (C := RX7) (T := TX7) (N := 2) hx hb hG iX7 hown hX.1 hP 0 rfl rfl 1 (by decide) (hG _ wf_X7_15) (fun _ h9 => h9) rfl dX7_hasRoom_1 ?_
  refine lv_sipush (v := 1180) hx hb dX7_hasRoom_4 (by decide) ?_
  refine lv_icmp_gt (tgt := 14) hx hb dX7_hasRoom_7 (by decide) (fun c1 => ?_) (fun c1 => ?_)
  · skip
    have c1i : (1180 : Int) < h0_length.toInt := (zc_lt (show (1180 : Int32).toInt = (1180 : Int) from by decide) (rfl : h0_length.toInt = _)).mp c1
    refine lv_iconst (v := 0) hx hb dX7_hasRoom_14 (by decide) ?_
    exact hret (0 : Int32) () (Nat.le_of_ble_eq_true rfl) (Nat.le_of_ble_eq_true rfl) rfl ((show 0 ≤ (0 : Int) ∧ (0 : Int) ≤ 1 from by decide)) hP hD hS dX7_hasRoom_15
  · skip
    have c1i : ¬ ((1180 : Int) < h0_length.toInt) := fun q => c1 ((zc_lt (show (1180 : Int32).toInt = (1180 : Int) from by decide) (rfl : h0_length.toInt = _)).mpr q)
    refine lv_iconst (v := 1) hx hb dX7_hasRoom_10 (by decide) ?_
    refine lv_goto (tgt := 15) hx hb dX7_hasRoom_11 (by decide) ?_
    exact hret (1 : Int32) () (Nat.le_of_ble_eq_true rfl) (Nat.le_of_ble_eq_true rfl) rfl ((show 0 ≤ (1 : Int) ∧ (1 : Int) ≤ 1 from by decide)) hP hD hS dX7_hasRoom_15
theorem dX7_put_0 : decode cX7_put 0 = .ok (.bipush 24, 2) := by decide +kernel
theorem dX7_put_2 : decode cX7_put 2 = .ok (.istore_n 2, 1) := by decide +kernel
theorem dX7_put_3 : decode cX7_put 3 = .ok (.iload_n 2, 1) := by decide +kernel
theorem dX7_put_4 : decode cX7_put 4 = .ok (.ifCond .lt 42, 3) := by decide +kernel
theorem dX7_put_46 : decode cX7_put 46 = .ok (.return_, 1) := by decide +kernel
theorem dX7_put_7 : decode cX7_put 7 = .ok (.aload_n 0, 1) := by decide +kernel
theorem dX7_put_8 : decode cX7_put 8 = .ok (.getfield 15, 3) := by decide +kernel
theorem dX7_put_11 : decode cX7_put 11 = .ok (.sipush 1200, 3) := by decide +kernel
theorem dX7_put_14 : decode cX7_put 14 = .ok (.if_icmp .ge 32, 3) := by decide +kernel
theorem dX7_put_17 : decode cX7_put 17 = .ok (.aload_n 0, 1) := by decide +kernel
theorem dX7_put_18 : decode cX7_put 18 = .ok (.getfield 9, 3) := by decide +kernel
theorem dX7_put_21 : decode cX7_put 21 = .ok (.aload_n 0, 1) := by decide +kernel
theorem dX7_put_22 : decode cX7_put 22 = .ok (.getfield 15, 3) := by decide +kernel
theorem dX7_put_25 : decode cX7_put 25 = .ok (.iload_n 1, 1) := by decide +kernel
theorem dX7_put_26 : decode cX7_put 26 = .ok (.iload_n 2, 1) := by decide +kernel
theorem dX7_put_27 : decode cX7_put 27 = .ok (.ishr, 1) := by decide +kernel
theorem dX7_put_28 : decode cX7_put 28 = .ok (.i2b, 1) := by decide +kernel
theorem dX7_put_29 : decode cX7_put 29 = .ok (.bastore, 1) := by decide +kernel
theorem dX7_put_30 : decode cX7_put 30 = .ok (.aload_n 0, 1) := by decide +kernel
theorem dX7_put_31 : decode cX7_put 31 = .ok (.dup, 1) := by decide +kernel
theorem dX7_put_32 : decode cX7_put 32 = .ok (.getfield 15, 3) := by decide +kernel
theorem dX7_put_35 : decode cX7_put 35 = .ok (.iconst 1, 1) := by decide +kernel
theorem dX7_put_36 : decode cX7_put 36 = .ok (.iadd, 1) := by decide +kernel
theorem dX7_put_37 : decode cX7_put 37 = .ok (.putfield 15, 3) := by decide +kernel
theorem dX7_put_40 : decode cX7_put 40 = .ok (.iinc 2 (-8), 3) := by decide +kernel
theorem dX7_put_43 : decode cX7_put 43 = .ok (.goto (-40), 3) := by decide +kernel
abbrev rm_kX7_put : Room := { frames := 0, cells := 0, slots := 0, locals := 0 }
set_option maxHeartbeats 4000000 in
set_option maxRecDepth 100000 in
theorem kX7_put (l : Launch) (g : zL) (h0 : Nat) (x1 : Int32) (h0_bytes : Nat) (h0_length : Int32) (f_h0_bytes : Nat → Int32) (hy0 : 0 ≤ h0_length.toInt ∧ h0_length.toInt ≤ 1200) : zCv l g yX7_put cX7_put 3 none rm_kX7_put [.ref h0, .int x1] [(h0, .inr (7, [.ref h0_bytes, .int h0_length])), (h0_bytes, .inl (g.2.1.2.1, 1200, .inl f_h0_bytes))] (fun (u : Int32 × (Nat → Int32)) => (0 ≤ u.1.toInt ∧ u.1.toInt ≤ 1200)) (fun (u : Int32 × (Nat → Int32)) => [(h0, .inr (7, [.ref h0_bytes, .int u.1])), (h0_bytes, .inl (g.2.1.2.1, 1200, .inl u.2))]) := by
  refine zCv.mk2 (by decide) (Nat.le_of_ble_eq_true rfl) ?_
  intro p e s m below meth c A args Q hE hret hP hD hS ls hl
  obtain ⟨hx, hb, hr, hml, hown, hG, hlocks, hnm, hX, hA⟩ := hE
  have hown : s.vm.findClass RX7 = some m.cls := hown
  have hl : lv_has ls 3 [(0, .ref h0), (1, .int x1)] := hl
  refine lv_bipush (v := 24) hx hb dX7_put_0 (by decide) ?_
  refine lv_istore_n (lv' := [(2, .int 24), (0, .ref h0), (1, .int x1)]) hx hb dX7_put_2 rfl hl (by decide) rfl (fun ls hl => ?_)
  have L127 : ∀ (n : Nat) (v108 : Int32) (v109 : Int32) (fn110 : Nat → Int32) (H : Heap) (locs : List Loc) (ls : Array Slot), (-8) ≤ v108.toInt ∧ v108.toInt ≤ 24 → 0 ≤ v109.toInt ∧ v109.toInt ≤ 1200 → (v108.toInt - (-9)).toNat < n → va_P g.1 vwCl [(h0, .inr (7, [.ref h0_bytes, .int v109])), (h0_bytes, .inl (g.2.1.2.1, 1200, .inl fn110))] H → va_D A [(h0, .inr (7, [.ref h0_bytes, .int v109])), (h0_bytes, .inl (g.2.1.2.1, 1200, .inl fn110))] → va_S A s.heap H locs → lv_has ls 3 [(0, .ref h0), (1, .int x1), (2, .int v108)] → W p l e rm_kX7_put s m args below meth c H locs 0 0 Q (F0 m 3 ls []) := by
    intro n128
    induction n128 with
    | zero => intro v108 v109 fn110 H locs ls i130 i131 hm132; exact absurd hm132 (Nat.not_lt_zero _)
    | succ n128 ih129 =>
      intro v108 v109 fn110 H locs ls i130 i131 hm132 hP hD hS hl
      refine lv_iload_n hx hb dX7_put_3 rfl (lv_at hl 2 rfl) ?_
      refine lv_if_lt (tgt := 46) hx hb dX7_put_4 (by decide) (fun c133 => ?_) (fun c133 => ?_)
      · skip
        have c133i : v108.toInt < (0 : Int) := (zc_lt (rfl : v108.toInt = _) (show (0 : Int32).toInt = (0 : Int) from by decide)).mp c133
        exact hret (v109, fn110) (Nat.le_of_ble_eq_true rfl) (Nat.le_of_ble_eq_true rfl) (ox_37 i131) hP hD hS dX7_put_46
      · skip
        have c133i : ¬ (v108.toInt < (0 : Int)) := fun q => c133 ((zc_lt (rfl : v108.toInt = _) (show (0 : Int32).toInt = (0 : Int) from by decide)).mpr q)
        refine lv_aload_n hx hb dX7_put_7 rfl (lv_at hl 0 rfl) ?_
        refine va_get (D := g.1) (ci := 7) (v := .int v109) (C := RX7) (T := TX7) (N := 2) hx hb hG iX7 hown hX.1 hP 0 rfl rfl 1 (by decide) (hG _ wf_X7_15) (fun _ h9 => h9) rfl dX7_put_8 ?_
        refine lv_sipush (v := 1200) hx hb dX7_put_11 (by decide) ?_
        refine lv_icmp_ge (tgt := 46) hx hb dX7_put_14 (by decide) (fun c134 => ?_) (fun c134 => ?_)
        · skip
          have c134i : (1200 : Int) ≤ v109.toInt := (zc_le (show (1200 : Int32).toInt = (1200 : Int) from by decide) (rfl : v109.toInt = _)).mp c134
          exact hret (v109, fn110) (Nat.le_of_ble_eq_true rfl) (Nat.le_of_ble_eq_true rfl) (ox_38 c134i i131) hP hD hS dX7_put_46
        · skip
          have c134i : ¬ ((1200 : Int) ≤ v109.toInt) := fun q => c134 ((zc_le (show (1200 : Int32).toInt = (1200 : Int) from by decide) (rfl : v109.toInt = _)).mpr q)
          refine lv_aload_n hx hb dX7_put_17 rfl (lv_at hl 0 rfl) ?_
          refine va_get (D := g.1) (ci := 7) (v := .ref h0_bytes) (C := RX7) (T := TX7) (N := 2) hx hb hG iX7 hown hX.1 hP 0 rfl rfl 0 (by decide) (hG _ wf_X7_9) (fun _ h9 => h9) rfl dX7_put_18 ?_
          refine lv_aload_n hx hb dX7_put_21 rfl (lv_at hl 0 rfl) ?_
          refine va_get (D := g.1) (ci := 7) (v := .int v109) (C := RX7) (T := TX7) (N := 2) hx hb hG iX7 hown hX.1 hP 0 rfl rfl 1 (by decide) (hG _ wf_X7_15) (fun _ h9 => h9) rfl dX7_put_22 ?_
          refine lv_iload_n hx hb dX7_put_25 rfl (lv_at hl 1 rfl) ?_
          refine lv_iload_n hx hb dX7_put_26 rfl (lv_at hl 2 rfl) ?_
          refine lv_ishr hx hb dX7_put_27 ?_
          refine lv_topi (fun z135 e136 => ?_)
          refine lv_i2b (v := z135.toInt8.toInt32) hx hb dX7_put_28 rfl ?_
          refine lv_topi (fun z137 e138 => ?_)
          refine va_bast hx hb hX.1 hP hD hS 1 1 rfl rfl (zin (rfl : v109.toInt = _) (ox_39 c134i i131)) dX7_put_29 (fun H locs hP hD hS => ?_)
          obtain ⟨f139, e140⟩ : ∃ z9 : Nat → Int32, z9 = upd fn110 v109.toNatClampNeg (vp_nar .byte z137) := ⟨_, rfl⟩
          rw [← e140] at hP hD
          have hP : va_P g.1 vwCl [(h0, .inr (7, [.ref h0_bytes, .int v109])), (h0_bytes, .inl (g.2.1.2.1, 1200, .inl f139))] H := hP
          have hD : va_D A [(h0, .inr (7, [.ref h0_bytes, .int v109])), (h0_bytes, .inl (g.2.1.2.1, 1200, .inl f139))] := hD
          refine lv_aload_n hx hb dX7_put_30 rfl (lv_at hl 0 rfl) ?_
          refine lv_dup hx hb dX7_put_31 rfl ?_
          refine va_get (D := g.1) (ci := 7) (v := .int v109) (C := RX7) (T := TX7) (N := 2) hx hb hG iX7 hown hX.1 hP 0 rfl rfl 1 (by decide) (hG _ wf_X7_15) (fun _ h9 => h9) rfl dX7_put_32 ?_
          refine lv_iconst (v := 1) hx hb dX7_put_35 (by decide) ?_
          refine lv_iadd hx hb dX7_put_36 ?_
          refine lv_topi (fun z141 e142 => ?_)
          have f143 : z141.toInt = v109.toInt + (1 : Int) := za e142 (rfl : v109.toInt = _) (show (1 : Int32).toInt = (1 : Int) from by decide) (ox_40 (zr v109) c134i i131)
          refine va_put (D := g.1) (ci := 7) (v := .int z141) (ty := .int) (C := RX7) (T := TX7) (N := 2) hx hb hG iX7 tyX7 tyX7_ok nmX7 hown hX.1 hP hD hS 0 rfl rfl 1 (by decide) (hG _ wf_X7_15) (fun _ h9 => h9) rfl (by decide +kernel) rfl rfl (Nat.le_of_ble_eq_true rfl) dX7_put_37 (fun H locs hP hD hS => ?_)
          have hP : va_P g.1 vwCl [(h0, .inr (7, [.ref h0_bytes, .int z141])), (h0_bytes, .inl (g.2.1.2.1, 1200, .inl f139))] H := hP
          have hD : va_D A [(h0, .inr (7, [.ref h0_bytes, .int z141])), (h0_bytes, .inl (g.2.1.2.1, 1200, .inl f139))] := hD
          obtain ⟨z144, e145⟩ : ∃ y9 : Int32, y9 = v108 + (-8) := ⟨_, rfl⟩
          have f146 : z144.toInt = v108.toInt + (-8) := za e145 (rfl : v108.toInt = _) (show (-8 : Int32).toInt = (-8 : Int) from by decide) (ox_41 (zr v108) c133i i130)
          refine lv_iinc (v := z144) (lv' := [(2, .int z144), (0, .ref h0), (1, .int x1)]) hx hb dX7_put_40 hl (k := 2) rfl (by rw [e145]; rfl) (by decide) rfl (fun ls hl => ?_)
          refine lv_goto (tgt := 3) hx hb dX7_put_43 (by decide) ?_
          exact ih129 z144 z141 f139 H locs ls (ox_42 c133i f146 i130) (ox_43 c134i f143 i131) (zdec hm132 (ox_44 c133i f146 i130)) hP hD hS (lv_sub hl [1, 2, 0] rfl)
  exact L127 _ (24 : Int32) h0_length f_h0_bytes _ _ ls ((show (-8) ≤ (24 : Int) ∧ (24 : Int) ≤ 24 from by decide)) (ox_37 hy0) (Nat.lt_succ_self _) hP hD hS (lv_sub hl [1, 2, 0] rfl)
theorem dX7_at_0 : decode cX7_at 0 = .ok (.iload_n 1, 1) := by decide +kernel
theorem dX7_at_1 : decode cX7_at 1 = .ok (.ifCond .lt 31, 3) := by decide +kernel
theorem dX7_at_32 : decode cX7_at 32 = .ok (.iconst (-1), 1) := by decide +kernel
theorem dX7_at_33 : decode cX7_at 33 = .ok (.ireturn, 1) := by decide +kernel
theorem dX7_at_4 : decode cX7_at 4 = .ok (.iload_n 1, 1) := by decide +kernel
theorem dX7_at_5 : decode cX7_at 5 = .ok (.aload_n 0, 1) := by decide +kernel
theorem dX7_at_6 : decode cX7_at 6 = .ok (.getfield 15, 3) := by decide +kernel
theorem dX7_at_9 : decode cX7_at 9 = .ok (.if_icmp .ge 23, 3) := by decide +kernel
theorem dX7_at_12 : decode cX7_at 12 = .ok (.iload_n 1, 1) := by decide +kernel
theorem dX7_at_13 : decode cX7_at 13 = .ok (.sipush 1200, 3) := by decide +kernel
theorem dX7_at_16 : decode cX7_at 16 = .ok (.if_icmp .ge 16, 3) := by decide +kernel
theorem dX7_at_19 : decode cX7_at 19 = .ok (.aload_n 0, 1) := by decide +kernel
theorem dX7_at_20 : decode cX7_at 20 = .ok (.getfield 9, 3) := by decide +kernel
theorem dX7_at_23 : decode cX7_at 23 = .ok (.iload_n 1, 1) := by decide +kernel
theorem dX7_at_24 : decode cX7_at 24 = .ok (.baload, 1) := by decide +kernel
theorem dX7_at_25 : decode cX7_at 25 = .ok (.sipush 255, 3) := by decide +kernel
theorem dX7_at_28 : decode cX7_at 28 = .ok (.iand, 1) := by decide +kernel
theorem dX7_at_29 : decode cX7_at 29 = .ok (.goto 4, 3) := by decide +kernel
abbrev rm_kX7_at : Room := { frames := 0, cells := 0, slots := 0, locals := 0 }
set_option maxHeartbeats 4000000 in
set_option maxRecDepth 100000 in
theorem kX7_at (l : Launch) (g : zL) (h0 : Nat) (x1 : Int32) (h0_bytes : Nat) (h0_length : Int32) (f_h0_bytes : Nat → Int32) (hy0 : 0 ≤ h0_length.toInt ∧ h0_length.toInt ≤ 1200) : zCi l g yX7_at cX7_at 2 (some .int) rm_kX7_at [.ref h0, .int x1] [(h0, .inr (7, [.ref h0_bytes, .int h0_length])), (h0_bytes, .inl (g.2.1.2.1, 1200, .inl f_h0_bytes))] (fun (r : Int32) (u : Unit) => ((-1) ≤ r.toInt ∧ r.toInt ≤ 255)) (fun (u : Unit) => [(h0, .inr (7, [.ref h0_bytes, .int h0_length])), (h0_bytes, .inl (g.2.1.2.1, 1200, .inl f_h0_bytes))]) := by
  refine zCi.mk2 (by decide) (Nat.le_of_ble_eq_true rfl) ?_
  intro p e s m below meth c A args Q hE hret hP hD hS ls hl
  obtain ⟨hx, hb, hr, hml, hown, hG, hlocks, hnm, hX, hA⟩ := hE
  have hown : s.vm.findClass RX7 = some m.cls := hown
  have hl : lv_has ls 2 [(0, .ref h0), (1, .int x1)] := hl
  refine lv_iload_n hx hb dX7_at_0 rfl (lv_at hl 1 rfl) ?_
  refine lv_if_lt (tgt := 32) hx hb dX7_at_1 (by decide) (fun c1 => ?_) (fun c1 => ?_)
  · skip
    have c1i : x1.toInt < (0 : Int) := (zc_lt (rfl : x1.toInt = _) (show (0 : Int32).toInt = (0 : Int) from by decide)).mp c1
    refine lv_iconst (v := (-1)) hx hb dX7_at_32 (by decide) ?_
    exact hret (-1 : Int32) () (Nat.le_of_ble_eq_true rfl) (Nat.le_of_ble_eq_true rfl) rfl ((show (-1) ≤ (-1 : Int) ∧ (-1 : Int) ≤ 255 from by decide)) hP hD hS dX7_at_33
  · skip
    have c1i : ¬ (x1.toInt < (0 : Int)) := fun q => c1 ((zc_lt (rfl : x1.toInt = _) (show (0 : Int32).toInt = (0 : Int) from by decide)).mpr q)
    refine lv_iload_n hx hb dX7_at_4 rfl (lv_at hl 1 rfl) ?_
    refine lv_aload_n hx hb dX7_at_5 rfl (lv_at hl 0 rfl) ?_
    refine va_get (D := g.1) (ci := 7) (v := .int h0_length) (C := RX7) (T := TX7) (N := 2) hx hb hG iX7 hown hX.1 hP 0 rfl rfl 1 (by decide) (hG _ wf_X7_15) (fun _ h9 => h9) rfl dX7_at_6 ?_
    refine lv_icmp_ge (tgt := 32) hx hb dX7_at_9 (by decide) (fun c2 => ?_) (fun c2 => ?_)
    · skip
      have c2i : h0_length.toInt ≤ x1.toInt := (zc_le (rfl : h0_length.toInt = _) (rfl : x1.toInt = _)).mp c2
      refine lv_iconst (v := (-1)) hx hb dX7_at_32 (by decide) ?_
      exact hret (-1 : Int32) () (Nat.le_of_ble_eq_true rfl) (Nat.le_of_ble_eq_true rfl) rfl ((show (-1) ≤ (-1 : Int) ∧ (-1 : Int) ≤ 255 from by decide)) hP hD hS dX7_at_33
    · skip
      have c2i : ¬ (h0_length.toInt ≤ x1.toInt) := fun q => c2 ((zc_le (rfl : h0_length.toInt = _) (rfl : x1.toInt = _)).mpr q)
      refine lv_iload_n hx hb dX7_at_12 rfl (lv_at hl 1 rfl) ?_
      refine lv_sipush (v := 1200) hx hb dX7_at_13 (by decide) ?_
      refine lv_icmp_ge (tgt := 32) hx hb dX7_at_16 (by decide) (fun c3 => absurd c3 (fun q9 => absurd ((zc_le (show (1200 : Int32).toInt = (1200 : Int) from by decide) (rfl : x1.toInt = _)).mp q9) (ox_45 c1i c2i hy0))) (fun c3 => ?_)
      refine lv_aload_n hx hb dX7_at_19 rfl (lv_at hl 0 rfl) ?_
      refine va_get (D := g.1) (ci := 7) (v := .ref h0_bytes) (C := RX7) (T := TX7) (N := 2) hx hb hG iX7 hown hX.1 hP 0 rfl rfl 0 (by decide) (hG _ wf_X7_9) (fun _ h9 => h9) rfl dX7_at_20 ?_
      refine lv_iload_n hx hb dX7_at_23 rfl (lv_at hl 1 rfl) ?_
      refine va_bald hx hb hX.1 hP 1 1 rfl rfl (zin (rfl : x1.toInt = _) (ox_46 c1i c2i hy0)) dX7_at_24 ?_
      refine lv_topi (fun z4 e5 => ?_)
      refine lv_sipush (v := 255) hx hb dX7_at_25 (by decide) ?_
      refine lv_iand hx hb dX7_at_28 ?_
      refine lv_topi (fun z6 e7 => ?_)
      have f8 : 0 ≤ z6.toInt ∧ z6.toInt ≤ (255 : Int) := zand e7 (show (255 : Int32).toInt = (255 : Int) from by decide) ((show 0 ≤ (255 : Int) from by decide))
      refine lv_goto (tgt := 33) hx hb dX7_at_29 (by decide) ?_
      exact hret z6 () (Nat.le_of_ble_eq_true rfl) (Nat.le_of_ble_eq_true rfl) rfl (ox_47 f8) hP hD hS dX7_at_33
theorem dX5_against_0 : decode cX5_against 0 = .ok (.iload_n 0, 1) := by decide +kernel
theorem dX5_against_1 : decode cX5_against 1 = .ok (.iconst 1, 1) := by decide +kernel
theorem dX5_against_2 : decode cX5_against 2 = .ok (.ixor, 1) := by decide +kernel
theorem dX5_against_3 : decode cX5_against 3 = .ok (.ireturn, 1) := by decide +kernel
abbrev rm_kX5_against : Room := { frames := 0, cells := 0, slots := 0, locals := 0 }
set_option maxHeartbeats 4000000 in
set_option maxRecDepth 100000 in
theorem kX5_against (l : Launch) (g : zL) (x1 : Int32) (hy0 : 0 ≤ x1.toInt ∧ x1.toInt ≤ 5) : zCi l g yX5_against cX5_against 1 (some .int) rm_kX5_against [.int x1] [] (fun (r : Int32) (u : Unit) => (0 ≤ r.toInt ∧ r.toInt ≤ 5)) (fun (u : Unit) => []) := by
  refine zCi.mk2 (by decide) (Nat.le_of_ble_eq_true rfl) ?_
  intro p e s m below meth c A args Q hE hret hP hD hS ls hl
  obtain ⟨hx, hb, hr, hml, hown, hG, hlocks, hnm, hX, hA⟩ := hE
  have hown : s.vm.findClass RX5 = some m.cls := hown
  have hl : lv_has ls 1 [(0, .int x1)] := hl
  refine lv_iload_n hx hb dX5_against_0 rfl (lv_at hl 0 rfl) ?_
  refine lv_iconst (v := 1) hx hb dX5_against_1 (by decide) ?_
  refine lv_ixor hx hb dX5_against_2 ?_
  refine lv_topi (fun z1 e2 => ?_)
  have f3 : 0 ≤ z1.toInt ∧ z1.toInt ≤ 5 := zx15 e2 (rfl : x1.toInt = _) (ox_48 hy0)
  exact hret z1 () (Nat.le_of_ble_eq_true rfl) (Nat.le_of_ble_eq_true rfl) rfl (ox_48 f3) hP hD hS dX5_against_3
theorem dX5_outward_0 : decode cX5_outward 0 = .ok (.iload_n 2, 1) := by decide +kernel
theorem dX5_outward_1 : decode cX5_outward 1 = .ok (.invokestatic 102, 3) := by decide +kernel
theorem dX5_outward_22 : decode cX5_outward 22 = .ok (.istore_n 3, 1) := by decide +kernel
theorem dX5_outward_23 : decode cX5_outward 23 = .ok (.iload_n 2, 1) := by decide +kernel
theorem dX5_outward_24 : decode cX5_outward 24 = .ok (.ifCond .eq 8, 3) := by decide +kernel
theorem dX5_outward_32 : decode cX5_outward 32 = .ok (.iload_n 3, 1) := by decide +kernel
theorem dX5_outward_33 : decode cX5_outward 33 = .ok (.goto 7, 3) := by decide +kernel
theorem dX5_outward_40 : decode cX5_outward 40 = .ok (.ireturn, 1) := by decide +kernel
theorem dX5_outward_27 : decode cX5_outward 27 = .ok (.iload_n 2, 1) := by decide +kernel
theorem dX5_outward_28 : decode cX5_outward 28 = .ok (.iconst 1, 1) := by decide +kernel
theorem dX5_outward_29 : decode cX5_outward 29 = .ok (.if_icmp .ne 7, 3) := by decide +kernel
theorem dX5_outward_36 : decode cX5_outward 36 = .ok (.iload_n 3, 1) := by decide +kernel
theorem dX5_outward_37 : decode cX5_outward 37 = .ok (.invokestatic 95, 3) := by decide +kernel
theorem dX5_outward_4 : decode cX5_outward 4 = .ok (.ifCond .eq 12, 3) := by decide +kernel
theorem dX5_outward_16 : decode cX5_outward 16 = .ok (.aload_n 0, 1) := by decide +kernel
theorem dX5_outward_17 : decode cX5_outward 17 = .ok (.getfield 24, 3) := by decide +kernel
theorem dX5_outward_20 : decode cX5_outward 20 = .ok (.iload_n 1, 1) := by decide +kernel
theorem dX5_outward_21 : decode cX5_outward 21 = .ok (.iaload, 1) := by decide +kernel
theorem dX5_outward_7 : decode cX5_outward 7 = .ok (.aload_n 0, 1) := by decide +kernel
theorem dX5_outward_8 : decode cX5_outward 8 = .ok (.getfield 27, 3) := by decide +kernel
theorem dX5_outward_11 : decode cX5_outward 11 = .ok (.iload_n 1, 1) := by decide +kernel
theorem dX5_outward_12 : decode cX5_outward 12 = .ok (.iaload, 1) := by decide +kernel
theorem dX5_outward_13 : decode cX5_outward 13 = .ok (.goto 9, 3) := by decide +kernel
abbrev rm_kX5_outward : Room := { frames := 1, cells := 0, slots := 0, locals := 20 }
set_option maxHeartbeats 4000000 in
set_option maxRecDepth 100000 in
theorem kX5_outward (l : Launch) (g : zL) (h0 : Nat) (x1 : Int32) (x2 : Int32) (h0_low : Nat) (h0_high : Nat) (h0_normal : Nat) (h0_corner : Nat) (h0_east : Nat) (h0_north : Nat) (h0_start : Nat) (h0_far : Nat) (f_h0_east : Nat → Int32) (f_h0_north : Nat → Int32) (hy0 : 0 ≤ x1.toInt ∧ x1.toInt ≤ 8) (hy1 : aI 0 5 f_h0_east) (hy2 : aI 0 5 f_h0_north) : zCi l g yX5_outward cX5_outward 4 (some .int) rm_kX5_outward [.ref h0, .int x1, .int x2] [(h0, .inr (5, [.ref h0_low, .ref h0_high, .ref h0_normal, .ref h0_corner, .ref h0_east, .ref h0_north, .ref h0_start, .ref h0_far])), (h0_east, .inl (g.2.1.1, 9, .inl f_h0_east)), (h0_north, .inl (g.2.1.1, 9, .inl f_h0_north))] (fun (r : Int32) (u : Unit) => (0 ≤ r.toInt ∧ r.toInt ≤ 5)) (fun (u : Unit) => [(h0, .inr (5, [.ref h0_low, .ref h0_high, .ref h0_normal, .ref h0_corner, .ref h0_east, .ref h0_north, .ref h0_start, .ref h0_far])), (h0_east, .inl (g.2.1.1, 9, .inl f_h0_east)), (h0_north, .inl (g.2.1.1, 9, .inl f_h0_north))]) := by
  refine zCi.mk2 (by decide) (Nat.le_of_ble_eq_true rfl) ?_
  intro p e s m below meth c A args Q hE hret hP hD hS ls hl
  obtain ⟨hx, hb, hr, hml, hown, hG, hlocks, hnm, hX, hA⟩ := hE
  have hown : s.vm.findClass RX5 = some m.cls := hown
  have hl : lv_has ls 4 [(0, .ref h0), (1, .int x1), (2, .int x2)] := hl
  refine lv_iload_n hx hb dX5_outward_0 rfl (lv_at hl 2 rfl) ?_
  refine zfi (wr := [(h0, .inr (5, [.ref h0_low, .ref h0_high, .ref h0_normal, .ref h0_corner, .ref h0_east, .ref h0_north, .ref h0_start, .ref h0_far])), (h0_east, .inl (g.2.1.1, 9, .inl f_h0_east)), (h0_north, .inl (g.2.1.1, 9, .inl f_h0_north))]) (va_runSN (As := [.int x2]) (rest := []) ⟨hx, hb, hml, hown, hG⟩ (kX4_runsAlongX l g x2 _) ⟨va_cnB 1 hG (zGood wc_X4_runsAlongX) rfl rfl rfl (hX.2.1.ml wmn_X5_102) (hG _ wini_X4) hX4_runsAlongX ⟨Nat.le_of_ble_eq_true rfl, Nat.le_of_ble_eq_true rfl⟩, hG _ ws_X4_runsAlongX, trivial⟩ (zpreS hX hP hD hS hA [] rfl (by decide)) rfl rfl hl.1 rfl (lv_room (Nat.le_of_ble_eq_true rfl)) dX5_outward_1 ⟨Nat.le_of_ble_eq_true rfl, Nat.le_of_ble_eq_true rfl⟩) hP hD hS hA [] [0, 1, 2] rfl rfl (by decide) (by decide) (fun r1 _ H locs hp hP hD hS => ?_)
  refine W.cs (cells' := 0) (slots' := 0) rfl rfl ?_
  have hq2 : 0 ≤ r1.toInt ∧ r1.toInt ≤ 1 := hp
  have hP : va_P g.1 vwCl [(h0, .inr (5, [.ref h0_low, .ref h0_high, .ref h0_normal, .ref h0_corner, .ref h0_east, .ref h0_north, .ref h0_start, .ref h0_far])), (h0_east, .inl (g.2.1.1, 9, .inl f_h0_east)), (h0_north, .inl (g.2.1.1, 9, .inl f_h0_north))] H := hP
  have hD : va_D A [(h0, .inr (5, [.ref h0_low, .ref h0_high, .ref h0_normal, .ref h0_corner, .ref h0_east, .ref h0_north, .ref h0_start, .ref h0_far])), (h0_east, .inl (g.2.1.1, 9, .inl f_h0_east)), (h0_north, .inl (g.2.1.1, 9, .inl f_h0_north))] := hD
  have J11 : ∀  (v10 : Int32) (H : Heap) (locs : List Loc) (ls : Array Slot), 0 ≤ v10.toInt ∧ v10.toInt ≤ 5 → va_P g.1 vwCl [(h0, .inr (5, [.ref h0_low, .ref h0_high, .ref h0_normal, .ref h0_corner, .ref h0_east, .ref h0_north, .ref h0_start, .ref h0_far])), (h0_east, .inl (g.2.1.1, 9, .inl f_h0_east)), (h0_north, .inl (g.2.1.1, 9, .inl f_h0_north))] H → va_D A [(h0, .inr (5, [.ref h0_low, .ref h0_high, .ref h0_normal, .ref h0_corner, .ref h0_east, .ref h0_north, .ref h0_start, .ref h0_far])), (h0_east, .inl (g.2.1.1, 9, .inl f_h0_east)), (h0_north, .inl (g.2.1.1, 9, .inl f_h0_north))] → va_S A s.heap H locs → lv_has ls 4 [(0, .ref h0), (1, .int x1), (2, .int x2)] → W p l e rm_kX5_outward s m args below meth c H locs 0 0 Q (F0 m 22 ls [.int v10]) := by
    intro v10 H locs ls i12 hP hD hS hl
    refine lv_istore_n (lv' := [(3, .int v10), (0, .ref h0), (1, .int x1), (2, .int x2)]) hx hb dX5_outward_22 rfl hl (by decide) rfl (fun ls hl => ?_)
    refine lv_iload_n hx hb dX5_outward_23 rfl (lv_at hl 3 rfl) ?_
    refine lv_if_eq (tgt := 32) hx hb dX5_outward_24 (by decide) (fun c13 => ?_) (fun c13 => ?_)
    · skip
      have c13i : x2.toInt = (0 : Int) := (zc_eq (rfl : x2.toInt = _) (show (0 : Int32).toInt = (0 : Int) from by decide)).mp c13
      refine lv_iload_n hx hb dX5_outward_32 rfl (lv_at hl 0 rfl) ?_
      refine lv_goto (tgt := 40) hx hb dX5_outward_33 (by decide) ?_
      exact hret v10 () (Nat.le_of_ble_eq_true rfl) (Nat.le_of_ble_eq_true rfl) rfl (ox_48 i12) hP hD hS dX5_outward_40
    · skip
      have c13i : ¬ (x2.toInt = (0 : Int)) := fun q => c13 ((zc_eq (rfl : x2.toInt = _) (show (0 : Int32).toInt = (0 : Int) from by decide)).mpr q)
      refine lv_iload_n hx hb dX5_outward_27 rfl (lv_at hl 3 rfl) ?_
      refine lv_iconst (v := 1) hx hb dX5_outward_28 (by decide) ?_
      refine lv_icmp_ne (tgt := 36) hx hb dX5_outward_29 (by decide) (fun c14 => ?_) (fun c14 => ?_)
      · skip
        have c14i : ¬ (x2.toInt = (1 : Int)) := fun q => c14 ((zc_eq (rfl : x2.toInt = _) (show (1 : Int32).toInt = (1 : Int) from by decide)).mpr q)
        refine lv_iload_n hx hb dX5_outward_36 rfl (lv_at hl 0 rfl) ?_
        refine zfi (wr := [(h0, .inr (5, [.ref h0_low, .ref h0_high, .ref h0_normal, .ref h0_corner, .ref h0_east, .ref h0_north, .ref h0_start, .ref h0_far])), (h0_east, .inl (g.2.1.1, 9, .inl f_h0_east)), (h0_north, .inl (g.2.1.1, 9, .inl f_h0_north))]) (va_runS (As := [.int v10]) (rest := []) ⟨hx, hb, hml, hown, hG⟩ (kX5_against l g v10 (ox_48 i12) _) ⟨callB_of 1 hG (zGood wc_X5_against) rfl rfl rfl (hG _ wini_X5) (hG _ wm_X5_95) hX5_against ⟨Nat.le_of_ble_eq_true rfl, Nat.le_of_ble_eq_true rfl⟩, hG _ ws_X5_against⟩ (zpreS hX hP hD hS hA [] rfl (by decide)) rfl rfl hl.1 rfl (lv_room (Nat.le_of_ble_eq_true rfl)) dX5_outward_37 ⟨Nat.le_of_ble_eq_true rfl, Nat.le_of_ble_eq_true rfl⟩) hP hD hS hA [] [0, 1, 2] rfl rfl (by decide) (by decide) (fun r15 _ H locs hp hP hD hS => ?_)
        refine W.cs (cells' := 0) (slots' := 0) rfl rfl ?_
        have hq16 : 0 ≤ r15.toInt ∧ r15.toInt ≤ 5 := hp
        have hP : va_P g.1 vwCl [(h0, .inr (5, [.ref h0_low, .ref h0_high, .ref h0_normal, .ref h0_corner, .ref h0_east, .ref h0_north, .ref h0_start, .ref h0_far])), (h0_east, .inl (g.2.1.1, 9, .inl f_h0_east)), (h0_north, .inl (g.2.1.1, 9, .inl f_h0_north))] H := hP
        have hD : va_D A [(h0, .inr (5, [.ref h0_low, .ref h0_high, .ref h0_normal, .ref h0_corner, .ref h0_east, .ref h0_north, .ref h0_start, .ref h0_far])), (h0_east, .inl (g.2.1.1, 9, .inl f_h0_east)), (h0_north, .inl (g.2.1.1, 9, .inl f_h0_north))] := hD
        exact hret r15 () (Nat.le_of_ble_eq_true rfl) (Nat.le_of_ble_eq_true rfl) rfl (ox_48 hq16) hP hD hS dX5_outward_40
      · skip
        have c14i : x2.toInt = (1 : Int) := (zc_eq (rfl : x2.toInt = _) (show (1 : Int32).toInt = (1 : Int) from by decide)).mp c14
        refine lv_iload_n hx hb dX5_outward_32 rfl (lv_at hl 0 rfl) ?_
        refine lv_goto (tgt := 40) hx hb dX5_outward_33 (by decide) ?_
        exact hret v10 () (Nat.le_of_ble_eq_true rfl) (Nat.le_of_ble_eq_true rfl) rfl (ox_48 i12) hP hD hS dX5_outward_40
  refine lv_if_eq (tgt := 16) hx hb dX5_outward_4 (by decide) (fun c17 => ?_) (fun c17 => ?_)
  · skip
    have c17i : r1.toInt = (0 : Int) := (zc_eq (rfl : r1.toInt = _) (show (0 : Int32).toInt = (0 : Int) from by decide)).mp c17
    refine lv_aload_n hx hb dX5_outward_16 rfl (lv_at hl 0 rfl) ?_
    refine va_get (D := g.1) (ci := 5) (v := .ref h0_east) (C := RX5) (T := TX5) (N := 8) hx hb hG iX5 hown hX.1 hP 0 rfl rfl 4 (by decide) (hG _ wf_X5_24) (fun _ h9 => h9) rfl dX5_outward_17 ?_
    refine lv_iload_n hx hb dX5_outward_20 rfl (lv_at hl 1 rfl) ?_
    refine va_iald hx hb hX.1 hP 1 0 rfl rfl (zin (rfl : x1.toInt = _) (ox_6 hy0)) dX5_outward_21 ?_
    refine lv_topi (fun z18 e19 => ?_)
    have i20 : 0 ≤ z18.toInt ∧ z18.toInt ≤ 5 := hy1.at e19
    exact J11 z18 H locs ls (ox_48 i20) hP hD hS (lv_sub hl [0, 1, 2] rfl)
  · skip
    have c17i : ¬ (r1.toInt = (0 : Int)) := fun q => c17 ((zc_eq (rfl : r1.toInt = _) (show (0 : Int32).toInt = (0 : Int) from by decide)).mpr q)
    refine lv_aload_n hx hb dX5_outward_7 rfl (lv_at hl 0 rfl) ?_
    refine va_get (D := g.1) (ci := 5) (v := .ref h0_north) (C := RX5) (T := TX5) (N := 8) hx hb hG iX5 hown hX.1 hP 0 rfl rfl 5 (by decide) (hG _ wf_X5_27) (fun _ h9 => h9) rfl dX5_outward_8 ?_
    refine lv_iload_n hx hb dX5_outward_11 rfl (lv_at hl 1 rfl) ?_
    refine va_iald hx hb hX.1 hP 2 0 rfl rfl (zin (rfl : x1.toInt = _) (ox_6 hy0)) dX5_outward_12 ?_
    refine lv_topi (fun z21 e22 => ?_)
    have i23 : 0 ≤ z21.toInt ∧ z21.toInt ≤ 5 := hy2.at e22
    refine lv_goto (tgt := 22) hx hb dX5_outward_13 (by decide) ?_
    exact J11 z21 H locs ls (ox_48 i23) hP hD hS (lv_sub hl [0, 1, 2] rfl)
theorem dX5_alongSide_0 : decode cX5_alongSide 0 = .ok (.iload_n 2, 1) := by decide +kernel
theorem dX5_alongSide_1 : decode cX5_alongSide 1 = .ok (.invokestatic 102, 3) := by decide +kernel
theorem dX5_alongSide_4 : decode cX5_alongSide 4 = .ok (.ifCond .eq 12, 3) := by decide +kernel
theorem dX5_alongSide_16 : decode cX5_alongSide 16 = .ok (.aload_n 0, 1) := by decide +kernel
theorem dX5_alongSide_17 : decode cX5_alongSide 17 = .ok (.getfield 27, 3) := by decide +kernel
theorem dX5_alongSide_20 : decode cX5_alongSide 20 = .ok (.iload_n 1, 1) := by decide +kernel
theorem dX5_alongSide_21 : decode cX5_alongSide 21 = .ok (.iaload, 1) := by decide +kernel
theorem dX5_alongSide_22 : decode cX5_alongSide 22 = .ok (.ireturn, 1) := by decide +kernel
theorem dX5_alongSide_7 : decode cX5_alongSide 7 = .ok (.aload_n 0, 1) := by decide +kernel
theorem dX5_alongSide_8 : decode cX5_alongSide 8 = .ok (.getfield 24, 3) := by decide +kernel
theorem dX5_alongSide_11 : decode cX5_alongSide 11 = .ok (.iload_n 1, 1) := by decide +kernel
theorem dX5_alongSide_12 : decode cX5_alongSide 12 = .ok (.iaload, 1) := by decide +kernel
theorem dX5_alongSide_13 : decode cX5_alongSide 13 = .ok (.goto 9, 3) := by decide +kernel
abbrev rm_kX5_alongSide : Room := { frames := 1, cells := 0, slots := 0, locals := 20 }
set_option maxHeartbeats 4000000 in
set_option maxRecDepth 100000 in
theorem kX5_alongSide (l : Launch) (g : zL) (h0 : Nat) (x1 : Int32) (x2 : Int32) (h0_low : Nat) (h0_high : Nat) (h0_normal : Nat) (h0_corner : Nat) (h0_east : Nat) (h0_north : Nat) (h0_start : Nat) (h0_far : Nat) (f_h0_north : Nat → Int32) (f_h0_east : Nat → Int32) (hy0 : 0 ≤ x1.toInt ∧ x1.toInt ≤ 8) (hy1 : aI 0 5 f_h0_north) (hy2 : aI 0 5 f_h0_east) : zCi l g yX5_alongSide cX5_alongSide 3 (some .int) rm_kX5_alongSide [.ref h0, .int x1, .int x2] [(h0, .inr (5, [.ref h0_low, .ref h0_high, .ref h0_normal, .ref h0_corner, .ref h0_east, .ref h0_north, .ref h0_start, .ref h0_far])), (h0_north, .inl (g.2.1.1, 9, .inl f_h0_north)), (h0_east, .inl (g.2.1.1, 9, .inl f_h0_east))] (fun (r : Int32) (u : Unit) => (0 ≤ r.toInt ∧ r.toInt ≤ 5)) (fun (u : Unit) => [(h0, .inr (5, [.ref h0_low, .ref h0_high, .ref h0_normal, .ref h0_corner, .ref h0_east, .ref h0_north, .ref h0_start, .ref h0_far])), (h0_north, .inl (g.2.1.1, 9, .inl f_h0_north)), (h0_east, .inl (g.2.1.1, 9, .inl f_h0_east))]) := by
  refine zCi.mk2 (by decide) (Nat.le_of_ble_eq_true rfl) ?_
  intro p e s m below meth c A args Q hE hret hP hD hS ls hl
  obtain ⟨hx, hb, hr, hml, hown, hG, hlocks, hnm, hX, hA⟩ := hE
  have hown : s.vm.findClass RX5 = some m.cls := hown
  have hl : lv_has ls 3 [(0, .ref h0), (1, .int x1), (2, .int x2)] := hl
  refine lv_iload_n hx hb dX5_alongSide_0 rfl (lv_at hl 2 rfl) ?_
  refine zfi (wr := [(h0, .inr (5, [.ref h0_low, .ref h0_high, .ref h0_normal, .ref h0_corner, .ref h0_east, .ref h0_north, .ref h0_start, .ref h0_far])), (h0_north, .inl (g.2.1.1, 9, .inl f_h0_north)), (h0_east, .inl (g.2.1.1, 9, .inl f_h0_east))]) (va_runSN (As := [.int x2]) (rest := []) ⟨hx, hb, hml, hown, hG⟩ (kX4_runsAlongX l g x2 _) ⟨va_cnB 1 hG (zGood wc_X4_runsAlongX) rfl rfl rfl (hX.2.1.ml wmn_X5_102) (hG _ wini_X4) hX4_runsAlongX ⟨Nat.le_of_ble_eq_true rfl, Nat.le_of_ble_eq_true rfl⟩, hG _ ws_X4_runsAlongX, trivial⟩ (zpreS hX hP hD hS hA [] rfl (by decide)) rfl rfl hl.1 rfl (lv_room (Nat.le_of_ble_eq_true rfl)) dX5_alongSide_1 ⟨Nat.le_of_ble_eq_true rfl, Nat.le_of_ble_eq_true rfl⟩) hP hD hS hA [] [0, 1, 2] rfl rfl (by decide) (by decide) (fun r1 _ H locs hp hP hD hS => ?_)
  refine W.cs (cells' := 0) (slots' := 0) rfl rfl ?_
  have hq2 : 0 ≤ r1.toInt ∧ r1.toInt ≤ 1 := hp
  have hP : va_P g.1 vwCl [(h0, .inr (5, [.ref h0_low, .ref h0_high, .ref h0_normal, .ref h0_corner, .ref h0_east, .ref h0_north, .ref h0_start, .ref h0_far])), (h0_north, .inl (g.2.1.1, 9, .inl f_h0_north)), (h0_east, .inl (g.2.1.1, 9, .inl f_h0_east))] H := hP
  have hD : va_D A [(h0, .inr (5, [.ref h0_low, .ref h0_high, .ref h0_normal, .ref h0_corner, .ref h0_east, .ref h0_north, .ref h0_start, .ref h0_far])), (h0_north, .inl (g.2.1.1, 9, .inl f_h0_north)), (h0_east, .inl (g.2.1.1, 9, .inl f_h0_east))] := hD
  refine lv_if_eq (tgt := 16) hx hb dX5_alongSide_4 (by decide) (fun c3 => ?_) (fun c3 => ?_)
  · skip
    have c3i : r1.toInt = (0 : Int) := (zc_eq (rfl : r1.toInt = _) (show (0 : Int32).toInt = (0 : Int) from by decide)).mp c3
    refine lv_aload_n hx hb dX5_alongSide_16 rfl (lv_at hl 0 rfl) ?_
    refine va_get (D := g.1) (ci := 5) (v := .ref h0_north) (C := RX5) (T := TX5) (N := 8) hx hb hG iX5 hown hX.1 hP 0 rfl rfl 5 (by decide) (hG _ wf_X5_27) (fun _ h9 => h9) rfl dX5_alongSide_17 ?_
    refine lv_iload_n hx hb dX5_alongSide_20 rfl (lv_at hl 1 rfl) ?_
    refine va_iald hx hb hX.1 hP 1 0 rfl rfl (zin (rfl : x1.toInt = _) (ox_6 hy0)) dX5_alongSide_21 ?_
    refine lv_topi (fun z4 e5 => ?_)
    have i6 : 0 ≤ z4.toInt ∧ z4.toInt ≤ 5 := hy1.at e5
    exact hret z4 () (Nat.le_of_ble_eq_true rfl) (Nat.le_of_ble_eq_true rfl) rfl (ox_48 i6) hP hD hS dX5_alongSide_22
  · skip
    have c3i : ¬ (r1.toInt = (0 : Int)) := fun q => c3 ((zc_eq (rfl : r1.toInt = _) (show (0 : Int32).toInt = (0 : Int) from by decide)).mpr q)
    refine lv_aload_n hx hb dX5_alongSide_7 rfl (lv_at hl 0 rfl) ?_
    refine va_get (D := g.1) (ci := 5) (v := .ref h0_east) (C := RX5) (T := TX5) (N := 8) hx hb hG iX5 hown hX.1 hP 0 rfl rfl 4 (by decide) (hG _ wf_X5_24) (fun _ h9 => h9) rfl dX5_alongSide_8 ?_
    refine lv_iload_n hx hb dX5_alongSide_11 rfl (lv_at hl 1 rfl) ?_
    refine va_iald hx hb hX.1 hP 2 0 rfl rfl (zin (rfl : x1.toInt = _) (ox_6 hy0)) dX5_alongSide_12 ?_
    refine lv_topi (fun z7 e8 => ?_)
    have i9 : 0 ≤ z7.toInt ∧ z7.toInt ≤ 5 := hy2.at e8
    refine lv_goto (tgt := 22) hx hb dX5_alongSide_13 (by decide) ?_
    exact hret z7 () (Nat.le_of_ble_eq_true rfl) (Nat.le_of_ble_eq_true rfl) rfl (ox_48 i9) hP hD hS dX5_alongSide_22
theorem dX5_lowOf_0 : decode cX5_lowOf 0 = .ok (.aload_n 0, 1) := by decide +kernel
theorem dX5_lowOf_1 : decode cX5_lowOf 1 = .ok (.getfield 11, 3) := by decide +kernel
theorem dX5_lowOf_4 : decode cX5_lowOf 4 = .ok (.iconst 3, 1) := by decide +kernel
theorem dX5_lowOf_5 : decode cX5_lowOf 5 = .ok (.iload_n 1, 1) := by decide +kernel
theorem dX5_lowOf_6 : decode cX5_lowOf 6 = .ok (.imul, 1) := by decide +kernel
theorem dX5_lowOf_7 : decode cX5_lowOf 7 = .ok (.iload_n 2, 1) := by decide +kernel
theorem dX5_lowOf_8 : decode cX5_lowOf 8 = .ok (.iadd, 1) := by decide +kernel
theorem dX5_lowOf_9 : decode cX5_lowOf 9 = .ok (.iaload, 1) := by decide +kernel
theorem dX5_lowOf_10 : decode cX5_lowOf 10 = .ok (.ireturn, 1) := by decide +kernel
abbrev rm_kX5_lowOf : Room := { frames := 0, cells := 0, slots := 0, locals := 0 }
set_option maxHeartbeats 4000000 in
set_option maxRecDepth 100000 in
theorem kX5_lowOf (l : Launch) (g : zL) (h0 : Nat) (x1 : Int32) (x2 : Int32) (h0_low : Nat) (h0_high : Nat) (h0_normal : Nat) (h0_corner : Nat) (h0_east : Nat) (h0_north : Nat) (h0_start : Nat) (h0_far : Nat) (f_h0_low : Nat → Int32) (hy0 : 0 ≤ x1.toInt ∧ x1.toInt ≤ 17) (hy1 : 0 ≤ x2.toInt ∧ x2.toInt ≤ 2) : zCi l g yX5_lowOf cX5_lowOf 3 (some .int) rm_kX5_lowOf [.ref h0, .int x1, .int x2] [(h0, .inr (5, [.ref h0_low, .ref h0_high, .ref h0_normal, .ref h0_corner, .ref h0_east, .ref h0_north, .ref h0_start, .ref h0_far])), (h0_low, .inl (g.2.1.1, 54, .inl f_h0_low))] (fun (r : Int32) (u : Unit) => True) (fun (u : Unit) => [(h0, .inr (5, [.ref h0_low, .ref h0_high, .ref h0_normal, .ref h0_corner, .ref h0_east, .ref h0_north, .ref h0_start, .ref h0_far])), (h0_low, .inl (g.2.1.1, 54, .inl f_h0_low))]) := by
  refine zCi.mk2 (by decide) (Nat.le_of_ble_eq_true rfl) ?_
  intro p e s m below meth c A args Q hE hret hP hD hS ls hl
  obtain ⟨hx, hb, hr, hml, hown, hG, hlocks, hnm, hX, hA⟩ := hE
  have hown : s.vm.findClass RX5 = some m.cls := hown
  have hl : lv_has ls 3 [(0, .ref h0), (1, .int x1), (2, .int x2)] := hl
  refine lv_aload_n hx hb dX5_lowOf_0 rfl (lv_at hl 0 rfl) ?_
  refine va_get (D := g.1) (ci := 5) (v := .ref h0_low) (C := RX5) (T := TX5) (N := 8) hx hb hG iX5 hown hX.1 hP 0 rfl rfl 0 (by decide) (hG _ wf_X5_11) (fun _ h9 => h9) rfl dX5_lowOf_1 ?_
  refine lv_iconst (v := 3) hx hb dX5_lowOf_4 (by decide) ?_
  refine lv_iload_n hx hb dX5_lowOf_5 rfl (lv_at hl 1 rfl) ?_
  refine lv_imul hx hb dX5_lowOf_6 ?_
  refine lv_topi (fun z1 e2 => ?_)
  have f3 : z1.toInt = (3 : Int) * x1.toInt := zm e2 (show (3 : Int32).toInt = (3 : Int) from by decide) (rfl : x1.toInt = _) (ox_49 (zr x1) hy0)
  refine lv_iload_n hx hb dX5_lowOf_7 rfl (lv_at hl 2 rfl) ?_
  refine lv_iadd hx hb dX5_lowOf_8 ?_
  refine lv_topi (fun z4 e5 => ?_)
  have f6 : z4.toInt = z1.toInt + x2.toInt := za e5 (rfl : z1.toInt = _) (rfl : x2.toInt = _) (ox_50 (zr x1) (zr x2) (zr z1) f3 hy0 hy1)
  refine va_iald hx hb hX.1 hP 1 0 rfl rfl (zin (rfl : z4.toInt = _) (ox_51 f3 f6 hy0 hy1)) dX5_lowOf_9 ?_
  refine lv_topi (fun z7 e8 => ?_)
  exact hret z7 () (Nat.le_of_ble_eq_true rfl) (Nat.le_of_ble_eq_true rfl) rfl trivial hP hD hS dX5_lowOf_10
theorem dX5_highOf_0 : decode cX5_highOf 0 = .ok (.aload_n 0, 1) := by decide +kernel
theorem dX5_highOf_1 : decode cX5_highOf 1 = .ok (.getfield 15, 3) := by decide +kernel
theorem dX5_highOf_4 : decode cX5_highOf 4 = .ok (.iconst 3, 1) := by decide +kernel
theorem dX5_highOf_5 : decode cX5_highOf 5 = .ok (.iload_n 1, 1) := by decide +kernel
theorem dX5_highOf_6 : decode cX5_highOf 6 = .ok (.imul, 1) := by decide +kernel
theorem dX5_highOf_7 : decode cX5_highOf 7 = .ok (.iload_n 2, 1) := by decide +kernel
theorem dX5_highOf_8 : decode cX5_highOf 8 = .ok (.iadd, 1) := by decide +kernel
theorem dX5_highOf_9 : decode cX5_highOf 9 = .ok (.iaload, 1) := by decide +kernel
theorem dX5_highOf_10 : decode cX5_highOf 10 = .ok (.ireturn, 1) := by decide +kernel
abbrev rm_kX5_highOf : Room := { frames := 0, cells := 0, slots := 0, locals := 0 }
set_option maxHeartbeats 4000000 in
set_option maxRecDepth 100000 in
theorem kX5_highOf (l : Launch) (g : zL) (h0 : Nat) (x1 : Int32) (x2 : Int32) (h0_low : Nat) (h0_high : Nat) (h0_normal : Nat) (h0_corner : Nat) (h0_east : Nat) (h0_north : Nat) (h0_start : Nat) (h0_far : Nat) (f_h0_high : Nat → Int32) (hy0 : 0 ≤ x1.toInt ∧ x1.toInt ≤ 17) (hy1 : 0 ≤ x2.toInt ∧ x2.toInt ≤ 2) : zCi l g yX5_highOf cX5_highOf 3 (some .int) rm_kX5_highOf [.ref h0, .int x1, .int x2] [(h0, .inr (5, [.ref h0_low, .ref h0_high, .ref h0_normal, .ref h0_corner, .ref h0_east, .ref h0_north, .ref h0_start, .ref h0_far])), (h0_high, .inl (g.2.1.1, 54, .inl f_h0_high))] (fun (r : Int32) (u : Unit) => True) (fun (u : Unit) => [(h0, .inr (5, [.ref h0_low, .ref h0_high, .ref h0_normal, .ref h0_corner, .ref h0_east, .ref h0_north, .ref h0_start, .ref h0_far])), (h0_high, .inl (g.2.1.1, 54, .inl f_h0_high))]) := by
  refine zCi.mk2 (by decide) (Nat.le_of_ble_eq_true rfl) ?_
  intro p e s m below meth c A args Q hE hret hP hD hS ls hl
  obtain ⟨hx, hb, hr, hml, hown, hG, hlocks, hnm, hX, hA⟩ := hE
  have hown : s.vm.findClass RX5 = some m.cls := hown
  have hl : lv_has ls 3 [(0, .ref h0), (1, .int x1), (2, .int x2)] := hl
  refine lv_aload_n hx hb dX5_highOf_0 rfl (lv_at hl 0 rfl) ?_
  refine va_get (D := g.1) (ci := 5) (v := .ref h0_high) (C := RX5) (T := TX5) (N := 8) hx hb hG iX5 hown hX.1 hP 0 rfl rfl 1 (by decide) (hG _ wf_X5_15) (fun _ h9 => h9) rfl dX5_highOf_1 ?_
  refine lv_iconst (v := 3) hx hb dX5_highOf_4 (by decide) ?_
  refine lv_iload_n hx hb dX5_highOf_5 rfl (lv_at hl 1 rfl) ?_
  refine lv_imul hx hb dX5_highOf_6 ?_
  refine lv_topi (fun z1 e2 => ?_)
  have f3 : z1.toInt = (3 : Int) * x1.toInt := zm e2 (show (3 : Int32).toInt = (3 : Int) from by decide) (rfl : x1.toInt = _) (ox_49 (zr x1) hy0)
  refine lv_iload_n hx hb dX5_highOf_7 rfl (lv_at hl 2 rfl) ?_
  refine lv_iadd hx hb dX5_highOf_8 ?_
  refine lv_topi (fun z4 e5 => ?_)
  have f6 : z4.toInt = z1.toInt + x2.toInt := za e5 (rfl : z1.toInt = _) (rfl : x2.toInt = _) (ox_50 (zr x1) (zr x2) (zr z1) f3 hy0 hy1)
  refine va_iald hx hb hX.1 hP 1 0 rfl rfl (zin (rfl : z4.toInt = _) (ox_51 f3 f6 hy0 hy1)) dX5_highOf_9 ?_
  refine lv_topi (fun z7 e8 => ?_)
  exact hret z7 () (Nat.le_of_ble_eq_true rfl) (Nat.le_of_ble_eq_true rfl) rfl trivial hP hD hS dX5_highOf_10
theorem dX5_signedNormal_0 : decode cX5_signedNormal 0 = .ok (.aload_n 0, 1) := by decide +kernel
theorem dX5_signedNormal_1 : decode cX5_signedNormal 1 = .ok (.getfield 18, 3) := by decide +kernel
theorem dX5_signedNormal_4 : decode cX5_signedNormal 4 = .ok (.iload_n 1, 1) := by decide +kernel
theorem dX5_signedNormal_5 : decode cX5_signedNormal 5 = .ok (.iaload, 1) := by decide +kernel
theorem dX5_signedNormal_6 : decode cX5_signedNormal 6 = .ok (.iconst 1, 1) := by decide +kernel
theorem dX5_signedNormal_7 : decode cX5_signedNormal 7 = .ok (.ishr, 1) := by decide +kernel
theorem dX5_signedNormal_8 : decode cX5_signedNormal 8 = .ok (.iconst 1, 1) := by decide +kernel
theorem dX5_signedNormal_9 : decode cX5_signedNormal 9 = .ok (.iadd, 1) := by decide +kernel
theorem dX5_signedNormal_10 : decode cX5_signedNormal 10 = .ok (.istore_n 2, 1) := by decide +kernel
theorem dX5_signedNormal_11 : decode cX5_signedNormal 11 = .ok (.aload_n 0, 1) := by decide +kernel
theorem dX5_signedNormal_12 : decode cX5_signedNormal 12 = .ok (.getfield 18, 3) := by decide +kernel
theorem dX5_signedNormal_15 : decode cX5_signedNormal 15 = .ok (.iload_n 1, 1) := by decide +kernel
theorem dX5_signedNormal_16 : decode cX5_signedNormal 16 = .ok (.iaload, 1) := by decide +kernel
theorem dX5_signedNormal_17 : decode cX5_signedNormal 17 = .ok (.iconst 1, 1) := by decide +kernel
theorem dX5_signedNormal_18 : decode cX5_signedNormal 18 = .ok (.iand, 1) := by decide +kernel
theorem dX5_signedNormal_19 : decode cX5_signedNormal 19 = .ok (.ifCond .ne 7, 3) := by decide +kernel
theorem dX5_signedNormal_26 : decode cX5_signedNormal 26 = .ok (.iload_n 2, 1) := by decide +kernel
theorem dX5_signedNormal_27 : decode cX5_signedNormal 27 = .ok (.ineg, 1) := by decide +kernel
theorem dX5_signedNormal_28 : decode cX5_signedNormal 28 = .ok (.ireturn, 1) := by decide +kernel
theorem dX5_signedNormal_22 : decode cX5_signedNormal 22 = .ok (.iload_n 2, 1) := by decide +kernel
theorem dX5_signedNormal_23 : decode cX5_signedNormal 23 = .ok (.goto 5, 3) := by decide +kernel
abbrev rm_kX5_signedNormal : Room := { frames := 0, cells := 0, slots := 0, locals := 0 }
set_option maxHeartbeats 4000000 in
set_option maxRecDepth 100000 in
theorem kX5_signedNormal (l : Launch) (g : zL) (h0 : Nat) (x1 : Int32) (h0_low : Nat) (h0_high : Nat) (h0_normal : Nat) (h0_corner : Nat) (h0_east : Nat) (h0_north : Nat) (h0_start : Nat) (h0_far : Nat) (f_h0_normal : Nat → Int32) (hy0 : 0 ≤ x1.toInt ∧ x1.toInt ≤ 17) (hy1 : aI 0 5 f_h0_normal) : zCi l g yX5_signedNormal cX5_signedNormal 3 (some .int) rm_kX5_signedNormal [.ref h0, .int x1] [(h0, .inr (5, [.ref h0_low, .ref h0_high, .ref h0_normal, .ref h0_corner, .ref h0_east, .ref h0_north, .ref h0_start, .ref h0_far])), (h0_normal, .inl (g.2.1.1, 18, .inl f_h0_normal))] (fun (r : Int32) (u : Unit) => ((-3) ≤ r.toInt ∧ r.toInt ≤ 3)) (fun (u : Unit) => [(h0, .inr (5, [.ref h0_low, .ref h0_high, .ref h0_normal, .ref h0_corner, .ref h0_east, .ref h0_north, .ref h0_start, .ref h0_far])), (h0_normal, .inl (g.2.1.1, 18, .inl f_h0_normal))]) := by
  refine zCi.mk2 (by decide) (Nat.le_of_ble_eq_true rfl) ?_
  intro p e s m below meth c A args Q hE hret hP hD hS ls hl
  obtain ⟨hx, hb, hr, hml, hown, hG, hlocks, hnm, hX, hA⟩ := hE
  have hown : s.vm.findClass RX5 = some m.cls := hown
  have hl : lv_has ls 3 [(0, .ref h0), (1, .int x1)] := hl
  refine lv_aload_n hx hb dX5_signedNormal_0 rfl (lv_at hl 0 rfl) ?_
  refine va_get (D := g.1) (ci := 5) (v := .ref h0_normal) (C := RX5) (T := TX5) (N := 8) hx hb hG iX5 hown hX.1 hP 0 rfl rfl 2 (by decide) (hG _ wf_X5_18) (fun _ h9 => h9) rfl dX5_signedNormal_1 ?_
  refine lv_iload_n hx hb dX5_signedNormal_4 rfl (lv_at hl 1 rfl) ?_
  refine va_iald hx hb hX.1 hP 1 0 rfl rfl (zin (rfl : x1.toInt = _) (ox_52 hy0)) dX5_signedNormal_5 ?_
  refine lv_topi (fun z1 e2 => ?_)
  have i3 : 0 ≤ z1.toInt ∧ z1.toInt ≤ 5 := hy1.at e2
  refine lv_iconst (v := 1) hx hb dX5_signedNormal_6 (by decide) ?_
  refine lv_ishr hx hb dX5_signedNormal_7 ?_
  refine lv_topi (fun z4 e5 => ?_)
  have f6 : z4.toInt = z1.toInt / 2 := zshr 1 e5 (by decide) (rfl : z1.toInt = _)
  refine lv_iconst (v := 1) hx hb dX5_signedNormal_8 (by decide) ?_
  refine lv_iadd hx hb dX5_signedNormal_9 ?_
  refine lv_topi (fun z7 e8 => ?_)
  have f9 : z7.toInt = z4.toInt + (1 : Int) := za e8 (rfl : z4.toInt = _) (show (1 : Int32).toInt = (1 : Int) from by decide) (ox_53 (zr z1) (zr z4) f6 i3)
  refine lv_istore_n (lv' := [(2, .int z7), (0, .ref h0), (1, .int x1)]) hx hb dX5_signedNormal_10 rfl hl (by decide) rfl (fun ls hl => ?_)
  refine lv_aload_n hx hb dX5_signedNormal_11 rfl (lv_at hl 1 rfl) ?_
  refine va_get (D := g.1) (ci := 5) (v := .ref h0_normal) (C := RX5) (T := TX5) (N := 8) hx hb hG iX5 hown hX.1 hP 0 rfl rfl 2 (by decide) (hG _ wf_X5_18) (fun _ h9 => h9) rfl dX5_signedNormal_12 ?_
  refine lv_iload_n hx hb dX5_signedNormal_15 rfl (lv_at hl 2 rfl) ?_
  refine va_iald hx hb hX.1 hP 1 0 rfl rfl (zin (rfl : x1.toInt = _) (ox_52 hy0)) dX5_signedNormal_16 ?_
  refine lv_topi (fun z10 e11 => ?_)
  have i12 : 0 ≤ z10.toInt ∧ z10.toInt ≤ 5 := hy1.at e11
  refine lv_iconst (v := 1) hx hb dX5_signedNormal_17 (by decide) ?_
  refine lv_iand hx hb dX5_signedNormal_18 ?_
  refine lv_topi (fun z13 e14 => ?_)
  have f15 : 0 ≤ z13.toInt ∧ z13.toInt ≤ (1 : Int) := zand e14 (show (1 : Int32).toInt = (1 : Int) from by decide) ((show 0 ≤ (1 : Int) from by decide))
  refine lv_if_ne (tgt := 26) hx hb dX5_signedNormal_19 (by decide) (fun c16 => ?_) (fun c16 => ?_)
  · skip
    have c16i : ¬ (z13.toInt = (0 : Int)) := fun q => c16 ((zc_eq (rfl : z13.toInt = _) (show (0 : Int32).toInt = (0 : Int) from by decide)).mpr q)
    refine lv_iload_n hx hb dX5_signedNormal_26 rfl (lv_at hl 0 rfl) ?_
    refine lv_ineg hx hb dX5_signedNormal_27 ?_
    refine lv_topi (fun z17 e18 => ?_)
    have f19 : z17.toInt = -z7.toInt := zng e18 (rfl : z7.toInt = _) (ox_54 (zr z1) (zr z4) (zr z7) f6 f9 i3)
    exact hret z17 () (Nat.le_of_ble_eq_true rfl) (Nat.le_of_ble_eq_true rfl) rfl (ox_55 f19 f6 f9 i3) hP hD hS dX5_signedNormal_28
  · skip
    have c16i : z13.toInt = (0 : Int) := (zc_eq (rfl : z13.toInt = _) (show (0 : Int32).toInt = (0 : Int) from by decide)).mp c16
    refine lv_iload_n hx hb dX5_signedNormal_22 rfl (lv_at hl 0 rfl) ?_
    refine lv_goto (tgt := 28) hx hb dX5_signedNormal_23 (by decide) ?_
    exact hret z7 () (Nat.le_of_ble_eq_true rfl) (Nat.le_of_ble_eq_true rfl) rfl (ox_56 f6 f9 i3) hP hD hS dX5_signedNormal_28
theorem dX5_share_0 : decode cX5_share 0 = .ok (.aload_n 0, 1) := by decide +kernel
theorem dX5_share_1 : decode cX5_share 1 = .ok (.getfield 11, 3) := by decide +kernel
theorem dX5_share_4 : decode cX5_share 4 = .ok (.iconst 3, 1) := by decide +kernel
theorem dX5_share_5 : decode cX5_share 5 = .ok (.iload_n 1, 1) := by decide +kernel
theorem dX5_share_6 : decode cX5_share 6 = .ok (.imul, 1) := by decide +kernel
theorem dX5_share_7 : decode cX5_share 7 = .ok (.iload_n 3, 1) := by decide +kernel
theorem dX5_share_8 : decode cX5_share 8 = .ok (.iadd, 1) := by decide +kernel
theorem dX5_share_9 : decode cX5_share 9 = .ok (.iaload, 1) := by decide +kernel
theorem dX5_share_10 : decode cX5_share 10 = .ok (.istore 4, 2) := by decide +kernel
theorem dX5_share_12 : decode cX5_share 12 = .ok (.aload_n 0, 1) := by decide +kernel
theorem dX5_share_13 : decode cX5_share 13 = .ok (.getfield 15, 3) := by decide +kernel
theorem dX5_share_16 : decode cX5_share 16 = .ok (.iconst 3, 1) := by decide +kernel
theorem dX5_share_17 : decode cX5_share 17 = .ok (.iload_n 1, 1) := by decide +kernel
theorem dX5_share_18 : decode cX5_share 18 = .ok (.imul, 1) := by decide +kernel
theorem dX5_share_19 : decode cX5_share 19 = .ok (.iload_n 3, 1) := by decide +kernel
theorem dX5_share_20 : decode cX5_share 20 = .ok (.iadd, 1) := by decide +kernel
theorem dX5_share_21 : decode cX5_share 21 = .ok (.iaload, 1) := by decide +kernel
theorem dX5_share_22 : decode cX5_share 22 = .ok (.istore 5, 2) := by decide +kernel
theorem dX5_share_24 : decode cX5_share 24 = .ok (.aload_n 0, 1) := by decide +kernel
theorem dX5_share_25 : decode cX5_share 25 = .ok (.getfield 11, 3) := by decide +kernel
theorem dX5_share_28 : decode cX5_share 28 = .ok (.iconst 3, 1) := by decide +kernel
theorem dX5_share_29 : decode cX5_share 29 = .ok (.iload_n 2, 1) := by decide +kernel
theorem dX5_share_30 : decode cX5_share 30 = .ok (.imul, 1) := by decide +kernel
theorem dX5_share_31 : decode cX5_share 31 = .ok (.iload_n 3, 1) := by decide +kernel
theorem dX5_share_32 : decode cX5_share 32 = .ok (.iadd, 1) := by decide +kernel
theorem dX5_share_33 : decode cX5_share 33 = .ok (.iaload, 1) := by decide +kernel
theorem dX5_share_34 : decode cX5_share 34 = .ok (.istore 6, 2) := by decide +kernel
theorem dX5_share_36 : decode cX5_share 36 = .ok (.aload_n 0, 1) := by decide +kernel
theorem dX5_share_37 : decode cX5_share 37 = .ok (.getfield 15, 3) := by decide +kernel
theorem dX5_share_40 : decode cX5_share 40 = .ok (.iconst 3, 1) := by decide +kernel
theorem dX5_share_41 : decode cX5_share 41 = .ok (.iload_n 2, 1) := by decide +kernel
theorem dX5_share_42 : decode cX5_share 42 = .ok (.imul, 1) := by decide +kernel
theorem dX5_share_43 : decode cX5_share 43 = .ok (.iload_n 3, 1) := by decide +kernel
theorem dX5_share_44 : decode cX5_share 44 = .ok (.iadd, 1) := by decide +kernel
theorem dX5_share_45 : decode cX5_share 45 = .ok (.iaload, 1) := by decide +kernel
theorem dX5_share_46 : decode cX5_share 46 = .ok (.istore 7, 2) := by decide +kernel
theorem dX5_share_48 : decode cX5_share 48 = .ok (.iload 4, 2) := by decide +kernel
theorem dX5_share_50 : decode cX5_share 50 = .ok (.iload 7, 2) := by decide +kernel
theorem dX5_share_52 : decode cX5_share 52 = .ok (.if_icmp .ge 28, 3) := by decide +kernel
theorem dX5_share_80 : decode cX5_share 80 = .ok (.iconst 0, 1) := by decide +kernel
theorem dX5_share_81 : decode cX5_share 81 = .ok (.ireturn, 1) := by decide +kernel
theorem dX5_share_55 : decode cX5_share 55 = .ok (.iload 6, 2) := by decide +kernel
theorem dX5_share_57 : decode cX5_share 57 = .ok (.iload 5, 2) := by decide +kernel
theorem dX5_share_59 : decode cX5_share 59 = .ok (.if_icmp .ge 21, 3) := by decide +kernel
theorem dX5_share_62 : decode cX5_share 62 = .ok (.iload 4, 2) := by decide +kernel
theorem dX5_share_64 : decode cX5_share 64 = .ok (.iload 5, 2) := by decide +kernel
theorem dX5_share_66 : decode cX5_share 66 = .ok (.if_icmp .ge 14, 3) := by decide +kernel
theorem dX5_share_69 : decode cX5_share 69 = .ok (.iload 6, 2) := by decide +kernel
theorem dX5_share_71 : decode cX5_share 71 = .ok (.iload 7, 2) := by decide +kernel
theorem dX5_share_73 : decode cX5_share 73 = .ok (.if_icmp .ge 7, 3) := by decide +kernel
theorem dX5_share_76 : decode cX5_share 76 = .ok (.iconst 1, 1) := by decide +kernel
theorem dX5_share_77 : decode cX5_share 77 = .ok (.goto 4, 3) := by decide +kernel
abbrev rm_kX5_share : Room := { frames := 0, cells := 0, slots := 0, locals := 0 }
set_option maxHeartbeats 4000000 in
set_option maxRecDepth 100000 in
theorem kX5_share (l : Launch) (g : zL) (h0 : Nat) (x1 : Int32) (x2 : Int32) (x3 : Int32) (h0_low : Nat) (h0_high : Nat) (h0_normal : Nat) (h0_corner : Nat) (h0_east : Nat) (h0_north : Nat) (h0_start : Nat) (h0_far : Nat) (f_h0_low : Nat → Int32) (f_h0_high : Nat → Int32) (hy0 : 0 ≤ x1.toInt ∧ x1.toInt ≤ 17) (hy1 : 0 ≤ x2.toInt ∧ x2.toInt ≤ 17) (hy2 : 0 ≤ x3.toInt ∧ x3.toInt ≤ 2) : zCi l g yX5_share cX5_share 8 (some .boolean) rm_kX5_share [.ref h0, .int x1, .int x2, .int x3] [(h0, .inr (5, [.ref h0_low, .ref h0_high, .ref h0_normal, .ref h0_corner, .ref h0_east, .ref h0_north, .ref h0_start, .ref h0_far])), (h0_low, .inl (g.2.1.1, 54, .inl f_h0_low)), (h0_high, .inl (g.2.1.1, 54, .inl f_h0_high))] (fun (r : Int32) (u : Unit) => (0 ≤ r.toInt ∧ r.toInt ≤ 1)) (fun (u : Unit) => [(h0, .inr (5, [.ref h0_low, .ref h0_high, .ref h0_normal, .ref h0_corner, .ref h0_east, .ref h0_north, .ref h0_start, .ref h0_far])), (h0_low, .inl (g.2.1.1, 54, .inl f_h0_low)), (h0_high, .inl (g.2.1.1, 54, .inl f_h0_high))]) := by
  refine zCi.mk2 (by decide) (Nat.le_of_ble_eq_true rfl) ?_
  intro p e s m below meth c A args Q hE hret hP hD hS ls hl
  obtain ⟨hx, hb, hr, hml, hown, hG, hlocks, hnm, hX, hA⟩ := hE
  have hown : s.vm.findClass RX5 = some m.cls := hown
  have hl : lv_has ls 8 [(0, .ref h0), (1, .int x1), (2, .int x2), (3, .int x3)] := hl
  refine lv_aload_n hx hb dX5_share_0 rfl (lv_at hl 0 rfl) ?_
  refine va_get (D := g.1) (ci := 5) (v := .ref h0_low) (C := RX5) (T := TX5) (N := 8) hx hb hG iX5 hown hX.1 hP 0 rfl rfl 0 (by decide) (hG _ wf_X5_11) (fun _ h9 => h9) rfl dX5_share_1 ?_
  refine lv_iconst (v := 3) hx hb dX5_share_4 (by decide) ?_
  refine lv_iload_n hx hb dX5_share_5 rfl (lv_at hl 1 rfl) ?_
  refine lv_imul hx hb dX5_share_6 ?_
  refine lv_topi (fun z1 e2 => ?_)
  have f3 : z1.toInt = (3 : Int) * x1.toInt := zm e2 (show (3 : Int32).toInt = (3 : Int) from by decide) (rfl : x1.toInt = _) (ox_49 (zr x1) hy0)
  refine lv_iload_n hx hb dX5_share_7 rfl (lv_at hl 3 rfl) ?_
  refine lv_iadd hx hb dX5_share_8 ?_
  refine lv_topi (fun z4 e5 => ?_)
  have f6 : z4.toInt = z1.toInt + x3.toInt := za e5 (rfl : z1.toInt = _) (rfl : x3.toInt = _) (ox_50 (zr x1) (zr x3) (zr z1) f3 hy0 hy2)
  refine va_iald hx hb hX.1 hP 1 0 rfl rfl (zin (rfl : z4.toInt = _) (ox_51 f3 f6 hy0 hy2)) dX5_share_9 ?_
  refine lv_topi (fun z7 e8 => ?_)
  refine lv_istore (lv' := [(4, .int z7), (0, .ref h0), (1, .int x1), (2, .int x2), (3, .int x3)]) hx hb dX5_share_10 hl (by decide) rfl (fun ls hl => ?_)
  refine lv_aload_n hx hb dX5_share_12 rfl (lv_at hl 1 rfl) ?_
  refine va_get (D := g.1) (ci := 5) (v := .ref h0_high) (C := RX5) (T := TX5) (N := 8) hx hb hG iX5 hown hX.1 hP 0 rfl rfl 1 (by decide) (hG _ wf_X5_15) (fun _ h9 => h9) rfl dX5_share_13 ?_
  refine lv_iconst (v := 3) hx hb dX5_share_16 (by decide) ?_
  refine lv_iload_n hx hb dX5_share_17 rfl (lv_at hl 2 rfl) ?_
  refine lv_imul hx hb dX5_share_18 ?_
  refine lv_topi (fun z9 e10 => ?_)
  have f11 : z9.toInt = (3 : Int) * x1.toInt := zm e10 (show (3 : Int32).toInt = (3 : Int) from by decide) (rfl : x1.toInt = _) (ox_57 (zr x1) (zr x3) (zr z1) (zr z4) f3 f6 hy0 hy2)
  refine lv_iload_n hx hb dX5_share_19 rfl (lv_at hl 4 rfl) ?_
  refine lv_iadd hx hb dX5_share_20 ?_
  refine lv_topi (fun z12 e13 => ?_)
  have f14 : z12.toInt = z9.toInt + x3.toInt := za e13 (rfl : z9.toInt = _) (rfl : x3.toInt = _) (ox_58 (zr x1) (zr x3) (zr z1) (zr z4) (zr z9) f11 f3 f6 hy0 hy2)
  refine va_iald hx hb hX.1 hP 2 0 rfl rfl (zin (rfl : z12.toInt = _) (ox_59 f11 f14 f3 f6 hy0 hy2)) dX5_share_21 ?_
  refine lv_topi (fun z15 e16 => ?_)
  refine lv_istore (lv' := [(5, .int z15), (4, .int z7), (0, .ref h0), (1, .int x1), (2, .int x2), (3, .int x3)]) hx hb dX5_share_22 hl (by decide) rfl (fun ls hl => ?_)
  refine lv_aload_n hx hb dX5_share_24 rfl (lv_at hl 2 rfl) ?_
  refine va_get (D := g.1) (ci := 5) (v := .ref h0_low) (C := RX5) (T := TX5) (N := 8) hx hb hG iX5 hown hX.1 hP 0 rfl rfl 0 (by decide) (hG _ wf_X5_11) (fun _ h9 => h9) rfl dX5_share_25 ?_
  refine lv_iconst (v := 3) hx hb dX5_share_28 (by decide) ?_
  refine lv_iload_n hx hb dX5_share_29 rfl (lv_at hl 4 rfl) ?_
  refine lv_imul hx hb dX5_share_30 ?_
  refine lv_topi (fun z17 e18 => ?_)
  have f19 : z17.toInt = (3 : Int) * x2.toInt := zm e18 (show (3 : Int32).toInt = (3 : Int) from by decide) (rfl : x2.toInt = _) (ox_49 (zr x2) hy1)
  refine lv_iload_n hx hb dX5_share_31 rfl (lv_at hl 5 rfl) ?_
  refine lv_iadd hx hb dX5_share_32 ?_
  refine lv_topi (fun z20 e21 => ?_)
  have f22 : z20.toInt = z17.toInt + x3.toInt := za e21 (rfl : z17.toInt = _) (rfl : x3.toInt = _) (ox_60 (zr x1) (zr x2) (zr x3) (zr z1) (zr z12) (zr z17) (zr z4) (zr z9) f11 f14 f19 f3 f6 hy0 hy1 hy2)
  refine va_iald hx hb hX.1 hP 1 0 rfl rfl (zin (rfl : z20.toInt = _) (ox_61 f11 f14 f19 f22 f3 f6 hy0 hy1 hy2)) dX5_share_33 ?_
  refine lv_topi (fun z23 e24 => ?_)
  refine lv_istore (lv' := [(6, .int z23), (5, .int z15), (4, .int z7), (0, .ref h0), (1, .int x1), (2, .int x2), (3, .int x3)]) hx hb dX5_share_34 hl (by decide) rfl (fun ls hl => ?_)
  refine lv_aload_n hx hb dX5_share_36 rfl (lv_at hl 3 rfl) ?_
  refine va_get (D := g.1) (ci := 5) (v := .ref h0_high) (C := RX5) (T := TX5) (N := 8) hx hb hG iX5 hown hX.1 hP 0 rfl rfl 1 (by decide) (hG _ wf_X5_15) (fun _ h9 => h9) rfl dX5_share_37 ?_
  refine lv_iconst (v := 3) hx hb dX5_share_40 (by decide) ?_
  refine lv_iload_n hx hb dX5_share_41 rfl (lv_at hl 5 rfl) ?_
  refine lv_imul hx hb dX5_share_42 ?_
  refine lv_topi (fun z25 e26 => ?_)
  have f27 : z25.toInt = (3 : Int) * x2.toInt := zm e26 (show (3 : Int32).toInt = (3 : Int) from by decide) (rfl : x2.toInt = _) (ox_62 (zr x1) (zr x2) (zr x3) (zr z1) (zr z12) (zr z17) (zr z20) (zr z4) (zr z9) f11 f14 f19 f22 f3 f6 hy0 hy1 hy2)
  refine lv_iload_n hx hb dX5_share_43 rfl (lv_at hl 6 rfl) ?_
  refine lv_iadd hx hb dX5_share_44 ?_
  refine lv_topi (fun z28 e29 => ?_)
  have f30 : z28.toInt = z25.toInt + x3.toInt := za e29 (rfl : z25.toInt = _) (rfl : x3.toInt = _) (ox_63 (zr x1) (zr x2) (zr x3) (zr z1) (zr z12) (zr z17) (zr z20) (zr z25) (zr z4) (zr z9) f11 f14 f19 f22 f27 f3 f6 hy0 hy1 hy2)
  refine va_iald hx hb hX.1 hP 2 0 rfl rfl (zin (rfl : z28.toInt = _) (ox_64 f11 f14 f19 f22 f27 f3 f30 f6 hy0 hy1 hy2)) dX5_share_45 ?_
  refine lv_topi (fun z31 e32 => ?_)
  refine lv_istore (lv' := [(7, .int z31), (6, .int z23), (5, .int z15), (4, .int z7), (0, .ref h0), (1, .int x1), (2, .int x2), (3, .int x3)]) hx hb dX5_share_46 hl (by decide) rfl (fun ls hl => ?_)
  refine lv_iload hx hb dX5_share_48 (lv_at hl 3 rfl) ?_
  refine lv_iload hx hb dX5_share_50 (lv_at hl 0 rfl) ?_
  refine lv_icmp_ge (tgt := 80) hx hb dX5_share_52 (by decide) (fun c33 => ?_) (fun c33 => ?_)
  · skip
    have c33i : z31.toInt ≤ z7.toInt := (zc_le (rfl : z31.toInt = _) (rfl : z7.toInt = _)).mp c33
    refine lv_iconst (v := 0) hx hb dX5_share_80 (by decide) ?_
    exact hret (0 : Int32) () (Nat.le_of_ble_eq_true rfl) (Nat.le_of_ble_eq_true rfl) rfl ((show 0 ≤ (0 : Int) ∧ (0 : Int) ≤ 1 from by decide)) hP hD hS dX5_share_81
  · skip
    have c33i : ¬ (z31.toInt ≤ z7.toInt) := fun q => c33 ((zc_le (rfl : z31.toInt = _) (rfl : z7.toInt = _)).mpr q)
    refine lv_iload hx hb dX5_share_55 (lv_at hl 1 rfl) ?_
    refine lv_iload hx hb dX5_share_57 (lv_at hl 2 rfl) ?_
    refine lv_icmp_ge (tgt := 80) hx hb dX5_share_59 (by decide) (fun c34 => ?_) (fun c34 => ?_)
    · skip
      have c34i : z15.toInt ≤ z23.toInt := (zc_le (rfl : z15.toInt = _) (rfl : z23.toInt = _)).mp c34
      refine lv_iconst (v := 0) hx hb dX5_share_80 (by decide) ?_
      exact hret (0 : Int32) () (Nat.le_of_ble_eq_true rfl) (Nat.le_of_ble_eq_true rfl) rfl ((show 0 ≤ (0 : Int) ∧ (0 : Int) ≤ 1 from by decide)) hP hD hS dX5_share_81
    · skip
      have c34i : ¬ (z15.toInt ≤ z23.toInt) := fun q => c34 ((zc_le (rfl : z15.toInt = _) (rfl : z23.toInt = _)).mpr q)
      refine lv_iload hx hb dX5_share_62 (lv_at hl 3 rfl) ?_
      refine lv_iload hx hb dX5_share_64 (lv_at hl 2 rfl) ?_
      refine lv_icmp_ge (tgt := 80) hx hb dX5_share_66 (by decide) (fun c35 => ?_) (fun c35 => ?_)
      · skip
        have c35i : z15.toInt ≤ z7.toInt := (zc_le (rfl : z15.toInt = _) (rfl : z7.toInt = _)).mp c35
        refine lv_iconst (v := 0) hx hb dX5_share_80 (by decide) ?_
        exact hret (0 : Int32) () (Nat.le_of_ble_eq_true rfl) (Nat.le_of_ble_eq_true rfl) rfl ((show 0 ≤ (0 : Int) ∧ (0 : Int) ≤ 1 from by decide)) hP hD hS dX5_share_81
      · skip
        have c35i : ¬ (z15.toInt ≤ z7.toInt) := fun q => c35 ((zc_le (rfl : z15.toInt = _) (rfl : z7.toInt = _)).mpr q)
        refine lv_iload hx hb dX5_share_69 (lv_at hl 1 rfl) ?_
        refine lv_iload hx hb dX5_share_71 (lv_at hl 0 rfl) ?_
        refine lv_icmp_ge (tgt := 80) hx hb dX5_share_73 (by decide) (fun c36 => ?_) (fun c36 => ?_)
        · skip
          have c36i : z31.toInt ≤ z23.toInt := (zc_le (rfl : z31.toInt = _) (rfl : z23.toInt = _)).mp c36
          refine lv_iconst (v := 0) hx hb dX5_share_80 (by decide) ?_
          exact hret (0 : Int32) () (Nat.le_of_ble_eq_true rfl) (Nat.le_of_ble_eq_true rfl) rfl ((show 0 ≤ (0 : Int) ∧ (0 : Int) ≤ 1 from by decide)) hP hD hS dX5_share_81
        · skip
          have c36i : ¬ (z31.toInt ≤ z23.toInt) := fun q => c36 ((zc_le (rfl : z31.toInt = _) (rfl : z23.toInt = _)).mpr q)
          refine lv_iconst (v := 1) hx hb dX5_share_76 (by decide) ?_
          refine lv_goto (tgt := 81) hx hb dX5_share_77 (by decide) ?_
          exact hret (1 : Int32) () (Nat.le_of_ble_eq_true rfl) (Nat.le_of_ble_eq_true rfl) rfl ((show 0 ≤ (1 : Int) ∧ (1 : Int) ≤ 1 from by decide)) hP hD hS dX5_share_81
theorem dX5_isWithin_0 : decode cX5_isWithin 0 = .ok (.aload_n 0, 1) := by decide +kernel
theorem dX5_isWithin_1 : decode cX5_isWithin 1 = .ok (.getfield 11, 3) := by decide +kernel
theorem dX5_isWithin_4 : decode cX5_isWithin 4 = .ok (.iconst 3, 1) := by decide +kernel
theorem dX5_isWithin_5 : decode cX5_isWithin 5 = .ok (.iload_n 1, 1) := by decide +kernel
theorem dX5_isWithin_6 : decode cX5_isWithin 6 = .ok (.imul, 1) := by decide +kernel
theorem dX5_isWithin_7 : decode cX5_isWithin 7 = .ok (.iload_n 3, 1) := by decide +kernel
theorem dX5_isWithin_8 : decode cX5_isWithin 8 = .ok (.iadd, 1) := by decide +kernel
theorem dX5_isWithin_9 : decode cX5_isWithin 9 = .ok (.iaload, 1) := by decide +kernel
theorem dX5_isWithin_10 : decode cX5_isWithin 10 = .ok (.istore 4, 2) := by decide +kernel
theorem dX5_isWithin_12 : decode cX5_isWithin 12 = .ok (.aload_n 0, 1) := by decide +kernel
theorem dX5_isWithin_13 : decode cX5_isWithin 13 = .ok (.getfield 11, 3) := by decide +kernel
theorem dX5_isWithin_16 : decode cX5_isWithin 16 = .ok (.iconst 3, 1) := by decide +kernel
theorem dX5_isWithin_17 : decode cX5_isWithin 17 = .ok (.iload_n 2, 1) := by decide +kernel
theorem dX5_isWithin_18 : decode cX5_isWithin 18 = .ok (.imul, 1) := by decide +kernel
theorem dX5_isWithin_19 : decode cX5_isWithin 19 = .ok (.iload_n 3, 1) := by decide +kernel
theorem dX5_isWithin_20 : decode cX5_isWithin 20 = .ok (.iadd, 1) := by decide +kernel
theorem dX5_isWithin_21 : decode cX5_isWithin 21 = .ok (.iaload, 1) := by decide +kernel
theorem dX5_isWithin_22 : decode cX5_isWithin 22 = .ok (.iload 4, 2) := by decide +kernel
theorem dX5_isWithin_24 : decode cX5_isWithin 24 = .ok (.if_icmp .ge 22, 3) := by decide +kernel
theorem dX5_isWithin_46 : decode cX5_isWithin 46 = .ok (.iconst 0, 1) := by decide +kernel
theorem dX5_isWithin_47 : decode cX5_isWithin 47 = .ok (.ireturn, 1) := by decide +kernel
theorem dX5_isWithin_27 : decode cX5_isWithin 27 = .ok (.iload 4, 2) := by decide +kernel
theorem dX5_isWithin_29 : decode cX5_isWithin 29 = .ok (.aload_n 0, 1) := by decide +kernel
theorem dX5_isWithin_30 : decode cX5_isWithin 30 = .ok (.getfield 15, 3) := by decide +kernel
theorem dX5_isWithin_33 : decode cX5_isWithin 33 = .ok (.iconst 3, 1) := by decide +kernel
theorem dX5_isWithin_34 : decode cX5_isWithin 34 = .ok (.iload_n 2, 1) := by decide +kernel
theorem dX5_isWithin_35 : decode cX5_isWithin 35 = .ok (.imul, 1) := by decide +kernel
theorem dX5_isWithin_36 : decode cX5_isWithin 36 = .ok (.iload_n 3, 1) := by decide +kernel
theorem dX5_isWithin_37 : decode cX5_isWithin 37 = .ok (.iadd, 1) := by decide +kernel
theorem dX5_isWithin_38 : decode cX5_isWithin 38 = .ok (.iaload, 1) := by decide +kernel
theorem dX5_isWithin_39 : decode cX5_isWithin 39 = .ok (.if_icmp .ge 7, 3) := by decide +kernel
theorem dX5_isWithin_42 : decode cX5_isWithin 42 = .ok (.iconst 1, 1) := by decide +kernel
theorem dX5_isWithin_43 : decode cX5_isWithin 43 = .ok (.goto 4, 3) := by decide +kernel
abbrev rm_kX5_isWithin : Room := { frames := 0, cells := 0, slots := 0, locals := 0 }
set_option maxHeartbeats 4000000 in
set_option maxRecDepth 100000 in
theorem kX5_isWithin (l : Launch) (g : zL) (h0 : Nat) (x1 : Int32) (x2 : Int32) (x3 : Int32) (h0_low : Nat) (h0_high : Nat) (h0_normal : Nat) (h0_corner : Nat) (h0_east : Nat) (h0_north : Nat) (h0_start : Nat) (h0_far : Nat) (f_h0_low : Nat → Int32) (f_h0_high : Nat → Int32) (hy0 : 0 ≤ x1.toInt ∧ x1.toInt ≤ 17) (hy1 : 0 ≤ x2.toInt ∧ x2.toInt ≤ 17) (hy2 : 0 ≤ x3.toInt ∧ x3.toInt ≤ 2) : zCi l g yX5_isWithin cX5_isWithin 5 (some .boolean) rm_kX5_isWithin [.ref h0, .int x1, .int x2, .int x3] [(h0, .inr (5, [.ref h0_low, .ref h0_high, .ref h0_normal, .ref h0_corner, .ref h0_east, .ref h0_north, .ref h0_start, .ref h0_far])), (h0_low, .inl (g.2.1.1, 54, .inl f_h0_low)), (h0_high, .inl (g.2.1.1, 54, .inl f_h0_high))] (fun (r : Int32) (u : Unit) => (0 ≤ r.toInt ∧ r.toInt ≤ 1)) (fun (u : Unit) => [(h0, .inr (5, [.ref h0_low, .ref h0_high, .ref h0_normal, .ref h0_corner, .ref h0_east, .ref h0_north, .ref h0_start, .ref h0_far])), (h0_low, .inl (g.2.1.1, 54, .inl f_h0_low)), (h0_high, .inl (g.2.1.1, 54, .inl f_h0_high))]) := by
  refine zCi.mk2 (by decide) (Nat.le_of_ble_eq_true rfl) ?_
  intro p e s m below meth c A args Q hE hret hP hD hS ls hl
  obtain ⟨hx, hb, hr, hml, hown, hG, hlocks, hnm, hX, hA⟩ := hE
  have hown : s.vm.findClass RX5 = some m.cls := hown
  have hl : lv_has ls 5 [(0, .ref h0), (1, .int x1), (2, .int x2), (3, .int x3)] := hl
  refine lv_aload_n hx hb dX5_isWithin_0 rfl (lv_at hl 0 rfl) ?_
  refine va_get (D := g.1) (ci := 5) (v := .ref h0_low) (C := RX5) (T := TX5) (N := 8) hx hb hG iX5 hown hX.1 hP 0 rfl rfl 0 (by decide) (hG _ wf_X5_11) (fun _ h9 => h9) rfl dX5_isWithin_1 ?_
  refine lv_iconst (v := 3) hx hb dX5_isWithin_4 (by decide) ?_
  refine lv_iload_n hx hb dX5_isWithin_5 rfl (lv_at hl 1 rfl) ?_
  refine lv_imul hx hb dX5_isWithin_6 ?_
  refine lv_topi (fun z1 e2 => ?_)
  have f3 : z1.toInt = (3 : Int) * x1.toInt := zm e2 (show (3 : Int32).toInt = (3 : Int) from by decide) (rfl : x1.toInt = _) (ox_49 (zr x1) hy0)
  refine lv_iload_n hx hb dX5_isWithin_7 rfl (lv_at hl 3 rfl) ?_
  refine lv_iadd hx hb dX5_isWithin_8 ?_
  refine lv_topi (fun z4 e5 => ?_)
  have f6 : z4.toInt = z1.toInt + x3.toInt := za e5 (rfl : z1.toInt = _) (rfl : x3.toInt = _) (ox_50 (zr x1) (zr x3) (zr z1) f3 hy0 hy2)
  refine va_iald hx hb hX.1 hP 1 0 rfl rfl (zin (rfl : z4.toInt = _) (ox_51 f3 f6 hy0 hy2)) dX5_isWithin_9 ?_
  refine lv_topi (fun z7 e8 => ?_)
  refine lv_istore (lv' := [(4, .int z7), (0, .ref h0), (1, .int x1), (2, .int x2), (3, .int x3)]) hx hb dX5_isWithin_10 hl (by decide) rfl (fun ls hl => ?_)
  refine lv_aload_n hx hb dX5_isWithin_12 rfl (lv_at hl 1 rfl) ?_
  refine va_get (D := g.1) (ci := 5) (v := .ref h0_low) (C := RX5) (T := TX5) (N := 8) hx hb hG iX5 hown hX.1 hP 0 rfl rfl 0 (by decide) (hG _ wf_X5_11) (fun _ h9 => h9) rfl dX5_isWithin_13 ?_
  refine lv_iconst (v := 3) hx hb dX5_isWithin_16 (by decide) ?_
  refine lv_iload_n hx hb dX5_isWithin_17 rfl (lv_at hl 3 rfl) ?_
  refine lv_imul hx hb dX5_isWithin_18 ?_
  refine lv_topi (fun z9 e10 => ?_)
  have f11 : z9.toInt = (3 : Int) * x2.toInt := zm e10 (show (3 : Int32).toInt = (3 : Int) from by decide) (rfl : x2.toInt = _) (ox_49 (zr x2) hy1)
  refine lv_iload_n hx hb dX5_isWithin_19 rfl (lv_at hl 4 rfl) ?_
  refine lv_iadd hx hb dX5_isWithin_20 ?_
  refine lv_topi (fun z12 e13 => ?_)
  have f14 : z12.toInt = z9.toInt + x3.toInt := za e13 (rfl : z9.toInt = _) (rfl : x3.toInt = _) (ox_65 (zr x1) (zr x2) (zr x3) (zr z1) (zr z4) (zr z9) f11 f3 f6 hy0 hy1 hy2)
  refine va_iald hx hb hX.1 hP 1 0 rfl rfl (zin (rfl : z12.toInt = _) (ox_66 f11 f14 f3 f6 hy0 hy1 hy2)) dX5_isWithin_21 ?_
  refine lv_topi (fun z15 e16 => ?_)
  refine lv_iload hx hb dX5_isWithin_22 (lv_at hl 0 rfl) ?_
  refine lv_icmp_ge (tgt := 46) hx hb dX5_isWithin_24 (by decide) (fun c17 => ?_) (fun c17 => ?_)
  · skip
    have c17i : z7.toInt ≤ z15.toInt := (zc_le (rfl : z7.toInt = _) (rfl : z15.toInt = _)).mp c17
    refine lv_iconst (v := 0) hx hb dX5_isWithin_46 (by decide) ?_
    exact hret (0 : Int32) () (Nat.le_of_ble_eq_true rfl) (Nat.le_of_ble_eq_true rfl) rfl ((show 0 ≤ (0 : Int) ∧ (0 : Int) ≤ 1 from by decide)) hP hD hS dX5_isWithin_47
  · skip
    have c17i : ¬ (z7.toInt ≤ z15.toInt) := fun q => c17 ((zc_le (rfl : z7.toInt = _) (rfl : z15.toInt = _)).mpr q)
    refine lv_iload hx hb dX5_isWithin_27 (lv_at hl 0 rfl) ?_
    refine lv_aload_n hx hb dX5_isWithin_29 rfl (lv_at hl 1 rfl) ?_
    refine va_get (D := g.1) (ci := 5) (v := .ref h0_high) (C := RX5) (T := TX5) (N := 8) hx hb hG iX5 hown hX.1 hP 0 rfl rfl 1 (by decide) (hG _ wf_X5_15) (fun _ h9 => h9) rfl dX5_isWithin_30 ?_
    refine lv_iconst (v := 3) hx hb dX5_isWithin_33 (by decide) ?_
    refine lv_iload_n hx hb dX5_isWithin_34 rfl (lv_at hl 3 rfl) ?_
    refine lv_imul hx hb dX5_isWithin_35 ?_
    refine lv_topi (fun z18 e19 => ?_)
    have f20 : z18.toInt = (3 : Int) * x2.toInt := zm e19 (show (3 : Int32).toInt = (3 : Int) from by decide) (rfl : x2.toInt = _) (ox_67 (zr x1) (zr x2) (zr x3) (zr z1) (zr z12) (zr z4) (zr z9) f11 f14 f3 f6 hy0 hy1 hy2)
    refine lv_iload_n hx hb dX5_isWithin_36 rfl (lv_at hl 4 rfl) ?_
    refine lv_iadd hx hb dX5_isWithin_37 ?_
    refine lv_topi (fun z21 e22 => ?_)
    have f23 : z21.toInt = z18.toInt + x3.toInt := za e22 (rfl : z18.toInt = _) (rfl : x3.toInt = _) (ox_68 (zr x1) (zr x2) (zr x3) (zr z1) (zr z12) (zr z18) (zr z4) (zr z9) f11 f14 f20 f3 f6 hy0 hy1 hy2)
    refine va_iald hx hb hX.1 hP 2 0 rfl rfl (zin (rfl : z21.toInt = _) (ox_69 f11 f14 f20 f23 f3 f6 hy0 hy1 hy2)) dX5_isWithin_38 ?_
    refine lv_topi (fun z24 e25 => ?_)
    refine lv_icmp_ge (tgt := 46) hx hb dX5_isWithin_39 (by decide) (fun c26 => ?_) (fun c26 => ?_)
    · skip
      have c26i : z24.toInt ≤ z7.toInt := (zc_le (rfl : z24.toInt = _) (rfl : z7.toInt = _)).mp c26
      refine lv_iconst (v := 0) hx hb dX5_isWithin_46 (by decide) ?_
      exact hret (0 : Int32) () (Nat.le_of_ble_eq_true rfl) (Nat.le_of_ble_eq_true rfl) rfl ((show 0 ≤ (0 : Int) ∧ (0 : Int) ≤ 1 from by decide)) hP hD hS dX5_isWithin_47
    · skip
      have c26i : ¬ (z24.toInt ≤ z7.toInt) := fun q => c26 ((zc_le (rfl : z24.toInt = _) (rfl : z7.toInt = _)).mpr q)
      refine lv_iconst (v := 1) hx hb dX5_isWithin_42 (by decide) ?_
      refine lv_goto (tgt := 47) hx hb dX5_isWithin_43 (by decide) ?_
      exact hret (1 : Int32) () (Nat.le_of_ble_eq_true rfl) (Nat.le_of_ble_eq_true rfl) rfl ((show 0 ≤ (1 : Int) ∧ (1 : Int) ≤ 1 from by decide)) hP hD hS dX5_isWithin_47
theorem dX5_doClash_0 : decode cX5_doClash 0 = .ok (.aload_n 0, 1) := by decide +kernel
theorem dX5_doClash_1 : decode cX5_doClash 1 = .ok (.getfield 18, 3) := by decide +kernel
theorem dX5_doClash_4 : decode cX5_doClash 4 = .ok (.iload_n 1, 1) := by decide +kernel
theorem dX5_doClash_5 : decode cX5_doClash 5 = .ok (.iaload, 1) := by decide +kernel
theorem dX5_doClash_6 : decode cX5_doClash 6 = .ok (.iconst 1, 1) := by decide +kernel
theorem dX5_doClash_7 : decode cX5_doClash 7 = .ok (.ishr, 1) := by decide +kernel
theorem dX5_doClash_8 : decode cX5_doClash 8 = .ok (.istore_n 3, 1) := by decide +kernel
theorem dX5_doClash_9 : decode cX5_doClash 9 = .ok (.aload_n 0, 1) := by decide +kernel
theorem dX5_doClash_10 : decode cX5_doClash 10 = .ok (.getfield 18, 3) := by decide +kernel
theorem dX5_doClash_13 : decode cX5_doClash 13 = .ok (.iload_n 2, 1) := by decide +kernel
theorem dX5_doClash_14 : decode cX5_doClash 14 = .ok (.iaload, 1) := by decide +kernel
theorem dX5_doClash_15 : decode cX5_doClash 15 = .ok (.iconst 1, 1) := by decide +kernel
theorem dX5_doClash_16 : decode cX5_doClash 16 = .ok (.ishr, 1) := by decide +kernel
theorem dX5_doClash_17 : decode cX5_doClash 17 = .ok (.istore 4, 2) := by decide +kernel
theorem dX5_doClash_19 : decode cX5_doClash 19 = .ok (.iload_n 3, 1) := by decide +kernel
theorem dX5_doClash_20 : decode cX5_doClash 20 = .ok (.iload 4, 2) := by decide +kernel
theorem dX5_doClash_22 : decode cX5_doClash 22 = .ok (.if_icmp .ne 60, 3) := by decide +kernel
theorem dX5_doClash_82 : decode cX5_doClash 82 = .ok (.aload_n 0, 1) := by decide +kernel
theorem dX5_doClash_83 : decode cX5_doClash 83 = .ok (.iload_n 1, 1) := by decide +kernel
theorem dX5_doClash_84 : decode cX5_doClash 84 = .ok (.iload_n 2, 1) := by decide +kernel
theorem dX5_doClash_85 : decode cX5_doClash 85 = .ok (.iload_n 3, 1) := by decide +kernel
theorem dX5_doClash_86 : decode cX5_doClash 86 = .ok (.invokevirtual 154, 3) := by decide +kernel
theorem dX5_doClash_89 : decode cX5_doClash 89 = .ok (.ifCond .eq 33, 3) := by decide +kernel
theorem dX5_doClash_122 : decode cX5_doClash 122 = .ok (.iconst 0, 1) := by decide +kernel
theorem dX5_doClash_123 : decode cX5_doClash 123 = .ok (.ireturn, 1) := by decide +kernel
theorem dX5_doClash_92 : decode cX5_doClash 92 = .ok (.aload_n 0, 1) := by decide +kernel
theorem dX5_doClash_93 : decode cX5_doClash 93 = .ok (.iload_n 2, 1) := by decide +kernel
theorem dX5_doClash_94 : decode cX5_doClash 94 = .ok (.iload_n 1, 1) := by decide +kernel
theorem dX5_doClash_95 : decode cX5_doClash 95 = .ok (.iload 4, 2) := by decide +kernel
theorem dX5_doClash_97 : decode cX5_doClash 97 = .ok (.invokevirtual 154, 3) := by decide +kernel
theorem dX5_doClash_100 : decode cX5_doClash 100 = .ok (.ifCond .eq 22, 3) := by decide +kernel
theorem dX5_doClash_103 : decode cX5_doClash 103 = .ok (.aload_n 0, 1) := by decide +kernel
theorem dX5_doClash_104 : decode cX5_doClash 104 = .ok (.iload_n 1, 1) := by decide +kernel
theorem dX5_doClash_105 : decode cX5_doClash 105 = .ok (.iload_n 2, 1) := by decide +kernel
theorem dX5_doClash_106 : decode cX5_doClash 106 = .ok (.iconst 3, 1) := by decide +kernel
theorem dX5_doClash_107 : decode cX5_doClash 107 = .ok (.iload_n 3, 1) := by decide +kernel
theorem dX5_doClash_108 : decode cX5_doClash 108 = .ok (.isub, 1) := by decide +kernel
theorem dX5_doClash_109 : decode cX5_doClash 109 = .ok (.iload 4, 2) := by decide +kernel
theorem dX5_doClash_111 : decode cX5_doClash 111 = .ok (.isub, 1) := by decide +kernel
theorem dX5_doClash_112 : decode cX5_doClash 112 = .ok (.invokevirtual 147, 3) := by decide +kernel
theorem dX5_doClash_115 : decode cX5_doClash 115 = .ok (.ifCond .eq 7, 3) := by decide +kernel
theorem dX5_doClash_118 : decode cX5_doClash 118 = .ok (.iconst 1, 1) := by decide +kernel
theorem dX5_doClash_119 : decode cX5_doClash 119 = .ok (.goto 4, 3) := by decide +kernel
theorem dX5_doClash_25 : decode cX5_doClash 25 = .ok (.aload_n 0, 1) := by decide +kernel
theorem dX5_doClash_26 : decode cX5_doClash 26 = .ok (.getfield 11, 3) := by decide +kernel
theorem dX5_doClash_29 : decode cX5_doClash 29 = .ok (.iconst 3, 1) := by decide +kernel
theorem dX5_doClash_30 : decode cX5_doClash 30 = .ok (.iload_n 1, 1) := by decide +kernel
theorem dX5_doClash_31 : decode cX5_doClash 31 = .ok (.imul, 1) := by decide +kernel
theorem dX5_doClash_32 : decode cX5_doClash 32 = .ok (.iload_n 3, 1) := by decide +kernel
theorem dX5_doClash_33 : decode cX5_doClash 33 = .ok (.iadd, 1) := by decide +kernel
theorem dX5_doClash_34 : decode cX5_doClash 34 = .ok (.iaload, 1) := by decide +kernel
theorem dX5_doClash_35 : decode cX5_doClash 35 = .ok (.aload_n 0, 1) := by decide +kernel
theorem dX5_doClash_36 : decode cX5_doClash 36 = .ok (.getfield 11, 3) := by decide +kernel
theorem dX5_doClash_39 : decode cX5_doClash 39 = .ok (.iconst 3, 1) := by decide +kernel
theorem dX5_doClash_40 : decode cX5_doClash 40 = .ok (.iload_n 2, 1) := by decide +kernel
theorem dX5_doClash_41 : decode cX5_doClash 41 = .ok (.imul, 1) := by decide +kernel
theorem dX5_doClash_42 : decode cX5_doClash 42 = .ok (.iload_n 3, 1) := by decide +kernel
theorem dX5_doClash_43 : decode cX5_doClash 43 = .ok (.iadd, 1) := by decide +kernel
theorem dX5_doClash_44 : decode cX5_doClash 44 = .ok (.iaload, 1) := by decide +kernel
theorem dX5_doClash_45 : decode cX5_doClash 45 = .ok (.if_icmp .ne 35, 3) := by decide +kernel
theorem dX5_doClash_80 : decode cX5_doClash 80 = .ok (.iconst 0, 1) := by decide +kernel
theorem dX5_doClash_81 : decode cX5_doClash 81 = .ok (.ireturn, 1) := by decide +kernel
theorem dX5_doClash_48 : decode cX5_doClash 48 = .ok (.aload_n 0, 1) := by decide +kernel
theorem dX5_doClash_49 : decode cX5_doClash 49 = .ok (.iload_n 1, 1) := by decide +kernel
theorem dX5_doClash_50 : decode cX5_doClash 50 = .ok (.iload_n 2, 1) := by decide +kernel
theorem dX5_doClash_51 : decode cX5_doClash 51 = .ok (.iload_n 3, 1) := by decide +kernel
theorem dX5_doClash_52 : decode cX5_doClash 52 = .ok (.iconst 1, 1) := by decide +kernel
theorem dX5_doClash_53 : decode cX5_doClash 53 = .ok (.iadd, 1) := by decide +kernel
theorem dX5_doClash_54 : decode cX5_doClash 54 = .ok (.iconst 3, 1) := by decide +kernel
theorem dX5_doClash_55 : decode cX5_doClash 55 = .ok (.irem, 1) := by decide +kernel
theorem dX5_doClash_56 : decode cX5_doClash 56 = .ok (.invokevirtual 147, 3) := by decide +kernel
theorem dX5_doClash_59 : decode cX5_doClash 59 = .ok (.ifCond .eq 21, 3) := by decide +kernel
theorem dX5_doClash_62 : decode cX5_doClash 62 = .ok (.aload_n 0, 1) := by decide +kernel
theorem dX5_doClash_63 : decode cX5_doClash 63 = .ok (.iload_n 1, 1) := by decide +kernel
theorem dX5_doClash_64 : decode cX5_doClash 64 = .ok (.iload_n 2, 1) := by decide +kernel
theorem dX5_doClash_65 : decode cX5_doClash 65 = .ok (.iload_n 3, 1) := by decide +kernel
theorem dX5_doClash_66 : decode cX5_doClash 66 = .ok (.iconst 2, 1) := by decide +kernel
theorem dX5_doClash_67 : decode cX5_doClash 67 = .ok (.iadd, 1) := by decide +kernel
theorem dX5_doClash_68 : decode cX5_doClash 68 = .ok (.iconst 3, 1) := by decide +kernel
theorem dX5_doClash_69 : decode cX5_doClash 69 = .ok (.irem, 1) := by decide +kernel
theorem dX5_doClash_70 : decode cX5_doClash 70 = .ok (.invokevirtual 147, 3) := by decide +kernel
theorem dX5_doClash_73 : decode cX5_doClash 73 = .ok (.ifCond .eq 7, 3) := by decide +kernel
theorem dX5_doClash_76 : decode cX5_doClash 76 = .ok (.iconst 1, 1) := by decide +kernel
theorem dX5_doClash_77 : decode cX5_doClash 77 = .ok (.goto 4, 3) := by decide +kernel
abbrev rm_kX5_doClash : Room := { frames := 1, cells := 0, slots := 0, locals := 27 }
set_option maxHeartbeats 4000000 in
set_option maxRecDepth 100000 in
theorem kX5_doClash (l : Launch) (g : zL) (h0 : Nat) (x1 : Int32) (x2 : Int32) (h0_low : Nat) (h0_high : Nat) (h0_normal : Nat) (h0_corner : Nat) (h0_east : Nat) (h0_north : Nat) (h0_start : Nat) (h0_far : Nat) (f_h0_normal : Nat → Int32) (f_h0_low : Nat → Int32) (f_h0_high : Nat → Int32) (hy0 : 0 ≤ x1.toInt ∧ x1.toInt ≤ 17) (hy1 : 0 ≤ x2.toInt ∧ x2.toInt ≤ 17) (hy2 : aI 0 5 f_h0_normal) : zCi l g yX5_doClash cX5_doClash 5 (some .boolean) rm_kX5_doClash [.ref h0, .int x1, .int x2] [(h0, .inr (5, [.ref h0_low, .ref h0_high, .ref h0_normal, .ref h0_corner, .ref h0_east, .ref h0_north, .ref h0_start, .ref h0_far])), (h0_normal, .inl (g.2.1.1, 18, .inl f_h0_normal)), (h0_low, .inl (g.2.1.1, 54, .inl f_h0_low)), (h0_high, .inl (g.2.1.1, 54, .inl f_h0_high))] (fun (r : Int32) (u : Unit) => (0 ≤ r.toInt ∧ r.toInt ≤ 1)) (fun (u : Unit) => [(h0, .inr (5, [.ref h0_low, .ref h0_high, .ref h0_normal, .ref h0_corner, .ref h0_east, .ref h0_north, .ref h0_start, .ref h0_far])), (h0_normal, .inl (g.2.1.1, 18, .inl f_h0_normal)), (h0_low, .inl (g.2.1.1, 54, .inl f_h0_low)), (h0_high, .inl (g.2.1.1, 54, .inl f_h0_high))]) := by
  refine zCi.mk2 (by decide) (Nat.le_of_ble_eq_true rfl) ?_
  intro p e s m below meth c A args Q hE hret hP hD hS ls hl
  obtain ⟨hx, hb, hr, hml, hown, hG, hlocks, hnm, hX, hA⟩ := hE
  have hown : s.vm.findClass RX5 = some m.cls := hown
  have hl : lv_has ls 5 [(0, .ref h0), (1, .int x1), (2, .int x2)] := hl
  refine lv_aload_n hx hb dX5_doClash_0 rfl (lv_at hl 0 rfl) ?_
  refine va_get (D := g.1) (ci := 5) (v := .ref h0_normal) (C := RX5) (T := TX5) (N := 8) hx hb hG iX5 hown hX.1 hP 0 rfl rfl 2 (by decide) (hG _ wf_X5_18) (fun _ h9 => h9) rfl dX5_doClash_1 ?_
  refine lv_iload_n hx hb dX5_doClash_4 rfl (lv_at hl 1 rfl) ?_
  refine va_iald hx hb hX.1 hP 1 0 rfl rfl (zin (rfl : x1.toInt = _) (ox_52 hy0)) dX5_doClash_5 ?_
  refine lv_topi (fun z1 e2 => ?_)
  have i3 : 0 ≤ z1.toInt ∧ z1.toInt ≤ 5 := hy2.at e2
  refine lv_iconst (v := 1) hx hb dX5_doClash_6 (by decide) ?_
  refine lv_ishr hx hb dX5_doClash_7 ?_
  refine lv_topi (fun z4 e5 => ?_)
  have f6 : z4.toInt = z1.toInt / 2 := zshr 1 e5 (by decide) (rfl : z1.toInt = _)
  refine lv_istore_n (lv' := [(3, .int z4), (0, .ref h0), (1, .int x1), (2, .int x2)]) hx hb dX5_doClash_8 rfl hl (by decide) rfl (fun ls hl => ?_)
  refine lv_aload_n hx hb dX5_doClash_9 rfl (lv_at hl 1 rfl) ?_
  refine va_get (D := g.1) (ci := 5) (v := .ref h0_normal) (C := RX5) (T := TX5) (N := 8) hx hb hG iX5 hown hX.1 hP 0 rfl rfl 2 (by decide) (hG _ wf_X5_18) (fun _ h9 => h9) rfl dX5_doClash_10 ?_
  refine lv_iload_n hx hb dX5_doClash_13 rfl (lv_at hl 3 rfl) ?_
  refine va_iald hx hb hX.1 hP 1 0 rfl rfl (zin (rfl : x2.toInt = _) (ox_52 hy1)) dX5_doClash_14 ?_
  refine lv_topi (fun z7 e8 => ?_)
  have i9 : 0 ≤ z7.toInt ∧ z7.toInt ≤ 5 := hy2.at e8
  refine lv_iconst (v := 1) hx hb dX5_doClash_15 (by decide) ?_
  refine lv_ishr hx hb dX5_doClash_16 ?_
  refine lv_topi (fun z10 e11 => ?_)
  have f12 : z10.toInt = z7.toInt / 2 := zshr 1 e11 (by decide) (rfl : z7.toInt = _)
  refine lv_istore (lv' := [(4, .int z10), (3, .int z4), (0, .ref h0), (1, .int x1), (2, .int x2)]) hx hb dX5_doClash_17 hl (by decide) rfl (fun ls hl => ?_)
  refine lv_iload_n hx hb dX5_doClash_19 rfl (lv_at hl 1 rfl) ?_
  refine lv_iload hx hb dX5_doClash_20 (lv_at hl 0 rfl) ?_
  refine lv_icmp_ne (tgt := 82) hx hb dX5_doClash_22 (by decide) (fun c13 => ?_) (fun c13 => ?_)
  · skip
    have c13i : ¬ (z4.toInt = z10.toInt) := fun q => c13 ((zc_eq (rfl : z4.toInt = _) (rfl : z10.toInt = _)).mpr q)
    refine lv_aload_n hx hb dX5_doClash_82 rfl (lv_at hl 2 rfl) ?_
    refine lv_iload_n hx hb dX5_doClash_83 rfl (lv_at hl 3 rfl) ?_
    refine lv_iload_n hx hb dX5_doClash_84 rfl (lv_at hl 4 rfl) ?_
    refine lv_iload_n hx hb dX5_doClash_85 rfl (lv_at hl 1 rfl) ?_
    refine zfi (wr := [(h0_normal, .inl (g.2.1.1, 18, .inl f_h0_normal))]) (va_runV (As := [.int x1, .int x2, .int z4]) (rest := []) ⟨hx, hb, hml, hown, hG⟩ (kX5_isWithin l g h0 x1 x2 z4 h0_low h0_high h0_normal h0_corner h0_east h0_north h0_start h0_far f_h0_low f_h0_high (ox_70 hy0) (ox_70 hy1) (ox_71 c13i f12 f6 i3 i9) _) ⟨callB_of 3 hG (zGood wc_X5_isWithin) rfl rfl rfl (hG _ wini_X5) (hG _ wm_X5_154) hX5_isWithin ⟨Nat.le_of_ble_eq_true rfl, Nat.le_of_ble_eq_true rfl⟩, hG _ wi_X5_isWithin, hG _ wse_X5_X5_isWithin⟩ (zpreV (va_recv hX.1 hP (ci := 5) (q0 := 0) rfl rfl) hX hP hD hS hA [0, 2, 3] rfl (by decide)) rfl rfl hl.1 rfl (lv_room (Nat.le_of_ble_eq_true rfl)) dX5_doClash_86 ⟨Nat.le_of_ble_eq_true rfl, Nat.le_of_ble_eq_true rfl⟩) hP hD hS hA [0, 2, 3] [1] rfl rfl (by decide) (by decide) (fun r14 _ H locs hp hP hD hS => ?_)
    refine W.cs (cells' := 0) (slots' := 0) rfl rfl ?_
    have hq15 : 0 ≤ r14.toInt ∧ r14.toInt ≤ 1 := hp
    have hP : va_P g.1 vwCl [(h0_normal, .inl (g.2.1.1, 18, .inl f_h0_normal)), (h0, .inr (5, [.ref h0_low, .ref h0_high, .ref h0_normal, .ref h0_corner, .ref h0_east, .ref h0_north, .ref h0_start, .ref h0_far])), (h0_low, .inl (g.2.1.1, 54, .inl f_h0_low)), (h0_high, .inl (g.2.1.1, 54, .inl f_h0_high))] H := hP
    have hD : va_D A [(h0_normal, .inl (g.2.1.1, 18, .inl f_h0_normal)), (h0, .inr (5, [.ref h0_low, .ref h0_high, .ref h0_normal, .ref h0_corner, .ref h0_east, .ref h0_north, .ref h0_start, .ref h0_far])), (h0_low, .inl (g.2.1.1, 54, .inl f_h0_low)), (h0_high, .inl (g.2.1.1, 54, .inl f_h0_high))] := hD
    refine lv_if_eq (tgt := 122) hx hb dX5_doClash_89 (by decide) (fun c16 => ?_) (fun c16 => ?_)
    · skip
      have c16i : r14.toInt = (0 : Int) := (zc_eq (rfl : r14.toInt = _) (show (0 : Int32).toInt = (0 : Int) from by decide)).mp c16
      refine lv_iconst (v := 0) hx hb dX5_doClash_122 (by decide) ?_
      exact hret (0 : Int32) () (Nat.le_of_ble_eq_true rfl) (Nat.le_of_ble_eq_true rfl) rfl ((show 0 ≤ (0 : Int) ∧ (0 : Int) ≤ 1 from by decide)) (hP.sub [1, 0, 2, 3] rfl) (hD.sub [1, 0, 2, 3] (by decide) rfl) hS dX5_doClash_123
    · skip
      have c16i : ¬ (r14.toInt = (0 : Int)) := fun q => c16 ((zc_eq (rfl : r14.toInt = _) (show (0 : Int32).toInt = (0 : Int) from by decide)).mpr q)
      refine lv_aload_n hx hb dX5_doClash_92 rfl (lv_at hl 2 rfl) ?_
      refine lv_iload_n hx hb dX5_doClash_93 rfl (lv_at hl 4 rfl) ?_
      refine lv_iload_n hx hb dX5_doClash_94 rfl (lv_at hl 3 rfl) ?_
      refine lv_iload hx hb dX5_doClash_95 (lv_at hl 0 rfl) ?_
      refine zfi (wr := [(h0_normal, .inl (g.2.1.1, 18, .inl f_h0_normal))]) (va_runV (As := [.int x2, .int x1, .int z10]) (rest := []) ⟨hx, hb, hml, hown, hG⟩ (kX5_isWithin l g h0 x2 x1 z10 h0_low h0_high h0_normal h0_corner h0_east h0_north h0_start h0_far f_h0_low f_h0_high (ox_70 hy1) (ox_70 hy0) (ox_72 c13i f12 f6 i3 i9) _) ⟨callB_of 3 hG (zGood wc_X5_isWithin) rfl rfl rfl (hG _ wini_X5) (hG _ wm_X5_154) hX5_isWithin ⟨Nat.le_of_ble_eq_true rfl, Nat.le_of_ble_eq_true rfl⟩, hG _ wi_X5_isWithin, hG _ wse_X5_X5_isWithin⟩ (zpreV (va_recv hX.1 hP (ci := 5) (q0 := 1) rfl rfl) hX hP hD hS hA [1, 2, 3] rfl (by decide)) rfl rfl hl.1 rfl (lv_room (Nat.le_of_ble_eq_true rfl)) dX5_doClash_97 ⟨Nat.le_of_ble_eq_true rfl, Nat.le_of_ble_eq_true rfl⟩) hP hD hS hA [1, 2, 3] [0] rfl rfl (by decide) (by decide) (fun r17 _ H locs hp hP hD hS => ?_)
      refine W.cs (cells' := 0) (slots' := 0) rfl rfl ?_
      have hq18 : 0 ≤ r17.toInt ∧ r17.toInt ≤ 1 := hp
      have hP : va_P g.1 vwCl [(h0_normal, .inl (g.2.1.1, 18, .inl f_h0_normal)), (h0, .inr (5, [.ref h0_low, .ref h0_high, .ref h0_normal, .ref h0_corner, .ref h0_east, .ref h0_north, .ref h0_start, .ref h0_far])), (h0_low, .inl (g.2.1.1, 54, .inl f_h0_low)), (h0_high, .inl (g.2.1.1, 54, .inl f_h0_high))] H := hP
      have hD : va_D A [(h0_normal, .inl (g.2.1.1, 18, .inl f_h0_normal)), (h0, .inr (5, [.ref h0_low, .ref h0_high, .ref h0_normal, .ref h0_corner, .ref h0_east, .ref h0_north, .ref h0_start, .ref h0_far])), (h0_low, .inl (g.2.1.1, 54, .inl f_h0_low)), (h0_high, .inl (g.2.1.1, 54, .inl f_h0_high))] := hD
      refine lv_if_eq (tgt := 122) hx hb dX5_doClash_100 (by decide) (fun c19 => ?_) (fun c19 => ?_)
      · skip
        have c19i : r17.toInt = (0 : Int) := (zc_eq (rfl : r17.toInt = _) (show (0 : Int32).toInt = (0 : Int) from by decide)).mp c19
        refine lv_iconst (v := 0) hx hb dX5_doClash_122 (by decide) ?_
        exact hret (0 : Int32) () (Nat.le_of_ble_eq_true rfl) (Nat.le_of_ble_eq_true rfl) rfl ((show 0 ≤ (0 : Int) ∧ (0 : Int) ≤ 1 from by decide)) (hP.sub [1, 0, 2, 3] rfl) (hD.sub [1, 0, 2, 3] (by decide) rfl) hS dX5_doClash_123
      · skip
        have c19i : ¬ (r17.toInt = (0 : Int)) := fun q => c19 ((zc_eq (rfl : r17.toInt = _) (show (0 : Int32).toInt = (0 : Int) from by decide)).mpr q)
        refine lv_aload_n hx hb dX5_doClash_103 rfl (lv_at hl 2 rfl) ?_
        refine lv_iload_n hx hb dX5_doClash_104 rfl (lv_at hl 3 rfl) ?_
        refine lv_iload_n hx hb dX5_doClash_105 rfl (lv_at hl 4 rfl) ?_
        refine lv_iconst (v := 3) hx hb dX5_doClash_106 (by decide) ?_
        refine lv_iload_n hx hb dX5_doClash_107 rfl (lv_at hl 1 rfl) ?_
        refine lv_isub hx hb dX5_doClash_108 ?_
        refine lv_topi (fun z20 e21 => ?_)
        have f22 : z20.toInt = (3 : Int) - z4.toInt := zs e21 (show (3 : Int32).toInt = (3 : Int) from by decide) (rfl : z4.toInt = _) (ox_73 (zr z1) (zr z10) (zr z4) (zr z7) c13i f12 f6 i3 i9)
        refine lv_iload hx hb dX5_doClash_109 (lv_at hl 0 rfl) ?_
        refine lv_isub hx hb dX5_doClash_111 ?_
        refine lv_topi (fun z23 e24 => ?_)
        have f25 : z23.toInt = z20.toInt - z10.toInt := zs e24 (rfl : z20.toInt = _) (rfl : z10.toInt = _) (ox_74 (zr z1) (zr z10) (zr z20) (zr z4) (zr z7) c13i f12 f22 f6 i3 i9)
        refine zfi (wr := [(h0_normal, .inl (g.2.1.1, 18, .inl f_h0_normal))]) (va_runV (As := [.int x1, .int x2, .int z23]) (rest := []) ⟨hx, hb, hml, hown, hG⟩ (kX5_share l g h0 x1 x2 z23 h0_low h0_high h0_normal h0_corner h0_east h0_north h0_start h0_far f_h0_low f_h0_high (ox_70 hy0) (ox_70 hy1) (ox_75 c13i f12 f22 f25 f6 i3 i9) _) ⟨callB_of 3 hG (zGood wc_X5_share) rfl rfl rfl (hG _ wini_X5) (hG _ wm_X5_147) hX5_share ⟨Nat.le_of_ble_eq_true rfl, Nat.le_of_ble_eq_true rfl⟩, hG _ wi_X5_share, hG _ wse_X5_X5_share⟩ (zpreV (va_recv hX.1 hP (ci := 5) (q0 := 1) rfl rfl) hX hP hD hS hA [1, 2, 3] rfl (by decide)) rfl rfl hl.1 rfl (lv_room (Nat.le_of_ble_eq_true rfl)) dX5_doClash_112 ⟨Nat.le_of_ble_eq_true rfl, Nat.le_of_ble_eq_true rfl⟩) hP hD hS hA [1, 2, 3] [0] rfl rfl (by decide) (by decide) (fun r26 _ H locs hp hP hD hS => ?_)
        refine W.cs (cells' := 0) (slots' := 0) rfl rfl ?_
        have hq27 : 0 ≤ r26.toInt ∧ r26.toInt ≤ 1 := hp
        have hP : va_P g.1 vwCl [(h0_normal, .inl (g.2.1.1, 18, .inl f_h0_normal)), (h0, .inr (5, [.ref h0_low, .ref h0_high, .ref h0_normal, .ref h0_corner, .ref h0_east, .ref h0_north, .ref h0_start, .ref h0_far])), (h0_low, .inl (g.2.1.1, 54, .inl f_h0_low)), (h0_high, .inl (g.2.1.1, 54, .inl f_h0_high))] H := hP
        have hD : va_D A [(h0_normal, .inl (g.2.1.1, 18, .inl f_h0_normal)), (h0, .inr (5, [.ref h0_low, .ref h0_high, .ref h0_normal, .ref h0_corner, .ref h0_east, .ref h0_north, .ref h0_start, .ref h0_far])), (h0_low, .inl (g.2.1.1, 54, .inl f_h0_low)), (h0_high, .inl (g.2.1.1, 54, .inl f_h0_high))] := hD
        refine lv_if_eq (tgt := 122) hx hb dX5_doClash_115 (by decide) (fun c28 => ?_) (fun c28 => ?_)
        · skip
          have c28i : r26.toInt = (0 : Int) := (zc_eq (rfl : r26.toInt = _) (show (0 : Int32).toInt = (0 : Int) from by decide)).mp c28
          refine lv_iconst (v := 0) hx hb dX5_doClash_122 (by decide) ?_
          exact hret (0 : Int32) () (Nat.le_of_ble_eq_true rfl) (Nat.le_of_ble_eq_true rfl) rfl ((show 0 ≤ (0 : Int) ∧ (0 : Int) ≤ 1 from by decide)) (hP.sub [1, 0, 2, 3] rfl) (hD.sub [1, 0, 2, 3] (by decide) rfl) hS dX5_doClash_123
        · skip
          have c28i : ¬ (r26.toInt = (0 : Int)) := fun q => c28 ((zc_eq (rfl : r26.toInt = _) (show (0 : Int32).toInt = (0 : Int) from by decide)).mpr q)
          refine lv_iconst (v := 1) hx hb dX5_doClash_118 (by decide) ?_
          refine lv_goto (tgt := 123) hx hb dX5_doClash_119 (by decide) ?_
          exact hret (1 : Int32) () (Nat.le_of_ble_eq_true rfl) (Nat.le_of_ble_eq_true rfl) rfl ((show 0 ≤ (1 : Int) ∧ (1 : Int) ≤ 1 from by decide)) (hP.sub [1, 0, 2, 3] rfl) (hD.sub [1, 0, 2, 3] (by decide) rfl) hS dX5_doClash_123
  · skip
    have c13i : z4.toInt = z10.toInt := (zc_eq (rfl : z4.toInt = _) (rfl : z10.toInt = _)).mp c13
    refine lv_aload_n hx hb dX5_doClash_25 rfl (lv_at hl 2 rfl) ?_
    refine va_get (D := g.1) (ci := 5) (v := .ref h0_low) (C := RX5) (T := TX5) (N := 8) hx hb hG iX5 hown hX.1 hP 0 rfl rfl 0 (by decide) (hG _ wf_X5_11) (fun _ h9 => h9) rfl dX5_doClash_26 ?_
    refine lv_iconst (v := 3) hx hb dX5_doClash_29 (by decide) ?_
    refine lv_iload_n hx hb dX5_doClash_30 rfl (lv_at hl 3 rfl) ?_
    refine lv_imul hx hb dX5_doClash_31 ?_
    refine lv_topi (fun z29 e30 => ?_)
    have f31 : z29.toInt = (3 : Int) * x1.toInt := zm e30 (show (3 : Int32).toInt = (3 : Int) from by decide) (rfl : x1.toInt = _) (ox_49 (zr x1) hy0)
    refine lv_iload_n hx hb dX5_doClash_32 rfl (lv_at hl 1 rfl) ?_
    refine lv_iadd hx hb dX5_doClash_33 ?_
    refine lv_topi (fun z32 e33 => ?_)
    have f34 : z32.toInt = z29.toInt + z4.toInt := za e33 (rfl : z29.toInt = _) (rfl : z4.toInt = _) (ox_76 (zr x1) (zr z1) (zr z10) (zr z29) (zr z4) (zr z7) c13i f12 f31 f6 hy0 i3 i9)
    refine va_iald hx hb hX.1 hP 2 0 rfl rfl (zin (rfl : z32.toInt = _) (ox_77 c13i f12 f31 f34 f6 hy0 i3 i9)) dX5_doClash_34 ?_
    refine lv_topi (fun z35 e36 => ?_)
    refine lv_aload_n hx hb dX5_doClash_35 rfl (lv_at hl 2 rfl) ?_
    refine va_get (D := g.1) (ci := 5) (v := .ref h0_low) (C := RX5) (T := TX5) (N := 8) hx hb hG iX5 hown hX.1 hP 0 rfl rfl 0 (by decide) (hG _ wf_X5_11) (fun _ h9 => h9) rfl dX5_doClash_36 ?_
    refine lv_iconst (v := 3) hx hb dX5_doClash_39 (by decide) ?_
    refine lv_iload_n hx hb dX5_doClash_40 rfl (lv_at hl 4 rfl) ?_
    refine lv_imul hx hb dX5_doClash_41 ?_
    refine lv_topi (fun z37 e38 => ?_)
    have f39 : z37.toInt = (3 : Int) * x2.toInt := zm e38 (show (3 : Int32).toInt = (3 : Int) from by decide) (rfl : x2.toInt = _) (ox_49 (zr x2) hy1)
    refine lv_iload_n hx hb dX5_doClash_42 rfl (lv_at hl 1 rfl) ?_
    refine lv_iadd hx hb dX5_doClash_43 ?_
    refine lv_topi (fun z40 e41 => ?_)
    have f42 : z40.toInt = z37.toInt + z4.toInt := za e41 (rfl : z37.toInt = _) (rfl : z4.toInt = _) (ox_78 (zr x1) (zr x2) (zr z1) (zr z10) (zr z29) (zr z32) (zr z37) (zr z4) (zr z7) c13i f12 f31 f34 f39 f6 hy0 hy1 i3 i9)
    refine va_iald hx hb hX.1 hP 2 0 rfl rfl (zin (rfl : z40.toInt = _) (ox_79 c13i f12 f31 f34 f39 f42 f6 hy0 hy1 i3 i9)) dX5_doClash_44 ?_
    refine lv_topi (fun z43 e44 => ?_)
    refine lv_icmp_ne (tgt := 80) hx hb dX5_doClash_45 (by decide) (fun c45 => ?_) (fun c45 => ?_)
    · skip
      have c45i : ¬ (z35.toInt = z43.toInt) := fun q => c45 ((zc_eq (rfl : z35.toInt = _) (rfl : z43.toInt = _)).mpr q)
      refine lv_iconst (v := 0) hx hb dX5_doClash_80 (by decide) ?_
      exact hret (0 : Int32) () (Nat.le_of_ble_eq_true rfl) (Nat.le_of_ble_eq_true rfl) rfl ((show 0 ≤ (0 : Int) ∧ (0 : Int) ≤ 1 from by decide)) hP hD hS dX5_doClash_81
    · skip
      have c45i : z35.toInt = z43.toInt := (zc_eq (rfl : z35.toInt = _) (rfl : z43.toInt = _)).mp c45
      refine lv_aload_n hx hb dX5_doClash_48 rfl (lv_at hl 2 rfl) ?_
      refine lv_iload_n hx hb dX5_doClash_49 rfl (lv_at hl 3 rfl) ?_
      refine lv_iload_n hx hb dX5_doClash_50 rfl (lv_at hl 4 rfl) ?_
      refine lv_iload_n hx hb dX5_doClash_51 rfl (lv_at hl 1 rfl) ?_
      refine lv_iconst (v := 1) hx hb dX5_doClash_52 (by decide) ?_
      refine lv_iadd hx hb dX5_doClash_53 ?_
      refine lv_topi (fun z46 e47 => ?_)
      have f48 : z46.toInt = z4.toInt + (1 : Int) := za e47 (rfl : z4.toInt = _) (show (1 : Int32).toInt = (1 : Int) from by decide) (ox_80 (zr x1) (zr x2) (zr z1) (zr z10) (zr z29) (zr z32) (zr z37) (zr z4) (zr z40) (zr z7) c13i f12 f31 f34 f39 f42 f6 hy0 hy1 i3 i9)
      refine lv_iconst (v := 3) hx hb dX5_doClash_54 (by decide) ?_
      refine lv_irem hx hb dX5_doClash_55 (zne0 (show (3 : Int32).toInt = (3 : Int) from by decide) ((show ¬ (3 : Int) = 0 from by decide))) ?_
      refine lv_topi (fun z49 e50 => ?_)
      have f51 : z49.toInt = z46.toInt % (3 : Int) := zrm e50 (rfl : z46.toInt = _) (show (3 : Int32).toInt = (3 : Int) from by decide) (ox_81 c13i f12 f31 f34 f39 f42 f48 f6 hy0 hy1 i3 i9)
      refine zfi (wr := [(h0_normal, .inl (g.2.1.1, 18, .inl f_h0_normal))]) (va_runV (As := [.int x1, .int x2, .int z49]) (rest := []) ⟨hx, hb, hml, hown, hG⟩ (kX5_share l g h0 x1 x2 z49 h0_low h0_high h0_normal h0_corner h0_east h0_north h0_start h0_far f_h0_low f_h0_high (ox_82 c13i f12 f31 f34 f39 f42 f48 f51 f6 hy0 hy1 i3 i9) (ox_83 c13i f12 f31 f34 f39 f42 f48 f51 f6 hy0 hy1 i3 i9) (ox_84 c13i f12 f31 f34 f39 f42 f48 f51 f6 hy0 hy1 i3 i9) _) ⟨callB_of 3 hG (zGood wc_X5_share) rfl rfl rfl (hG _ wini_X5) (hG _ wm_X5_147) hX5_share ⟨Nat.le_of_ble_eq_true rfl, Nat.le_of_ble_eq_true rfl⟩, hG _ wi_X5_share, hG _ wse_X5_X5_share⟩ (zpreV (va_recv hX.1 hP (ci := 5) (q0 := 0) rfl rfl) hX hP hD hS hA [0, 2, 3] rfl (by decide)) rfl rfl hl.1 rfl (lv_room (Nat.le_of_ble_eq_true rfl)) dX5_doClash_56 ⟨Nat.le_of_ble_eq_true rfl, Nat.le_of_ble_eq_true rfl⟩) hP hD hS hA [0, 2, 3] [1] rfl rfl (by decide) (by decide) (fun r52 _ H locs hp hP hD hS => ?_)
      refine W.cs (cells' := 0) (slots' := 0) rfl rfl ?_
      have hq53 : 0 ≤ r52.toInt ∧ r52.toInt ≤ 1 := hp
      have hP : va_P g.1 vwCl [(h0_normal, .inl (g.2.1.1, 18, .inl f_h0_normal)), (h0, .inr (5, [.ref h0_low, .ref h0_high, .ref h0_normal, .ref h0_corner, .ref h0_east, .ref h0_north, .ref h0_start, .ref h0_far])), (h0_low, .inl (g.2.1.1, 54, .inl f_h0_low)), (h0_high, .inl (g.2.1.1, 54, .inl f_h0_high))] H := hP
      have hD : va_D A [(h0_normal, .inl (g.2.1.1, 18, .inl f_h0_normal)), (h0, .inr (5, [.ref h0_low, .ref h0_high, .ref h0_normal, .ref h0_corner, .ref h0_east, .ref h0_north, .ref h0_start, .ref h0_far])), (h0_low, .inl (g.2.1.1, 54, .inl f_h0_low)), (h0_high, .inl (g.2.1.1, 54, .inl f_h0_high))] := hD
      refine lv_if_eq (tgt := 80) hx hb dX5_doClash_59 (by decide) (fun c54 => ?_) (fun c54 => ?_)
      · skip
        have c54i : r52.toInt = (0 : Int) := (zc_eq (rfl : r52.toInt = _) (show (0 : Int32).toInt = (0 : Int) from by decide)).mp c54
        refine lv_iconst (v := 0) hx hb dX5_doClash_80 (by decide) ?_
        exact hret (0 : Int32) () (Nat.le_of_ble_eq_true rfl) (Nat.le_of_ble_eq_true rfl) rfl ((show 0 ≤ (0 : Int) ∧ (0 : Int) ≤ 1 from by decide)) (hP.sub [1, 0, 2, 3] rfl) (hD.sub [1, 0, 2, 3] (by decide) rfl) hS dX5_doClash_81
      · skip
        have c54i : ¬ (r52.toInt = (0 : Int)) := fun q => c54 ((zc_eq (rfl : r52.toInt = _) (show (0 : Int32).toInt = (0 : Int) from by decide)).mpr q)
        refine lv_aload_n hx hb dX5_doClash_62 rfl (lv_at hl 2 rfl) ?_
        refine lv_iload_n hx hb dX5_doClash_63 rfl (lv_at hl 3 rfl) ?_
        refine lv_iload_n hx hb dX5_doClash_64 rfl (lv_at hl 4 rfl) ?_
        refine lv_iload_n hx hb dX5_doClash_65 rfl (lv_at hl 1 rfl) ?_
        refine lv_iconst (v := 2) hx hb dX5_doClash_66 (by decide) ?_
        refine lv_iadd hx hb dX5_doClash_67 ?_
        refine lv_topi (fun z55 e56 => ?_)
        have f57 : z55.toInt = z4.toInt + (2 : Int) := za e56 (rfl : z4.toInt = _) (show (2 : Int32).toInt = (2 : Int) from by decide) (ox_85 (zr x1) (zr x2) (zr z1) (zr z10) (zr z29) (zr z32) (zr z37) (zr z4) (zr z40) (zr z46) (zr z49) (zr z7) c13i f12 f31 f34 f39 f42 f48 f51 f6 hy0 hy1 i3 i9)
        refine lv_iconst (v := 3) hx hb dX5_doClash_68 (by decide) ?_
        refine lv_irem hx hb dX5_doClash_69 (zne0 (show (3 : Int32).toInt = (3 : Int) from by decide) ((show ¬ (3 : Int) = 0 from by decide))) ?_
        refine lv_topi (fun z58 e59 => ?_)
        have f60 : z58.toInt = z55.toInt % (3 : Int) := zrm e59 (rfl : z55.toInt = _) (show (3 : Int32).toInt = (3 : Int) from by decide) (ox_86 c13i f12 f31 f34 f39 f42 f48 f51 f57 f6 hy0 hy1 i3 i9)
        refine zfi (wr := [(h0_normal, .inl (g.2.1.1, 18, .inl f_h0_normal))]) (va_runV (As := [.int x1, .int x2, .int z58]) (rest := []) ⟨hx, hb, hml, hown, hG⟩ (kX5_share l g h0 x1 x2 z58 h0_low h0_high h0_normal h0_corner h0_east h0_north h0_start h0_far f_h0_low f_h0_high (ox_87 c13i f12 f31 f34 f39 f42 f48 f51 f57 f6 f60 hy0 hy1 i3 i9) (ox_88 c13i f12 f31 f34 f39 f42 f48 f51 f57 f6 f60 hy0 hy1 i3 i9) (ox_89 c13i f12 f31 f34 f39 f42 f48 f51 f57 f6 f60 hy0 hy1 i3 i9) _) ⟨callB_of 3 hG (zGood wc_X5_share) rfl rfl rfl (hG _ wini_X5) (hG _ wm_X5_147) hX5_share ⟨Nat.le_of_ble_eq_true rfl, Nat.le_of_ble_eq_true rfl⟩, hG _ wi_X5_share, hG _ wse_X5_X5_share⟩ (zpreV (va_recv hX.1 hP (ci := 5) (q0 := 1) rfl rfl) hX hP hD hS hA [1, 2, 3] rfl (by decide)) rfl rfl hl.1 rfl (lv_room (Nat.le_of_ble_eq_true rfl)) dX5_doClash_70 ⟨Nat.le_of_ble_eq_true rfl, Nat.le_of_ble_eq_true rfl⟩) hP hD hS hA [1, 2, 3] [0] rfl rfl (by decide) (by decide) (fun r61 _ H locs hp hP hD hS => ?_)
        refine W.cs (cells' := 0) (slots' := 0) rfl rfl ?_
        have hq62 : 0 ≤ r61.toInt ∧ r61.toInt ≤ 1 := hp
        have hP : va_P g.1 vwCl [(h0_normal, .inl (g.2.1.1, 18, .inl f_h0_normal)), (h0, .inr (5, [.ref h0_low, .ref h0_high, .ref h0_normal, .ref h0_corner, .ref h0_east, .ref h0_north, .ref h0_start, .ref h0_far])), (h0_low, .inl (g.2.1.1, 54, .inl f_h0_low)), (h0_high, .inl (g.2.1.1, 54, .inl f_h0_high))] H := hP
        have hD : va_D A [(h0_normal, .inl (g.2.1.1, 18, .inl f_h0_normal)), (h0, .inr (5, [.ref h0_low, .ref h0_high, .ref h0_normal, .ref h0_corner, .ref h0_east, .ref h0_north, .ref h0_start, .ref h0_far])), (h0_low, .inl (g.2.1.1, 54, .inl f_h0_low)), (h0_high, .inl (g.2.1.1, 54, .inl f_h0_high))] := hD
        refine lv_if_eq (tgt := 80) hx hb dX5_doClash_73 (by decide) (fun c63 => ?_) (fun c63 => ?_)
        · skip
          have c63i : r61.toInt = (0 : Int) := (zc_eq (rfl : r61.toInt = _) (show (0 : Int32).toInt = (0 : Int) from by decide)).mp c63
          refine lv_iconst (v := 0) hx hb dX5_doClash_80 (by decide) ?_
          exact hret (0 : Int32) () (Nat.le_of_ble_eq_true rfl) (Nat.le_of_ble_eq_true rfl) rfl ((show 0 ≤ (0 : Int) ∧ (0 : Int) ≤ 1 from by decide)) (hP.sub [1, 0, 2, 3] rfl) (hD.sub [1, 0, 2, 3] (by decide) rfl) hS dX5_doClash_81
        · skip
          have c63i : ¬ (r61.toInt = (0 : Int)) := fun q => c63 ((zc_eq (rfl : r61.toInt = _) (show (0 : Int32).toInt = (0 : Int) from by decide)).mpr q)
          refine lv_iconst (v := 1) hx hb dX5_doClash_76 (by decide) ?_
          refine lv_goto (tgt := 81) hx hb dX5_doClash_77 (by decide) ?_
          exact hret (1 : Int32) () (Nat.le_of_ble_eq_true rfl) (Nat.le_of_ble_eq_true rfl) rfl ((show 0 ≤ (1 : Int) ∧ (1 : Int) ≤ 1 from by decide)) (hP.sub [1, 0, 2, 3] rfl) (hD.sub [1, 0, 2, 3] (by decide) rfl) hS dX5_doClash_81
theorem dX5_clashes_0 : decode cX5_clashes 0 = .ok (.iconst 0, 1) := by decide +kernel
theorem dX5_clashes_1 : decode cX5_clashes 1 = .ok (.istore_n 3, 1) := by decide +kernel
theorem dX5_clashes_2 : decode cX5_clashes 2 = .ok (.iconst 0, 1) := by decide +kernel
theorem dX5_clashes_3 : decode cX5_clashes 3 = .ok (.istore 4, 2) := by decide +kernel
theorem dX5_clashes_5 : decode cX5_clashes 5 = .ok (.iload 4, 2) := by decide +kernel
theorem dX5_clashes_7 : decode cX5_clashes 7 = .ok (.iload_n 1, 1) := by decide +kernel
theorem dX5_clashes_8 : decode cX5_clashes 8 = .ok (.if_icmp .ge 55, 3) := by decide +kernel
theorem dX5_clashes_63 : decode cX5_clashes 63 = .ok (.iload_n 2, 1) := by decide +kernel
theorem dX5_clashes_64 : decode cX5_clashes 64 = .ok (.iconst (-1), 1) := by decide +kernel
theorem dX5_clashes_65 : decode cX5_clashes 65 = .ok (.if_icmp .ne 7, 3) := by decide +kernel
theorem dX5_clashes_72 : decode cX5_clashes 72 = .ok (.iconst (-1), 1) := by decide +kernel
theorem dX5_clashes_73 : decode cX5_clashes 73 = .ok (.ireturn, 1) := by decide +kernel
theorem dX5_clashes_68 : decode cX5_clashes 68 = .ok (.iload_n 3, 1) := by decide +kernel
theorem dX5_clashes_69 : decode cX5_clashes 69 = .ok (.goto 4, 3) := by decide +kernel
theorem dX5_clashes_11 : decode cX5_clashes 11 = .ok (.iload 4, 2) := by decide +kernel
theorem dX5_clashes_13 : decode cX5_clashes 13 = .ok (.iconst 1, 1) := by decide +kernel
theorem dX5_clashes_14 : decode cX5_clashes 14 = .ok (.iadd, 1) := by decide +kernel
theorem dX5_clashes_15 : decode cX5_clashes 15 = .ok (.istore 5, 2) := by decide +kernel
theorem dX5_clashes_17 : decode cX5_clashes 17 = .ok (.iload 5, 2) := by decide +kernel
theorem dX5_clashes_19 : decode cX5_clashes 19 = .ok (.iload_n 1, 1) := by decide +kernel
theorem dX5_clashes_20 : decode cX5_clashes 20 = .ok (.if_icmp .ge 37, 3) := by decide +kernel
theorem dX5_clashes_57 : decode cX5_clashes 57 = .ok (.iinc 4 1, 3) := by decide +kernel
theorem dX5_clashes_60 : decode cX5_clashes 60 = .ok (.goto (-55), 3) := by decide +kernel
theorem dX5_clashes_23 : decode cX5_clashes 23 = .ok (.aload_n 0, 1) := by decide +kernel
theorem dX5_clashes_24 : decode cX5_clashes 24 = .ok (.iload 4, 2) := by decide +kernel
theorem dX5_clashes_26 : decode cX5_clashes 26 = .ok (.iload 5, 2) := by decide +kernel
theorem dX5_clashes_28 : decode cX5_clashes 28 = .ok (.invokevirtual 151, 3) := by decide +kernel
theorem dX5_clashes_51 : decode cX5_clashes 51 = .ok (.iinc 5 1, 3) := by decide +kernel
theorem dX5_clashes_54 : decode cX5_clashes 54 = .ok (.goto (-37), 3) := by decide +kernel
theorem dX5_clashes_31 : decode cX5_clashes 31 = .ok (.ifCond .eq 20, 3) := by decide +kernel
theorem dX5_clashes_34 : decode cX5_clashes 34 = .ok (.iload_n 3, 1) := by decide +kernel
theorem dX5_clashes_35 : decode cX5_clashes 35 = .ok (.iload_n 2, 1) := by decide +kernel
theorem dX5_clashes_36 : decode cX5_clashes 36 = .ok (.if_icmp .ne 12, 3) := by decide +kernel
theorem dX5_clashes_48 : decode cX5_clashes 48 = .ok (.iinc 3 1, 3) := by decide +kernel
theorem dX5_clashes_39 : decode cX5_clashes 39 = .ok (.bipush 10, 2) := by decide +kernel
theorem dX5_clashes_41 : decode cX5_clashes 41 = .ok (.iload 4, 2) := by decide +kernel
theorem dX5_clashes_43 : decode cX5_clashes 43 = .ok (.imul, 1) := by decide +kernel
theorem dX5_clashes_44 : decode cX5_clashes 44 = .ok (.iload 5, 2) := by decide +kernel
theorem dX5_clashes_46 : decode cX5_clashes 46 = .ok (.iadd, 1) := by decide +kernel
theorem dX5_clashes_47 : decode cX5_clashes 47 = .ok (.ireturn, 1) := by decide +kernel
abbrev rm_kX5_clashes : Room := { frames := 2, cells := 0, slots := 0, locals := 51 }
set_option maxHeartbeats 4000000 in
set_option maxRecDepth 100000 in
theorem kX5_clashes (l : Launch) (g : zL) (h0 : Nat) (x1 : Int32) (x2 : Int32) (h0_low : Nat) (h0_high : Nat) (h0_normal : Nat) (h0_corner : Nat) (h0_east : Nat) (h0_north : Nat) (h0_start : Nat) (h0_far : Nat) (f_h0_normal : Nat → Int32) (f_h0_low : Nat → Int32) (f_h0_high : Nat → Int32) (hy0 : 0 ≤ x1.toInt ∧ x1.toInt ≤ 9) (hy1 : aI 0 5 f_h0_normal) : zCi l g yX5_clashes cX5_clashes 6 (some .int) rm_kX5_clashes [.ref h0, .int x1, .int x2] [(h0, .inr (5, [.ref h0_low, .ref h0_high, .ref h0_normal, .ref h0_corner, .ref h0_east, .ref h0_north, .ref h0_start, .ref h0_far])), (h0_normal, .inl (g.2.1.1, 18, .inl f_h0_normal)), (h0_low, .inl (g.2.1.1, 54, .inl f_h0_low)), (h0_high, .inl (g.2.1.1, 54, .inl f_h0_high))] (fun (r : Int32) (u : Unit) => True) (fun (u : Unit) => [(h0, .inr (5, [.ref h0_low, .ref h0_high, .ref h0_normal, .ref h0_corner, .ref h0_east, .ref h0_north, .ref h0_start, .ref h0_far])), (h0_normal, .inl (g.2.1.1, 18, .inl f_h0_normal)), (h0_low, .inl (g.2.1.1, 54, .inl f_h0_low)), (h0_high, .inl (g.2.1.1, 54, .inl f_h0_high))]) := by
  refine zCi.mk2 (by decide) (Nat.le_of_ble_eq_true rfl) ?_
  intro p e s m below meth c A args Q hE hret hP hD hS ls hl
  obtain ⟨hx, hb, hr, hml, hown, hG, hlocks, hnm, hX, hA⟩ := hE
  have hown : s.vm.findClass RX5 = some m.cls := hown
  have hl : lv_has ls 6 [(0, .ref h0), (1, .int x1), (2, .int x2)] := hl
  refine lv_iconst (v := 0) hx hb dX5_clashes_0 (by decide) ?_
  refine lv_istore_n (lv' := [(3, .int 0), (0, .ref h0), (1, .int x1), (2, .int x2)]) hx hb dX5_clashes_1 rfl hl (by decide) rfl (fun ls hl => ?_)
  refine lv_iconst (v := 0) hx hb dX5_clashes_2 (by decide) ?_
  refine lv_istore (lv' := [(4, .int 0), (3, .int 0), (0, .ref h0), (1, .int x1), (2, .int x2)]) hx hb dX5_clashes_3 hl (by decide) rfl (fun ls hl => ?_)
  have L1782 : ∀ (n : Nat) (v1647 : Int32) (v1648 : Int32) (H : Heap) (locs : List Loc) (ls : Array Slot), 0 ≤ v1648.toInt ∧ v1648.toInt ≤ 9 → (10 - v1648.toInt).toNat < n → va_P g.1 vwCl [(h0, .inr (5, [.ref h0_low, .ref h0_high, .ref h0_normal, .ref h0_corner, .ref h0_east, .ref h0_north, .ref h0_start, .ref h0_far])), (h0_normal, .inl (g.2.1.1, 18, .inl f_h0_normal)), (h0_low, .inl (g.2.1.1, 54, .inl f_h0_low)), (h0_high, .inl (g.2.1.1, 54, .inl f_h0_high))] H → va_D A [(h0, .inr (5, [.ref h0_low, .ref h0_high, .ref h0_normal, .ref h0_corner, .ref h0_east, .ref h0_north, .ref h0_start, .ref h0_far])), (h0_normal, .inl (g.2.1.1, 18, .inl f_h0_normal)), (h0_low, .inl (g.2.1.1, 54, .inl f_h0_low)), (h0_high, .inl (g.2.1.1, 54, .inl f_h0_high))] → va_S A s.heap H locs → lv_has ls 6 [(0, .ref h0), (1, .int x1), (2, .int x2), (3, .int v1647), (4, .int v1648)] → W p l e rm_kX5_clashes s m args below meth c H locs 0 0 Q (F0 m 5 ls []) := by
    intro n1783
    induction n1783 with
    | zero => intro v1647 v1648 H locs ls i1785 hm1786; exact absurd hm1786 (Nat.not_lt_zero _)
    | succ n1783 ih1784 =>
      intro v1647 v1648 H locs ls i1785 hm1786 hP hD hS hl
      refine lv_iload hx hb dX5_clashes_5 (lv_at hl 4 rfl) ?_
      refine lv_iload_n hx hb dX5_clashes_7 rfl (lv_at hl 1 rfl) ?_
      refine lv_icmp_ge (tgt := 63) hx hb dX5_clashes_8 (by decide) (fun c1787 => ?_) (fun c1787 => ?_)
      · skip
        have c1787i : x1.toInt ≤ v1648.toInt := (zc_le (rfl : x1.toInt = _) (rfl : v1648.toInt = _)).mp c1787
        refine lv_iload_n hx hb dX5_clashes_63 rfl (lv_at hl 2 rfl) ?_
        refine lv_iconst (v := (-1)) hx hb dX5_clashes_64 (by decide) ?_
        refine lv_icmp_ne (tgt := 72) hx hb dX5_clashes_65 (by decide) (fun c1788 => ?_) (fun c1788 => ?_)
        · skip
          have c1788i : ¬ (x2.toInt = (-1 : Int)) := fun q => c1788 ((zc_eq (rfl : x2.toInt = _) (show (-1 : Int32).toInt = (-1 : Int) from by decide)).mpr q)
          refine lv_iconst (v := (-1)) hx hb dX5_clashes_72 (by decide) ?_
          exact hret (-1 : Int32) () (Nat.le_of_ble_eq_true rfl) (Nat.le_of_ble_eq_true rfl) rfl trivial hP hD hS dX5_clashes_73
        · skip
          have c1788i : x2.toInt = (-1 : Int) := (zc_eq (rfl : x2.toInt = _) (show (-1 : Int32).toInt = (-1 : Int) from by decide)).mp c1788
          refine lv_iload_n hx hb dX5_clashes_68 rfl (lv_at hl 3 rfl) ?_
          refine lv_goto (tgt := 73) hx hb dX5_clashes_69 (by decide) ?_
          exact hret v1647 () (Nat.le_of_ble_eq_true rfl) (Nat.le_of_ble_eq_true rfl) rfl trivial hP hD hS dX5_clashes_73
      · skip
        have c1787i : ¬ (x1.toInt ≤ v1648.toInt) := fun q => c1787 ((zc_le (rfl : x1.toInt = _) (rfl : v1648.toInt = _)).mpr q)
        refine lv_iload hx hb dX5_clashes_11 (lv_at hl 4 rfl) ?_
        refine lv_iconst (v := 1) hx hb dX5_clashes_13 (by decide) ?_
        refine lv_iadd hx hb dX5_clashes_14 ?_
        refine lv_topi (fun z1789 e1790 => ?_)
        have f1791 : z1789.toInt = v1648.toInt + (1 : Int) := za e1790 (rfl : v1648.toInt = _) (show (1 : Int32).toInt = (1 : Int) from by decide) (ox_90 (zr v1648) (zr x1) c1787i hy0 i1785)
        refine lv_istore (lv' := [(5, .int z1789), (0, .ref h0), (1, .int x1), (2, .int x2), (3, .int v1647), (4, .int v1648)]) hx hb dX5_clashes_15 hl (by decide) rfl (fun ls hl => ?_)
        have L1888 : ∀ (n : Nat) (v1855 : Int32) (v1856 : Int32) (H : Heap) (locs : List Loc) (ls : Array Slot), 1 ≤ v1856.toInt ∧ v1856.toInt ≤ 9 → (10 - v1856.toInt).toNat < n → va_P g.1 vwCl [(h0, .inr (5, [.ref h0_low, .ref h0_high, .ref h0_normal, .ref h0_corner, .ref h0_east, .ref h0_north, .ref h0_start, .ref h0_far])), (h0_normal, .inl (g.2.1.1, 18, .inl f_h0_normal)), (h0_low, .inl (g.2.1.1, 54, .inl f_h0_low)), (h0_high, .inl (g.2.1.1, 54, .inl f_h0_high))] H → va_D A [(h0, .inr (5, [.ref h0_low, .ref h0_high, .ref h0_normal, .ref h0_corner, .ref h0_east, .ref h0_north, .ref h0_start, .ref h0_far])), (h0_normal, .inl (g.2.1.1, 18, .inl f_h0_normal)), (h0_low, .inl (g.2.1.1, 54, .inl f_h0_low)), (h0_high, .inl (g.2.1.1, 54, .inl f_h0_high))] → va_S A s.heap H locs → lv_has ls 6 [(0, .ref h0), (1, .int x1), (2, .int x2), (3, .int v1855), (4, .int v1648), (5, .int v1856)] → W p l e rm_kX5_clashes s m args below meth c H locs 0 0 Q (F0 m 17 ls []) := by
          intro n1889
          induction n1889 with
          | zero => intro v1855 v1856 H locs ls i1891 hm1892; exact absurd hm1892 (Nat.not_lt_zero _)
          | succ n1889 ih1890 =>
            intro v1855 v1856 H locs ls i1891 hm1892 hP hD hS hl
            refine lv_iload hx hb dX5_clashes_17 (lv_at hl 5 rfl) ?_
            refine lv_iload_n hx hb dX5_clashes_19 rfl (lv_at hl 1 rfl) ?_
            refine lv_icmp_ge (tgt := 57) hx hb dX5_clashes_20 (by decide) (fun c1893 => ?_) (fun c1893 => ?_)
            · skip
              have c1893i : x1.toInt ≤ v1856.toInt := (zc_le (rfl : x1.toInt = _) (rfl : v1856.toInt = _)).mp c1893
              obtain ⟨z1894, e1895⟩ : ∃ y9 : Int32, y9 = v1648 + 1 := ⟨_, rfl⟩
              have f1896 : z1894.toInt = v1648.toInt + 1 := za e1895 (rfl : v1648.toInt = _) (show (1 : Int32).toInt = (1 : Int) from by decide) (ox_91 (zr v1648) (zr v1856) (zr x1) (zr z1789) c1787i c1893i f1791 hy0 i1785 i1891)
              refine lv_iinc (v := z1894) (lv' := [(4, .int z1894), (0, .ref h0), (1, .int x1), (2, .int x2), (3, .int v1855), (5, .int v1856)]) hx hb dX5_clashes_57 hl (k := 4) rfl (by rw [e1895]; rfl) (by decide) rfl (fun ls hl => ?_)
              refine lv_goto (tgt := 5) hx hb dX5_clashes_60 (by decide) ?_
              exact ih1784 v1855 z1894 H locs ls (ox_92 c1787i c1893i f1791 f1896 hy0 i1785 i1891) (zdec hm1786 (ox_93 c1787i c1893i f1791 f1896 hy0 i1785 i1891)) hP hD hS (lv_sub hl [1, 2, 3, 4, 0] rfl)
            · skip
              have c1893i : ¬ (x1.toInt ≤ v1856.toInt) := fun q => c1893 ((zc_le (rfl : x1.toInt = _) (rfl : v1856.toInt = _)).mpr q)
              refine lv_aload_n hx hb dX5_clashes_23 rfl (lv_at hl 0 rfl) ?_
              refine lv_iload hx hb dX5_clashes_24 (lv_at hl 4 rfl) ?_
              refine lv_iload hx hb dX5_clashes_26 (lv_at hl 5 rfl) ?_
              refine zfi (wr := []) (va_runV (As := [.int v1648, .int v1856]) (rest := []) ⟨hx, hb, hml, hown, hG⟩ (kX5_doClash l g h0 v1648 v1856 h0_low h0_high h0_normal h0_corner h0_east h0_north h0_start h0_far f_h0_normal f_h0_low f_h0_high (ox_94 c1787i c1893i f1791 hy0 i1785 i1891) (ox_95 c1787i c1893i f1791 hy0 i1785 i1891) hy1 _) ⟨callB_of 2 hG (zGood wc_X5_doClash) rfl rfl rfl (hG _ wini_X5) (hG _ wm_X5_151) hX5_doClash ⟨Nat.le_of_ble_eq_true rfl, Nat.le_of_ble_eq_true rfl⟩, hG _ wi_X5_doClash, hG _ wse_X5_X5_doClash⟩ (zpreV (va_recv hX.1 hP (ci := 5) (q0 := 0) rfl rfl) hX hP hD hS hA [0, 1, 2, 3] rfl (by decide)) rfl rfl hl.1 rfl (lv_room (Nat.le_of_ble_eq_true rfl)) dX5_clashes_28 ⟨Nat.le_of_ble_eq_true rfl, Nat.le_of_ble_eq_true rfl⟩) hP hD hS hA [0, 1, 2, 3] [] rfl rfl (by decide) (by decide) (fun r1897 _ H locs hp hP hD hS => ?_)
              refine W.cs (cells' := 0) (slots' := 0) rfl rfl ?_
              have hq1898 : 0 ≤ r1897.toInt ∧ r1897.toInt ≤ 1 := hp
              have hP : va_P g.1 vwCl [(h0, .inr (5, [.ref h0_low, .ref h0_high, .ref h0_normal, .ref h0_corner, .ref h0_east, .ref h0_north, .ref h0_start, .ref h0_far])), (h0_normal, .inl (g.2.1.1, 18, .inl f_h0_normal)), (h0_low, .inl (g.2.1.1, 54, .inl f_h0_low)), (h0_high, .inl (g.2.1.1, 54, .inl f_h0_high))] H := hP
              have hD : va_D A [(h0, .inr (5, [.ref h0_low, .ref h0_high, .ref h0_normal, .ref h0_corner, .ref h0_east, .ref h0_north, .ref h0_start, .ref h0_far])), (h0_normal, .inl (g.2.1.1, 18, .inl f_h0_normal)), (h0_low, .inl (g.2.1.1, 54, .inl f_h0_low)), (h0_high, .inl (g.2.1.1, 54, .inl f_h0_high))] := hD
              have J1910 : ∀  (v1909 : Int32) (H : Heap) (locs : List Loc) (ls : Array Slot), va_P g.1 vwCl [(h0, .inr (5, [.ref h0_low, .ref h0_high, .ref h0_normal, .ref h0_corner, .ref h0_east, .ref h0_north, .ref h0_start, .ref h0_far])), (h0_normal, .inl (g.2.1.1, 18, .inl f_h0_normal)), (h0_low, .inl (g.2.1.1, 54, .inl f_h0_low)), (h0_high, .inl (g.2.1.1, 54, .inl f_h0_high))] H → va_D A [(h0, .inr (5, [.ref h0_low, .ref h0_high, .ref h0_normal, .ref h0_corner, .ref h0_east, .ref h0_north, .ref h0_start, .ref h0_far])), (h0_normal, .inl (g.2.1.1, 18, .inl f_h0_normal)), (h0_low, .inl (g.2.1.1, 54, .inl f_h0_low)), (h0_high, .inl (g.2.1.1, 54, .inl f_h0_high))] → va_S A s.heap H locs → lv_has ls 6 [(0, .ref h0), (1, .int x1), (2, .int x2), (3, .int v1909), (4, .int v1648), (5, .int v1856)] → W p l e rm_kX5_clashes s m args below meth c H locs 0 0 Q (F0 m 51 ls []) := by
                intro v1909 H locs ls  hP hD hS hl
                obtain ⟨z1911, e1912⟩ : ∃ y9 : Int32, y9 = v1856 + 1 := ⟨_, rfl⟩
                have f1913 : z1911.toInt = v1856.toInt + 1 := za e1912 (rfl : v1856.toInt = _) (show (1 : Int32).toInt = (1 : Int) from by decide) (ox_96 (zr v1648) (zr v1856) (zr x1) (zr z1789) c1787i c1893i f1791 hy0 i1785 i1891)
                refine lv_iinc (v := z1911) (lv' := [(5, .int z1911), (0, .ref h0), (1, .int x1), (2, .int x2), (3, .int v1909), (4, .int v1648)]) hx hb dX5_clashes_51 hl (k := 5) rfl (by rw [e1912]; rfl) (by decide) rfl (fun ls hl => ?_)
                refine lv_goto (tgt := 17) hx hb dX5_clashes_54 (by decide) ?_
                exact ih1890 v1909 z1911 H locs ls (ox_97 c1787i c1893i f1791 f1913 hy0 i1785 i1891) (zdec hm1892 (ox_98 c1787i c1893i f1791 f1913 hy0 i1785 i1891)) hP hD hS (lv_sub hl [1, 2, 3, 4, 5, 0] rfl)
              refine lv_if_eq (tgt := 51) hx hb dX5_clashes_31 (by decide) (fun c1914 => ?_) (fun c1914 => ?_)
              · skip
                have c1914i : r1897.toInt = (0 : Int) := (zc_eq (rfl : r1897.toInt = _) (show (0 : Int32).toInt = (0 : Int) from by decide)).mp c1914
                exact J1910 v1855 H locs ls  hP hD hS (lv_sub hl [0, 1, 2, 3, 4, 5] rfl)
              · skip
                have c1914i : ¬ (r1897.toInt = (0 : Int)) := fun q => c1914 ((zc_eq (rfl : r1897.toInt = _) (show (0 : Int32).toInt = (0 : Int) from by decide)).mpr q)
                refine lv_iload_n hx hb dX5_clashes_34 rfl (lv_at hl 3 rfl) ?_
                refine lv_iload_n hx hb dX5_clashes_35 rfl (lv_at hl 2 rfl) ?_
                refine lv_icmp_ne (tgt := 48) hx hb dX5_clashes_36 (by decide) (fun c1915 => ?_) (fun c1915 => ?_)
                · skip
                  have c1915i : ¬ (v1855.toInt = x2.toInt) := fun q => c1915 ((zc_eq (rfl : v1855.toInt = _) (rfl : x2.toInt = _)).mpr q)
                  obtain ⟨z1916, e1917⟩ : ∃ y9 : Int32, y9 = v1855 + 1 := ⟨_, rfl⟩
                  refine lv_iinc (v := z1916) (lv' := [(3, .int z1916), (0, .ref h0), (1, .int x1), (2, .int x2), (4, .int v1648), (5, .int v1856)]) hx hb dX5_clashes_48 hl (k := 3) rfl (by rw [e1917]; rfl) (by decide) rfl (fun ls hl => ?_)
                  exact J1910 z1916 H locs ls  hP hD hS (lv_sub hl [1, 2, 3, 0, 4, 5] rfl)
                · skip
                  have c1915i : v1855.toInt = x2.toInt := (zc_eq (rfl : v1855.toInt = _) (rfl : x2.toInt = _)).mp c1915
                  refine lv_bipush (v := 10) hx hb dX5_clashes_39 (by decide) ?_
                  refine lv_iload hx hb dX5_clashes_41 (lv_at hl 4 rfl) ?_
                  refine lv_imul hx hb dX5_clashes_43 ?_
                  refine lv_topi (fun z1918 e1919 => ?_)
                  have f1920 : z1918.toInt = (10 : Int) * v1648.toInt := zm e1919 (show (10 : Int32).toInt = (10 : Int) from by decide) (rfl : v1648.toInt = _) (ox_99 (zr v1648) (zr v1856) (zr x1) (zr z1789) c1787i c1893i f1791 hy0 i1785 i1891)
                  refine lv_iload hx hb dX5_clashes_44 (lv_at hl 5 rfl) ?_
                  refine lv_iadd hx hb dX5_clashes_46 ?_
                  refine lv_topi (fun z1921 e1922 => ?_)
                  have f1923 : z1921.toInt = z1918.toInt + v1856.toInt := za e1922 (rfl : z1918.toInt = _) (rfl : v1856.toInt = _) (ox_100 (zr v1648) (zr v1856) (zr x1) (zr z1789) (zr z1918) c1787i c1893i f1791 f1920 hy0 i1785 i1891)
                  exact hret z1921 () (Nat.le_of_ble_eq_true rfl) (Nat.le_of_ble_eq_true rfl) rfl trivial hP hD hS dX5_clashes_47
        exact L1888 _ v1647 z1789 H locs ls (ox_101 c1787i f1791 hy0 i1785) (Nat.lt_succ_self _) hP hD hS (lv_sub hl [1, 2, 3, 4, 5, 0] rfl)
  exact L1782 _ (0 : Int32) (0 : Int32) _ _ ls ((show 0 ≤ (0 : Int) ∧ (0 : Int) ≤ 9 from by decide)) (Nat.lt_succ_self _) hP hD hS (lv_sub hl [2, 3, 4, 1, 0] rfl)
