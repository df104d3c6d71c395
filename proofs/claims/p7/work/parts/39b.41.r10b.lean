theorem lt_eq {par rad sid frm wid hei tw : Nat → Int32} {tc th t4 : Int32} {x1 : Int32} {x2 : Int32} {h0_part_count : Int32} {f_h0_part_name : (Nat → Int32)} {o_r : Int32} {x1' : Int32} {x2' : Int32} {h0_hasPart' : Int32} {f_h0_told' : (Nat → Int32)} {h0_told_3' : Int32} {o_r' : Int32} (h : S_F_letter x1 x2 h0_part_count f_h0_part_name o_r) (h' : S_N_letter x1' x2' h0_hasPart' f_h0_told' h0_told_3' o_r') (hx1 : x1 = x1') (hx2 : x2 = x2') (D : pDC par rad f_h0_part_name sid frm wid hei tw f_h0_told' h0_part_count tc th h0_hasPart' h0_told_3' t4) (hn : pNM0 f_h0_part_name f_h0_told') (hH : ((h0_hasPart'.toInt = 0 ∧ h0_told_3'.toInt = 0) ∨ (h0_hasPart'.toInt = 1 ∧ 1 ≤ h0_told_3'.toInt))) : o_r.toInt = o_r'.toInt := by
  subst hx1 hx2
  rcases h with ⟨r1, p0, -, p2, p3, e0⟩ | ⟨r1, p0, -, p2, p3, p4, e0⟩ | ⟨r1, z8, z10, z13, z16, z18, p0, -, p2, p3, p4, p5, p6, p7, p8, p9, p10, p11, e0⟩ | ⟨r1, p0, -, p2, p3, p4, p5, e0⟩ | h
  · skip
    rcases h' with ⟨r1', q0, -, q2, q3, g0⟩ | ⟨r1', r6', q0, -, q2, q3, q4, q5, q6, q7, q8, g0⟩ | ⟨r1', r6', z12', z15', z18', z21', q0, -, q2, q3, q4, q5, q6, q7, q8, q9, q10, q11, q12, -, g0⟩ | h'
    · have e1m : ((-1 : Int32).toInt) = -1 := by decide
      have k1 := f_isFlange p2
      have k2 := n_isFlange q2 hH
      omega
    · have in7_1 := q6
      have in7_2 := q5
      have e1m : ((-1 : Int32).toInt) = -1 := by decide
      have k1 := f_isFlange p2
      have k2 := n_isFlange q2 hH
      omega
    · have in7_1 := q6
      have in7_2 := q5
      have e1m : ((-1 : Int32).toInt) = -1 := by decide
      have k1 := f_isFlange p2
      have k2 := n_isFlange q2 hH
      have ct : h0_part_count.toInt = 0 ∨ h0_part_count.toInt = h0_told_3'.toInt := by
        rcases D with ⟨a, _⟩ | ⟨_, ⟨_, _, a⟩, _⟩
        · exact .inl a
        · exact .inr a
      exfalso
      rcases D with ⟨a, a2, _⟩ | ⟨a2, ⟨_, _, a⟩, _⟩
      · omega
      · omega
    · exact h'.elim
  · skip
    rcases h' with ⟨r1', q0, -, q2, q3, g0⟩ | ⟨r1', r6', q0, -, q2, q3, q4, q5, q6, q7, q8, g0⟩ | ⟨r1', r6', z12', z15', z18', z21', q0, -, q2, q3, q4, q5, q6, q7, q8, q9, q10, q11, q12, -, g0⟩ | h'
    · have e1m : ((-1 : Int32).toInt) = -1 := by decide
      have k1 := f_isFlange p2
      have k2 := n_isFlange q2 hH
      omega
    · have in7_1 := q6
      have in7_2 := q5
      have e1m : ((-1 : Int32).toInt) = -1 := by decide
      have k1 := f_isFlange p2
      have k2 := n_isFlange q2 hH
      omega
    · have in7_1 := q6
      have in7_2 := q5
      have e1m : ((-1 : Int32).toInt) = -1 := by decide
      have k1 := f_isFlange p2
      have k2 := n_isFlange q2 hH
      have ct : h0_part_count.toInt = 0 ∨ h0_part_count.toInt = h0_told_3'.toInt := by
        rcases D with ⟨a, _⟩ | ⟨_, ⟨_, _, a⟩, _⟩
        · exact .inl a
        · exact .inr a
      exfalso
      rcases D with ⟨a, a2, _⟩ | ⟨a2, ⟨_, _, a⟩, _⟩
      · omega
      · omega
    · exact h'.elim
  · skip
    rcases h' with ⟨r1', q0, -, q2, q3, g0⟩ | ⟨r1', r6', q0, -, q2, q3, q4, q5, q6, q7, q8, g0⟩ | ⟨r1', r6', z12', z15', z18', z21', q0, -, q2, q3, q4, q5, q6, q7, q8, q9, q10, q11, q12, -, g0⟩ | h'
    · have e1m : ((-1 : Int32).toInt) = -1 := by decide
      have k1 := f_isFlange p2
      have k2 := n_isFlange q2 hH
      have ct : h0_part_count.toInt = 0 ∨ h0_part_count.toInt = h0_told_3'.toInt := by
        rcases D with ⟨a, _⟩ | ⟨_, ⟨_, _, a⟩, _⟩
        · exact .inl a
        · exact .inr a
      exfalso
      rcases D with ⟨a, a2, _⟩ | ⟨a2, ⟨_, _, a⟩, _⟩
      · omega
      · omega
    · have in7_1 := q6
      have in7_2 := q5
      have e1m : ((-1 : Int32).toInt) = -1 := by decide
      have k1 := f_isFlange p2
      have k2 := n_isFlange q2 hH
      have ct : h0_part_count.toInt = 0 ∨ h0_part_count.toInt = h0_told_3'.toInt := by
        rcases D with ⟨a, _⟩ | ⟨_, ⟨_, _, a⟩, _⟩
        · exact .inl a
        · exact .inr a
      exfalso
      rcases D with ⟨a, a2, _⟩ | ⟨a2, ⟨_, _, a⟩, _⟩
      · omega
      · omega
    · have in7_1 := q6
      have in7_2 := q5
      have e1m : ((-1 : Int32).toInt) = -1 := by decide
      have k1 := f_isFlange p2
      have k2 := n_isFlange q2 hH
      have ct : h0_part_count.toInt = 0 ∨ h0_part_count.toInt = h0_told_3'.toInt := by
        rcases D with ⟨a, _⟩ | ⟨_, ⟨_, _, a⟩, _⟩
        · exact .inl a
        · exact .inr a
      rcases D with ⟨a, a2, _⟩ | ⟨a2, ⟨b1, b2, a⟩, _, N, _⟩
      · omega
      · have hq : ∃ a b c d : Int, z8.toInt = 32768 * a + 1024 * b + 32 * c + d ∧ (0 ≤ a ∧ a < 32) ∧ (0 ≤ b ∧ b < 32) ∧ (0 ≤ c ∧ c < 32) ∧ (0 ≤ d ∧ d < 32) ∧ gG f_h0_told' (67 + 4 * x1.toInt) = a ∧ gG f_h0_told' (67 + 4 * x1.toInt + 1) = b ∧ gG f_h0_told' (67 + 4 * x1.toInt + 2) = c ∧ gG f_h0_told' (67 + 4 * x1.toInt + 3) = d := by
          by_cases z : x1.toInt = 0
          · rw [p6, z]
            exact ⟨0, 0, 0, 0, hn.1, by decide, by decide, by decide, by decide, hn.2.1, hn.2.2.1, hn.2.2.2.1, hn.2.2.2.2⟩
          · have y := N x1.toInt (by omega) (by omega)
            rw [p6]
            exact ⟨_, _, _, _, y.2, ⟨y.1.1, y.1.2.1⟩, ⟨y.1.2.2.1, y.1.2.2.2.1⟩, ⟨y.1.2.2.2.2.1, y.1.2.2.2.2.2.1⟩, ⟨y.1.2.2.2.2.2.2.1, y.1.2.2.2.2.2.2.2⟩, rfl, rfl, rfl, rfl⟩
        obtain ⟨a, b, c, d, y1, y2, y3, y4, y5, y6, y7, y8, y9⟩ := hq
        have l := let_of (k := x2.toInt) y1 y2 y3 y4 y5 (by omega) p9 p10
        rw [e0, g0, q12]
        have hx : x2.toInt = 0 ∨ x2.toInt = 1 ∨ x2.toInt = 2 ∨ x2.toInt = 3 := by omega
        rcases hx with hx | hx | hx | hx
        · rw [show z18'.toInt = 67 + 4 * x1.toInt by omega, y6]; exact l.1 hx
        · rw [show z18'.toInt = 67 + 4 * x1.toInt + 1 by omega, y7]; exact l.2.1 hx
        · rw [show z18'.toInt = 67 + 4 * x1.toInt + 2 by omega, y8]; exact l.2.2.1 hx
        · rw [show z18'.toInt = 67 + 4 * x1.toInt + 3 by omega, y9]; exact l.2.2.2 hx
    · exact h'.elim
  · skip
    rcases h' with ⟨r1', q0, -, q2, q3, g0⟩ | ⟨r1', r6', q0, -, q2, q3, q4, q5, q6, q7, q8, g0⟩ | ⟨r1', r6', z12', z15', z18', z21', q0, -, q2, q3, q4, q5, q6, q7, q8, q9, q10, q11, q12, -, g0⟩ | h'
    · have e1m : ((-1 : Int32).toInt) = -1 := by decide
      have k1 := f_isFlange p2
      have k2 := n_isFlange q2 hH
      omega
    · have in7_1 := q6
      have in7_2 := q5
      have e1m : ((-1 : Int32).toInt) = -1 := by decide
      have k1 := f_isFlange p2
      have k2 := n_isFlange q2 hH
      omega
    · have in7_1 := q6
      have in7_2 := q5
      have e1m : ((-1 : Int32).toInt) = -1 := by decide
      have k1 := f_isFlange p2
      have k2 := n_isFlange q2 hH
      have ct : h0_part_count.toInt = 0 ∨ h0_part_count.toInt = h0_told_3'.toInt := by
        rcases D with ⟨a, _⟩ | ⟨_, ⟨_, _, a⟩, _⟩
        · exact .inl a
        · exact .inr a
      exfalso
      rcases D with ⟨a, a2, _⟩ | ⟨a2, ⟨_, _, a⟩, _⟩
      · omega
      · omega
    · exact h'.elim
  · exact h.elim
theorem tl_eq {par rad nam sid frm wid hei : Nat → Int32} {cnt th t3 : Int32} {x1 : Int32} {h0_part_toolCount : Int32} {f_h0_part_toolWidth : (Nat → Int32)} {o_r : Int32} {x1' : Int32} {h0_hasPart' : Int32} {f_h0_told' : (Nat → Int32)} {h0_told_4' : Int32} {o_r' : Int32} (h : S_F_tool x1 h0_part_toolCount f_h0_part_toolWidth o_r) (h' : S_N_tool x1' h0_hasPart' f_h0_told' h0_told_4' o_r') (hx1 : x1 = x1') (D : pDC par rad nam sid frm wid hei f_h0_part_toolWidth f_h0_told' cnt h0_part_toolCount th h0_hasPart' t3 h0_told_4')  : o_r.toInt = o_r'.toInt := by
  subst hx1
  rcases h with ⟨p0, e0⟩ | ⟨z3, p0, p1, p2, e0⟩ | ⟨p0, p1, e0⟩ | h
  · skip
    rcases h' with ⟨q0, g0⟩ | ⟨z2', r5', q0, q1, q2, q3, q4, q5, q6, g0⟩ | ⟨z2', r5', z11', z14', q0, q1, q2, q3, q4, q5, q6, q7, q8, g0⟩ | h'
    · have e1m : ((-1 : Int32).toInt) = -1 := by decide
      rcases D with ⟨a, a2, a3, _⟩ | ⟨a2, _, _, _, _, ⟨⟨t1, t2, T⟩, a4⟩, _⟩
      · omega
      · omega
    · have in5_1 := q4
      have in5_2 := q3
      have e1m : ((-1 : Int32).toInt) = -1 := by decide
      rcases D with ⟨a, a2, a3, _⟩ | ⟨a2, _, _, _, _, ⟨⟨t1, t2, T⟩, a4⟩, _⟩
      · omega
      · omega
    · have in5_1 := q4
      have in5_2 := q3
      have e1m : ((-1 : Int32).toInt) = -1 := by decide
      rcases D with ⟨a, a2, a3, _⟩ | ⟨a2, _, _, _, _, ⟨⟨t1, t2, T⟩, a4⟩, _⟩
      · omega
      · omega
    · exact h'.elim
  · skip
    rcases h' with ⟨q0, g0⟩ | ⟨z2', r5', q0, q1, q2, q3, q4, q5, q6, g0⟩ | ⟨z2', r5', z11', z14', q0, q1, q2, q3, q4, q5, q6, q7, q8, g0⟩ | h'
    · have e1m : ((-1 : Int32).toInt) = -1 := by decide
      rcases D with ⟨a, a2, a3, _⟩ | ⟨a2, _, _, _, _, ⟨⟨t1, t2, T⟩, a4⟩, _⟩
      · omega
      · omega
    · have in5_1 := q4
      have in5_2 := q3
      have e1m : ((-1 : Int32).toInt) = -1 := by decide
      rcases D with ⟨a, a2, a3, _⟩ | ⟨a2, _, _, _, _, ⟨⟨t1, t2, T⟩, a4⟩, _⟩
      · omega
      · omega
    · have in5_1 := q4
      have in5_2 := q3
      have e1m : ((-1 : Int32).toInt) = -1 := by decide
      rcases D with ⟨a, a2, a3, _⟩ | ⟨a2, _, _, _, _, ⟨⟨t1, t2, T⟩, a4⟩, _⟩
      · omega
      · rw [e0, g0, p2, q8, show z11'.toInt = 5 + x1.toInt by omega]
        exact (T x1.toInt (by omega) (by omega)).1
    · exact h'.elim
  · skip
    rcases h' with ⟨q0, g0⟩ | ⟨z2', r5', q0, q1, q2, q3, q4, q5, q6, g0⟩ | ⟨z2', r5', z11', z14', q0, q1, q2, q3, q4, q5, q6, q7, q8, g0⟩ | h'
    · have e1m : ((-1 : Int32).toInt) = -1 := by decide
      rcases D with ⟨a, a2, a3, _⟩ | ⟨a2, _, _, _, _, ⟨⟨t1, t2, T⟩, a4⟩, _⟩
      · omega
      · omega
    · have in5_1 := q4
      have in5_2 := q3
      have e1m : ((-1 : Int32).toInt) = -1 := by decide
      rcases D with ⟨a, a2, a3, _⟩ | ⟨a2, _, _, _, _, ⟨⟨t1, t2, T⟩, a4⟩, _⟩
      · omega
      · omega
    · have in5_1 := q4
      have in5_2 := q3
      have e1m : ((-1 : Int32).toInt) = -1 := by decide
      rcases D with ⟨a, a2, a3, _⟩ | ⟨a2, _, _, _, _, ⟨⟨t1, t2, T⟩, a4⟩, _⟩
      · omega
      · omega
    · exact h'.elim
  · exact h.elim
theorem i_between {f_h0_parent : (Nat → Int32)} {x1 : Int32} {x2 : Int32} {v195 : Int32} {v196 : Int32} {v197 : Int32} (h : I_P_between_8_1 f_h0_parent x1 x2 v195 v196 v197) {c : Int} (hpp : ∀ k : Int, 1 ≤ k → k < c → 0 ≤ gG f_h0_parent k ∧ gG f_h0_parent k < k) (hc : c ≤ 9) (hx : 0 ≤ x1.toInt ∧ x1.toInt < c) (hy : 0 ≤ x2.toInt ∧ x2.toInt < c) : BQ (fun k => gG f_h0_parent k) c x1.toInt x2.toInt v195.toInt v196.toInt v197.toInt := by
  refine I_P_between_8_1.ind (Q_ := fun v195 v196 v197 => BQ (fun k => gG f_h0_parent k) c x1.toInt x2.toInt v195.toInt v196.toInt v197.toInt) ?_ ?_ h
  · have e0 : (0 : Int32).toInt = 0 := by decide
    exact ⟨hx.1, hx.2, hy.1, hy.2, by omega, by omega, by rw [e0]; omega⟩
  · intro v195 v196 v197 v241 v242 z247 hp ih p0 p1 p2 p3 p4 p5
    have ih2 := ih
    rcases p2 with ⟨z251, q0, q1, q2, g0, g1⟩ | ⟨z254, q0, q1, q2, g0, g1⟩ | p2
    · rw [show v241.toInt = v195.toInt by omega]
      exact BQ.r hpp hc ih2 (by omega) (by rw [g1, q1]) p5
    · rw [show v242.toInt = v196.toInt by omega]
      exact BQ.l hpp hc ih2 (by omega) (by rw [g0, q1]) p5
    · exact p2.elim
theorem c_between {x1 : Int32} {x2 : Int32} {f_h0_parent : (Nat → Int32)} {o_r : Int32} (h : S_P_between x1 x2 f_h0_parent o_r) {c : Int} (hpp : ∀ k : Int, 1 ≤ k → k < c → 0 ≤ gG f_h0_parent k ∧ gG f_h0_parent k < k) (hc : c ≤ 9) (hx : 0 ≤ x1.toInt ∧ x1.toInt < c) (hy : 0 ≤ x2.toInt ∧ x2.toInt < c) : o_r.toInt = BW (fun k => gG f_h0_parent k) 16 x1.toInt x2.toInt := by
  rcases h with ⟨v195, v196, v197, p0, p1, p2, p3, p4, e0⟩ | ⟨v195, v196, v197, p0, p1, p2, p3, p4, p5, e0⟩ | h
  · have y := i_between p0 hpp hc hx hy
    rw [e0]
    exact BQ.end y (by omega)
  · have y := i_between p0 hpp hc hx hy
    exfalso
    obtain ⟨y0, y1, y2, y3, y4, y5, _⟩ := y
    omega
  · exact h.elim
theorem i_nbetween {f_h0_told : (Nat → Int32)} {x1 : Int32} {x2 : Int32} {v176 : Int32} {v177 : Int32} {v178 : Int32} (h : I_N_between_26_1 f_h0_told x1 x2 v176 v177 v178) {c : Int} (hpp : ∀ k : Int, 1 ≤ k → k < c → 0 ≤ gG f_h0_told (13 + k) ∧ gG f_h0_told (13 + k) < k) (hc : c ≤ 9) (hx : 0 ≤ x1.toInt ∧ x1.toInt < c) (hy : 0 ≤ x2.toInt ∧ x2.toInt < c) : BQ (fun k => gG f_h0_told (13 + k)) c x1.toInt x2.toInt v176.toInt v177.toInt v178.toInt := by
  refine I_N_between_26_1.ind (Q_ := fun v176 v177 v178 => BQ (fun k => gG f_h0_told (13 + k)) c x1.toInt x2.toInt v176.toInt v177.toInt v178.toInt) ?_ ?_ ?_ h
  · have e0 : (0 : Int32).toInt = 0 := by decide
    exact ⟨hx.1, hx.2, hy.1, hy.2, by omega, by omega, by rw [e0]; omega⟩
  · intro v176 v177 v178 z208 z211 z214 hp ih p0 p1 p2 p3 p4 p5
    have ih2 := ih
    obtain ⟨i0, i1, i2, i3, i4, i5, _⟩ := ih
    have y := n1 p5 (rfl : v178.toInt = v178.toInt) ⟨i4, by omega⟩
    exact BQ.r hpp hc ih2 (by omega) (by rw [p3, p2]) y
  · intro v176 v177 v178 z216 z219 z222 hp ih p0 p1 p2 p3 p4 p5
    have ih2 := ih
    obtain ⟨i0, i1, i2, i3, i4, i5, _⟩ := ih
    have y := n1 p5 (rfl : v178.toInt = v178.toInt) ⟨i4, by omega⟩
    exact BQ.l hpp hc ih2 (by omega) (by rw [p3, p2]) y
theorem bt_eq {rad nam sid frm wid hei tw : Nat → Int32} {tc th t4 : Int32} {x1 : Int32} {x2 : Int32} {h0_part_count : Int32} {f_h0_part_parent : (Nat → Int32)} {o_r : Int32} {x1' : Int32} {x2' : Int32} {h0_hasPart' : Int32} {f_h0_told' : (Nat → Int32)} {h0_told_3' : Int32} {o_r' : Int32} (h : S_F_between x1 x2 h0_part_count f_h0_part_parent o_r) (h' : S_N_between x1' x2' h0_hasPart' f_h0_told' h0_told_3' o_r') (hx1 : x1 = x1') (hx2 : x2 = x2') (D : pDC f_h0_part_parent rad nam sid frm wid hei tw f_h0_told' h0_part_count tc th h0_hasPart' h0_told_3' t4) (hH : ((h0_hasPart'.toInt = 0 ∧ h0_told_3'.toInt = 0) ∨ (h0_hasPart'.toInt = 1 ∧ 1 ≤ h0_told_3'.toInt))) : o_r.toInt = o_r'.toInt := by
  subst hx1 hx2
  rcases h with ⟨r1, p0, -, p2, p3, e0⟩ | ⟨r1, r6, p0, -, p2, p3, p4, -, p6, p7, e0⟩ | ⟨r1, r6, r11, p0, -, p2, p3, p4, -, p6, p7, p8, p9, e0⟩ | h
  · skip
    rcases h' with ⟨r1', q0, -, q2, q3, g0⟩ | ⟨r1', r6', v176', v177', v178', q0, -, q2, q3, q4, -, q6, q7, q8, q9, q10, q11, g0⟩ | ⟨r1', r6', q0, -, q2, q3, q4, -, q6, q7, g0⟩ | h'
    · have e1m : ((-1 : Int32).toInt) = -1 := by decide
      have k0 := f_isFlange p2
      have l0 := n_isFlange q2 hH
      have ct : h0_part_count.toInt = h0_told_3'.toInt := by
        rcases D with ⟨a, a2, _⟩ | ⟨_, ⟨_, _, a⟩, _⟩
        · omega
        · exact a
      clear D
      omega
    · have e1m : ((-1 : Int32).toInt) = -1 := by decide
      have k0 := f_isFlange p2
      have l0 := n_isFlange q2 hH
      have l1 := n_isFlange q6 hH
      have ct : h0_part_count.toInt = h0_told_3'.toInt := by
        rcases D with ⟨a, a2, _⟩ | ⟨_, ⟨_, _, a⟩, _⟩
        · omega
        · exact a
      clear D
      omega
    · have e1m : ((-1 : Int32).toInt) = -1 := by decide
      have k0 := f_isFlange p2
      have l0 := n_isFlange q2 hH
      have l1 := n_isFlange q6 hH
      have ct : h0_part_count.toInt = h0_told_3'.toInt := by
        rcases D with ⟨a, a2, _⟩ | ⟨_, ⟨_, _, a⟩, _⟩
        · omega
        · exact a
      clear D
      omega
    · exact h'.elim
  · skip
    rcases h' with ⟨r1', q0, -, q2, q3, g0⟩ | ⟨r1', r6', v176', v177', v178', q0, -, q2, q3, q4, -, q6, q7, q8, q9, q10, q11, g0⟩ | ⟨r1', r6', q0, -, q2, q3, q4, -, q6, q7, g0⟩ | h'
    · have e1m : ((-1 : Int32).toInt) = -1 := by decide
      have k0 := f_isFlange p2
      have k1 := f_isFlange p6
      have l0 := n_isFlange q2 hH
      have ct : h0_part_count.toInt = h0_told_3'.toInt := by
        rcases D with ⟨a, a2, _⟩ | ⟨_, ⟨_, _, a⟩, _⟩
        · omega
        · exact a
      clear D
      omega
    · have e1m : ((-1 : Int32).toInt) = -1 := by decide
      have k0 := f_isFlange p2
      have k1 := f_isFlange p6
      have l0 := n_isFlange q2 hH
      have l1 := n_isFlange q6 hH
      have ct : h0_part_count.toInt = h0_told_3'.toInt := by
        rcases D with ⟨a, a2, _⟩ | ⟨_, ⟨_, _, a⟩, _⟩
        · omega
        · exact a
      clear D
      omega
    · have e1m : ((-1 : Int32).toInt) = -1 := by decide
      have k0 := f_isFlange p2
      have k1 := f_isFlange p6
      have l0 := n_isFlange q2 hH
      have l1 := n_isFlange q6 hH
      have ct : h0_part_count.toInt = h0_told_3'.toInt := by
        rcases D with ⟨a, a2, _⟩ | ⟨_, ⟨_, _, a⟩, _⟩
        · omega
        · exact a
      clear D
      omega
    · exact h'.elim
  · skip
    rcases h' with ⟨r1', q0, -, q2, q3, g0⟩ | ⟨r1', r6', v176', v177', v178', q0, -, q2, q3, q4, -, q6, q7, q8, q9, q10, q11, g0⟩ | ⟨r1', r6', q0, -, q2, q3, q4, -, q6, q7, g0⟩ | h'
    · have e1m : ((-1 : Int32).toInt) = -1 := by decide
      have k0 := f_isFlange p2
      have k1 := f_isFlange p6
      have l0 := n_isFlange q2 hH
      have ct : h0_part_count.toInt = h0_told_3'.toInt := by
        rcases D with ⟨a, a2, _⟩ | ⟨_, ⟨_, _, a⟩, _⟩
        · omega
        · exact a
      clear D
      omega
    · have e1m : ((-1 : Int32).toInt) = -1 := by decide
      have k0 := f_isFlange p2
      have k1 := f_isFlange p6
      have l0 := n_isFlange q2 hH
      have l1 := n_isFlange q6 hH
      have ct : h0_part_count.toInt = h0_told_3'.toInt := by
        rcases D with ⟨a, a2, _⟩ | ⟨_, ⟨_, _, a⟩, _⟩
        · omega
        · exact a
      obtain ⟨d0, d1, d2⟩ := D.pp
      have y := c_between p9 d1 d0 (by omega) (by omega)
      have x := i_nbetween q8 (c := h0_part_count.toInt) (fun k k1 k2 => by rw [← d2 k k1 k2]; exact d1 k k1 k2) d0 (by omega) (by omega)
      have z := x.end (by omega)
      rw [e0, y, g0, z]
      exact BW.cg d1 d2 16 _ _ (by omega) (by omega) (by omega) (by omega)
    · have e1m : ((-1 : Int32).toInt) = -1 := by decide
      have k0 := f_isFlange p2
      have k1 := f_isFlange p6
      have l0 := n_isFlange q2 hH
      have l1 := n_isFlange q6 hH
      have ct : h0_part_count.toInt = h0_told_3'.toInt := by
        rcases D with ⟨a, a2, _⟩ | ⟨_, ⟨_, _, a⟩, _⟩
        · omega
        · exact a
      clear D
      omega
    · exact h'.elim
  · exact h.elim
