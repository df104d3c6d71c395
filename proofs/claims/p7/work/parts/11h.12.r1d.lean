theorem c_ch1_0 {x2 : Int32} {o_r : Int32} (h : S_L_charAt_0 x2 o_r)  : o_r.toInt = chZ 0 x2.toInt := by
  rcases h with ⟨z2, z4, z7, p0, p1, p2, p3, e0⟩ | h
  · have b := chZ_b 0 x2.toInt
    rw [e0, zch (by omega) p1 p3, p0]
  · exact h.elim
theorem c_ch_0 {x1 : Int32} {o_r : Int32} (h : S_J_charAt_0 x1 o_r)  : o_r.toInt = chZ 0 x1.toInt := by
  rcases h with ⟨r4, p0, e0⟩ | h
  · have k0 := c_ch1_0 p0
    omega
  · exact h.elim
theorem j_wI2_0 {r210 : Int32} {r213 : Int32} {v217 : Int32} (h : J_R_wordIs_0_62_3 r210 r213 v217)  : ((v217.toInt = 1 ∧ r210.toInt = r213.toInt) ∨ (v217.toInt = 0 ∧ ¬ (r210.toInt = r213.toInt))) := by
  rcases h with ⟨p0, e0⟩ | ⟨p0, e0⟩ | h
  · omega
  · omega
  · exact h.elim
theorem j_wI1_0 {z1 : Int32} {v7 : Int32} (h : J_R_wordIs_0_21_1 z1 v7)  : ((v7.toInt = 1 ∧ z1.toInt = 5) ∨ (v7.toInt = 0 ∧ ¬ (z1.toInt = 5))) := by
  rcases h with ⟨p0, e0⟩ | ⟨p0, e0⟩ | h
  · omega
  · omega
  · exact h.elim
theorem i_wI_0 {f_h0_tape_bytes : (Nat → Int32)} {h0_tape_length : Int32} {h0_tokenStart : Int32} {v7 : Int32} {v172 : Int32} {v173 : Int32} (h : I_R_wordIs_0_24_2 f_h0_tape_bytes h0_tape_length h0_tokenStart v7 v172 v173) {B : Int → Int} (c : cTB f_h0_tape_bytes h0_tape_length B) (s0 : v7.toInt = 0 ∨ v7.toInt = 1) : ((v172.toInt = 1 ∧ 0 ≤ v173.toInt ∧ (∀ k : Int, 0 ≤ k → k < v173.toInt → B (h0_tokenStart.toInt + k) = chZ 0 k)) ∨ (v172.toInt = 0 ∧ 0 ≤ v173.toInt ∧ (v7.toInt = 0 ∨ ∃ k : Int, 0 ≤ k ∧ k < 5 ∧ ¬ B (h0_tokenStart.toInt + k) = chZ 0 k))) := by
  refine I_R_wordIs_0_24_2.ind (Q_ := fun v172 v173 => ((v172.toInt = 1 ∧ 0 ≤ v173.toInt ∧ (∀ k : Int, 0 ≤ k → k < v173.toInt → B (h0_tokenStart.toInt + k) = chZ 0 k)) ∨ (v172.toInt = 0 ∧ 0 ≤ v173.toInt ∧ (v7.toInt = 0 ∨ ∃ k : Int, 0 ≤ k ∧ k < 5 ∧ ¬ B (h0_tokenStart.toInt + k) = chZ 0 k)))) ?_ ?_ h
  · have e0_ : (0 : Int32).toInt = 0 := by decide
    rcases s0 with s0 | s0
    · exact .inr ⟨s0, by omega, .inl s0⟩
    · exact .inl ⟨s0, by omega, fun k h1 h2 => absurd h2 (by omega)⟩
  · intro v172 v173 z207 r210 r213 v217 z221 hp ih p0 p1 p2 p3 p4 p5 p6 p7 p8
    have k4 := c_at p4 c
    have k5 := c_ch_0 p5
    have k6 := j_wI2_0 p6
    rcases ih with ⟨i0, i1, i2⟩ | ⟨i0, i1, i2⟩
    · have e9 : B z207.toInt = B (h0_tokenStart.toInt + v173.toInt) := congrArg B (by omega)
      by_cases q : B z207.toInt = chZ 0 v173.toInt
      · refine .inl ⟨by omega, by omega, fun k q1 q2 => ?_⟩
        by_cases q3 : k = v173.toInt
        · subst q3; omega
        · exact i2 k q1 (by omega)
      · refine .inr ⟨by omega, by omega, ?_⟩
        exact .inr ⟨v173.toInt, by omega, by omega, by omega⟩
    · exact absurd i0 p0
theorem i_wJ_0 {f_h0_tape_bytes : (Nat → Int32)} {h0_tape_length : Int32} {h0_tokenStart : Int32} {v7 : Int32} {v172 : Int32} {v173 : Int32} (h : I_R_wordIs_0_24_2 f_h0_tape_bytes h0_tape_length h0_tokenStart v7 v172 v173) {B : Int → Int} (c : cTB f_h0_tape_bytes h0_tape_length B) (s0 : v7.toInt = 0) : v172.toInt = 0 := by
  refine I_R_wordIs_0_24_2.ind (Q_ := fun v172 v173 => v172.toInt = 0) ?_ ?_ h
  · exact s0
  · intro v172 v173 z207 r210 r213 v217 z221 hp ih p0 p1 p2 p3 p4 p5 p6 p7 p8
    have k4 := c_at p4 c
    have k5 := c_ch_0 p5
    have k6 := j_wI2_0 p6
    omega
theorem c_wI_0 {h0_at : Int32} {h0_tokenStart : Int32} {h0_tape_length : Int32} {f_h0_tape_bytes : (Nat → Int32)} {o_r : Int32} (h : S_R_wordIs_0 h0_at h0_tokenStart h0_tape_length f_h0_tape_bytes o_r) {B : Int → Int} (c : cTB f_h0_tape_bytes h0_tape_length B) : ((o_r.toInt = 1 ∧ WIs B h0_tokenStart.toInt h0_at.toInt 0 5) ∨ (o_r.toInt = 0 ∧ ¬ WIs B h0_tokenStart.toInt h0_at.toInt 0 5)) := by
  rcases h with ⟨z1, v7, v172, v173, p0, p1, p2, p3, p4, p5, p6, e0⟩ | ⟨z1, v7, v172, v173, p0, p1, p2, p3, p4, p5, p6, p7, e0⟩ | h
  · have k1 := j_wI1_0 p1
    have k3 := i_wI_0 p3 c (by omega)
    refine .inr ⟨by omega, fun w => ?_⟩
    rcases k3 with ⟨i0, i1, i2⟩ | ⟨i0, i1, i2⟩
    · omega
    · rcases i2 with i2 | ⟨k, q1, q2, q3⟩
      · have := w.1; omega
      · exact q3 (w.2 k q1 q2)
  · have k1 := j_wI1_0 p1
    have k3 := i_wI_0 p3 c (by omega)
    rcases k3 with ⟨i0, i1, i2⟩ | ⟨i0, i1, i2⟩
    · refine .inl ⟨by omega, ?_, fun k q1 q2 => i2 k q1 (by omega)⟩
      rcases k1 with q | q
      · omega
      · exact absurd i0 (by have := i_wJ_0 p3 c q.1; omega)
    · exact absurd i0 p6
  · exact h.elim
theorem c_kw_0 {h0_at : Int32} {h0_tokenEnd : Int32} {h0_fault : Int32} {h0_place : Int32} {h0_tape_length : Int32} {f_h0_tape_bytes : (Nat → Int32)} {o_u_h0_at : Int32} {o_u_h0_tokenStart : Int32} {o_u_h0_tokenEnd : Int32} {o_u_h0_fault : Int32} {o_u_h0_place : Int32} (h : S_R_keyword_0 h0_at h0_tokenEnd h0_fault h0_place h0_tape_length f_h0_tape_bytes o_u_h0_at o_u_h0_tokenStart o_u_h0_tokenEnd o_u_h0_fault o_u_h0_place) {B : Int → Int} (c : cTB f_h0_tape_bytes h0_tape_length B) : isSk B h0_at.toInt o_u_h0_tokenStart.toInt ∧ isWd B o_u_h0_tokenStart.toInt o_u_h0_at.toInt ∧ o_u_h0_tokenEnd.toInt = o_u_h0_at.toInt ∧ (((o_u_h0_at.toInt = o_u_h0_tokenStart.toInt ∨ o_u_h0_tokenStart.toInt = h0_tokenEnd.toInt ∨ ¬ WIs B o_u_h0_tokenStart.toInt o_u_h0_at.toInt 0 5) ∧ ((¬ h0_fault.toInt = 0 ∧ o_u_h0_fault.toInt = h0_fault.toInt ∧ o_u_h0_place.toInt = h0_place.toInt) ∨ (h0_fault.toInt = 0 ∧ o_u_h0_fault.toInt = 1 ∧ o_u_h0_place.toInt = o_u_h0_tokenStart.toInt))) ∨ (¬ (o_u_h0_at.toInt = o_u_h0_tokenStart.toInt ∨ o_u_h0_tokenStart.toInt = h0_tokenEnd.toInt ∨ ¬ WIs B o_u_h0_tokenStart.toInt o_u_h0_at.toInt 0 5) ∧ o_u_h0_fault.toInt = h0_fault.toInt ∧ o_u_h0_place.toInt = h0_place.toInt)) := by
  rcases h with ⟨v3, v4, v5, v6, v7, r14, p0, p1, p2, p3, p4, p5, p6, p7, p8, e0, e1, e2, e3, e4⟩ | ⟨v3, v4, v5, v6, v7, r14, v20, v21, p0, p1, p2, p3, p4, p5, p6, p7, p8, p9, p10, p11, e0, e1, e2, e3, e4⟩ | h
  · have k5 := c_word p5 c
    have k7 := c_wI_0 p7 c
    have e1_ : (1 : Int32).toInt = 1 := by decide
    have eA := xie e0
    have eB := xie e1
    have eC := xie e2
    subst eA eB eC
    refine ⟨k5.1, k5.2.1, k5.2.2.1, ?_⟩
    have w4 := k5.2.2.2
    rcases k7 with ⟨w0, w1⟩ | ⟨w0, w1⟩
    · simp only [w1, not_true_eq_false, or_false]; omega
    · omega
  · have k5 := c_word p5 c
    have k7 := c_wI_0 p7 c
    have i1_ : (1 : Int32).toInt = 1 := by decide
    have k11 := c_fail p11
    have e1_ : (1 : Int32).toInt = 1 := by decide
    have eA := xie e0
    have eB := xie e1
    have eC := xie e2
    subst eA eB eC
    refine ⟨k5.1, k5.2.1, k5.2.2.1, ?_⟩
    have w4 := k5.2.2.2
    rcases k7 with ⟨w0, w1⟩ | ⟨w0, w1⟩
    · omega
    · simp only [w1, not_false_eq_true, or_true, not_true_eq_false, false_and, or_false, true_and]; omega
  · exact h.elim
theorem ow_t0 : ∀ j : Nat, j < 5 → chZ 0 (j : Int) = chZ 7 (wst 0 + 1 + (j : Int)) := by decide +kernel
theorem ow_0 {B : Int → Int} {a b : Int} : WIs B a b 0 5 ↔ OW B a b 0 := by
  have hl : wln 0 = 5 := by decide
  unfold WIs OW
  rw [hl]
  refine and_congr_right (fun _ => forall_congr' (fun j => ?_))
  constructor
  · intro h h0 h1
    have q := ow_t0 j.toNat (by omega)
    rw [show ((j.toNat : Nat) : Int) = j by omega] at q
    rw [h h0 h1, q]
  · intro h h0 h1
    have q := ow_t0 j.toNat (by omega)
    rw [show ((j.toNat : Nat) : Int) = j by omega] at q
    rw [h h0 h1, q]
theorem c_ch1_1 {x2 : Int32} {o_r : Int32} (h : S_L_charAt_1 x2 o_r)  : o_r.toInt = chZ 1 x2.toInt := by
  rcases h with ⟨z2, z4, z7, p0, p1, p2, p3, e0⟩ | h
  · have b := chZ_b 1 x2.toInt
    rw [e0, zch (by omega) p1 p3, p0]
  · exact h.elim
theorem c_ch_1 {x1 : Int32} {o_r : Int32} (h : S_J_charAt_1 x1 o_r)  : o_r.toInt = chZ 1 x1.toInt := by
  rcases h with ⟨r4, p0, e0⟩ | h
  · have k0 := c_ch1_1 p0
    omega
  · exact h.elim
theorem j_wI2_1 {r210 : Int32} {r213 : Int32} {v217 : Int32} (h : J_R_wordIs_1_62_3 r210 r213 v217)  : ((v217.toInt = 1 ∧ r210.toInt = r213.toInt) ∨ (v217.toInt = 0 ∧ ¬ (r210.toInt = r213.toInt))) := by
  rcases h with ⟨p0, e0⟩ | ⟨p0, e0⟩ | h
  · omega
  · omega
  · exact h.elim
theorem j_wI1_1 {z1 : Int32} {v7 : Int32} (h : J_R_wordIs_1_21_1 z1 v7)  : ((v7.toInt = 1 ∧ z1.toInt = 5) ∨ (v7.toInt = 0 ∧ ¬ (z1.toInt = 5))) := by
  rcases h with ⟨p0, e0⟩ | ⟨p0, e0⟩ | h
  · omega
  · omega
  · exact h.elim
theorem i_wI_1 {f_h0_tape_bytes : (Nat → Int32)} {h0_tape_length : Int32} {h0_tokenStart : Int32} {v7 : Int32} {v172 : Int32} {v173 : Int32} (h : I_R_wordIs_1_24_2 f_h0_tape_bytes h0_tape_length h0_tokenStart v7 v172 v173) {B : Int → Int} (c : cTB f_h0_tape_bytes h0_tape_length B) (s0 : v7.toInt = 0 ∨ v7.toInt = 1) : ((v172.toInt = 1 ∧ 0 ≤ v173.toInt ∧ (∀ k : Int, 0 ≤ k → k < v173.toInt → B (h0_tokenStart.toInt + k) = chZ 1 k)) ∨ (v172.toInt = 0 ∧ 0 ≤ v173.toInt ∧ (v7.toInt = 0 ∨ ∃ k : Int, 0 ≤ k ∧ k < 5 ∧ ¬ B (h0_tokenStart.toInt + k) = chZ 1 k))) := by
  refine I_R_wordIs_1_24_2.ind (Q_ := fun v172 v173 => ((v172.toInt = 1 ∧ 0 ≤ v173.toInt ∧ (∀ k : Int, 0 ≤ k → k < v173.toInt → B (h0_tokenStart.toInt + k) = chZ 1 k)) ∨ (v172.toInt = 0 ∧ 0 ≤ v173.toInt ∧ (v7.toInt = 0 ∨ ∃ k : Int, 0 ≤ k ∧ k < 5 ∧ ¬ B (h0_tokenStart.toInt + k) = chZ 1 k)))) ?_ ?_ h
  · have e0_ : (0 : Int32).toInt = 0 := by decide
    rcases s0 with s0 | s0
    · exact .inr ⟨s0, by omega, .inl s0⟩
    · exact .inl ⟨s0, by omega, fun k h1 h2 => absurd h2 (by omega)⟩
  · intro v172 v173 z207 r210 r213 v217 z221 hp ih p0 p1 p2 p3 p4 p5 p6 p7 p8
    have k4 := c_at p4 c
    have k5 := c_ch_1 p5
    have k6 := j_wI2_1 p6
    rcases ih with ⟨i0, i1, i2⟩ | ⟨i0, i1, i2⟩
    · have e9 : B z207.toInt = B (h0_tokenStart.toInt + v173.toInt) := congrArg B (by omega)
      by_cases q : B z207.toInt = chZ 1 v173.toInt
      · refine .inl ⟨by omega, by omega, fun k q1 q2 => ?_⟩
        by_cases q3 : k = v173.toInt
        · subst q3; omega
        · exact i2 k q1 (by omega)
      · refine .inr ⟨by omega, by omega, ?_⟩
        exact .inr ⟨v173.toInt, by omega, by omega, by omega⟩
    · exact absurd i0 p0
theorem i_wJ_1 {f_h0_tape_bytes : (Nat → Int32)} {h0_tape_length : Int32} {h0_tokenStart : Int32} {v7 : Int32} {v172 : Int32} {v173 : Int32} (h : I_R_wordIs_1_24_2 f_h0_tape_bytes h0_tape_length h0_tokenStart v7 v172 v173) {B : Int → Int} (c : cTB f_h0_tape_bytes h0_tape_length B) (s0 : v7.toInt = 0) : v172.toInt = 0 := by
  refine I_R_wordIs_1_24_2.ind (Q_ := fun v172 v173 => v172.toInt = 0) ?_ ?_ h
  · exact s0
  · intro v172 v173 z207 r210 r213 v217 z221 hp ih p0 p1 p2 p3 p4 p5 p6 p7 p8
    have k4 := c_at p4 c
    have k5 := c_ch_1 p5
    have k6 := j_wI2_1 p6
    omega
theorem c_wI_1 {h0_at : Int32} {h0_tokenStart : Int32} {h0_tape_length : Int32} {f_h0_tape_bytes : (Nat → Int32)} {o_r : Int32} (h : S_R_wordIs_1 h0_at h0_tokenStart h0_tape_length f_h0_tape_bytes o_r) {B : Int → Int} (c : cTB f_h0_tape_bytes h0_tape_length B) : ((o_r.toInt = 1 ∧ WIs B h0_tokenStart.toInt h0_at.toInt 1 5) ∨ (o_r.toInt = 0 ∧ ¬ WIs B h0_tokenStart.toInt h0_at.toInt 1 5)) := by
  rcases h with ⟨z1, v7, v172, v173, p0, p1, p2, p3, p4, p5, p6, e0⟩ | ⟨z1, v7, v172, v173, p0, p1, p2, p3, p4, p5, p6, p7, e0⟩ | h
  · have k1 := j_wI1_1 p1
    have k3 := i_wI_1 p3 c (by omega)
    refine .inr ⟨by omega, fun w => ?_⟩
    rcases k3 with ⟨i0, i1, i2⟩ | ⟨i0, i1, i2⟩
    · omega
    · rcases i2 with i2 | ⟨k, q1, q2, q3⟩
      · have := w.1; omega
      · exact q3 (w.2 k q1 q2)
  · have k1 := j_wI1_1 p1
    have k3 := i_wI_1 p3 c (by omega)
    rcases k3 with ⟨i0, i1, i2⟩ | ⟨i0, i1, i2⟩
    · refine .inl ⟨by omega, ?_, fun k q1 q2 => i2 k q1 (by omega)⟩
      rcases k1 with q | q
      · omega
      · exact absurd i0 (by have := i_wJ_1 p3 c q.1; omega)
    · exact absurd i0 p6
  · exact h.elim
theorem c_kw_1 {h0_at : Int32} {h0_tokenEnd : Int32} {h0_fault : Int32} {h0_place : Int32} {h0_tape_length : Int32} {f_h0_tape_bytes : (Nat → Int32)} {o_u_h0_at : Int32} {o_u_h0_tokenStart : Int32} {o_u_h0_tokenEnd : Int32} {o_u_h0_fault : Int32} {o_u_h0_place : Int32} (h : S_R_keyword_1 h0_at h0_tokenEnd h0_fault h0_place h0_tape_length f_h0_tape_bytes o_u_h0_at o_u_h0_tokenStart o_u_h0_tokenEnd o_u_h0_fault o_u_h0_place) {B : Int → Int} (c : cTB f_h0_tape_bytes h0_tape_length B) : isSk B h0_at.toInt o_u_h0_tokenStart.toInt ∧ isWd B o_u_h0_tokenStart.toInt o_u_h0_at.toInt ∧ o_u_h0_tokenEnd.toInt = o_u_h0_at.toInt ∧ (((o_u_h0_at.toInt = o_u_h0_tokenStart.toInt ∨ o_u_h0_tokenStart.toInt = h0_tokenEnd.toInt ∨ ¬ WIs B o_u_h0_tokenStart.toInt o_u_h0_at.toInt 1 5) ∧ ((¬ h0_fault.toInt = 0 ∧ o_u_h0_fault.toInt = h0_fault.toInt ∧ o_u_h0_place.toInt = h0_place.toInt) ∨ (h0_fault.toInt = 0 ∧ o_u_h0_fault.toInt = 1 ∧ o_u_h0_place.toInt = o_u_h0_tokenStart.toInt))) ∨ (¬ (o_u_h0_at.toInt = o_u_h0_tokenStart.toInt ∨ o_u_h0_tokenStart.toInt = h0_tokenEnd.toInt ∨ ¬ WIs B o_u_h0_tokenStart.toInt o_u_h0_at.toInt 1 5) ∧ o_u_h0_fault.toInt = h0_fault.toInt ∧ o_u_h0_place.toInt = h0_place.toInt)) := by
  rcases h with ⟨v3, v4, v5, v6, v7, r14, p0, p1, p2, p3, p4, p5, p6, p7, p8, e0, e1, e2, e3, e4⟩ | ⟨v3, v4, v5, v6, v7, r14, v20, v21, p0, p1, p2, p3, p4, p5, p6, p7, p8, p9, p10, p11, e0, e1, e2, e3, e4⟩ | h
  · have k5 := c_word p5 c
    have k7 := c_wI_1 p7 c
    have e1_ : (1 : Int32).toInt = 1 := by decide
    have eA := xie e0
    have eB := xie e1
    have eC := xie e2
    subst eA eB eC
    refine ⟨k5.1, k5.2.1, k5.2.2.1, ?_⟩
    have w4 := k5.2.2.2
    rcases k7 with ⟨w0, w1⟩ | ⟨w0, w1⟩
    · simp only [w1, not_true_eq_false, or_false]; omega
    · omega
  · have k5 := c_word p5 c
    have k7 := c_wI_1 p7 c
    have i1_ : (1 : Int32).toInt = 1 := by decide
    have k11 := c_fail p11
    have e1_ : (1 : Int32).toInt = 1 := by decide
    have eA := xie e0
    have eB := xie e1
    have eC := xie e2
    subst eA eB eC
    refine ⟨k5.1, k5.2.1, k5.2.2.1, ?_⟩
    have w4 := k5.2.2.2
    rcases k7 with ⟨w0, w1⟩ | ⟨w0, w1⟩
    · omega
    · simp only [w1, not_false_eq_true, or_true, not_true_eq_false, false_and, or_false, true_and]; omega
  · exact h.elim
theorem ow_t1 : ∀ j : Nat, j < 5 → chZ 1 (j : Int) = chZ 7 (wst 1 + 1 + (j : Int)) := by decide +kernel
theorem ow_1 {B : Int → Int} {a b : Int} : WIs B a b 1 5 ↔ OW B a b 1 := by
  have hl : wln 1 = 5 := by decide
  unfold WIs OW
  rw [hl]
  refine and_congr_right (fun _ => forall_congr' (fun j => ?_))
  constructor
  · intro h h0 h1
    have q := ow_t1 j.toNat (by omega)
    rw [show ((j.toNat : Nat) : Int) = j by omega] at q
    rw [h h0 h1, q]
  · intro h h0 h1
    have q := ow_t1 j.toNat (by omega)
    rw [show ((j.toNat : Nat) : Int) = j by omega] at q
    rw [h h0 h1, q]
theorem c_ch1_2 {x2 : Int32} {o_r : Int32} (h : S_L_charAt_2 x2 o_r)  : o_r.toInt = chZ 2 x2.toInt := by
  rcases h with ⟨z2, z4, z7, p0, p1, p2, p3, e0⟩ | h
  · have b := chZ_b 2 x2.toInt
    rw [e0, zch (by omega) p1 p3, p0]
  · exact h.elim
theorem c_ch_2 {x1 : Int32} {o_r : Int32} (h : S_J_charAt_2 x1 o_r)  : o_r.toInt = chZ 2 x1.toInt := by
  rcases h with ⟨r4, p0, e0⟩ | h
  · have k0 := c_ch1_2 p0
    omega
  · exact h.elim
theorem j_wI2_2 {r162 : Int32} {r165 : Int32} {v169 : Int32} (h : J_R_wordIs_2_62_3 r162 r165 v169)  : ((v169.toInt = 1 ∧ r162.toInt = r165.toInt) ∨ (v169.toInt = 0 ∧ ¬ (r162.toInt = r165.toInt))) := by
  rcases h with ⟨p0, e0⟩ | ⟨p0, e0⟩ | h
  · omega
  · omega
  · exact h.elim
theorem j_wI1_2 {z1 : Int32} {v7 : Int32} (h : J_R_wordIs_2_21_1 z1 v7)  : ((v7.toInt = 1 ∧ z1.toInt = 4) ∨ (v7.toInt = 0 ∧ ¬ (z1.toInt = 4))) := by
  rcases h with ⟨p0, e0⟩ | ⟨p0, e0⟩ | h
  · omega
  · omega
  · exact h.elim
theorem i_wI_2 {f_h0_tape_bytes : (Nat → Int32)} {h0_tape_length : Int32} {h0_tokenStart : Int32} {v7 : Int32} {v124 : Int32} {v125 : Int32} (h : I_R_wordIs_2_24_2 f_h0_tape_bytes h0_tape_length h0_tokenStart v7 v124 v125) {B : Int → Int} (c : cTB f_h0_tape_bytes h0_tape_length B) (s0 : v7.toInt = 0 ∨ v7.toInt = 1) : ((v124.toInt = 1 ∧ 0 ≤ v125.toInt ∧ (∀ k : Int, 0 ≤ k → k < v125.toInt → B (h0_tokenStart.toInt + k) = chZ 2 k)) ∨ (v124.toInt = 0 ∧ 0 ≤ v125.toInt ∧ (v7.toInt = 0 ∨ ∃ k : Int, 0 ≤ k ∧ k < 4 ∧ ¬ B (h0_tokenStart.toInt + k) = chZ 2 k))) := by
  refine I_R_wordIs_2_24_2.ind (Q_ := fun v124 v125 => ((v124.toInt = 1 ∧ 0 ≤ v125.toInt ∧ (∀ k : Int, 0 ≤ k → k < v125.toInt → B (h0_tokenStart.toInt + k) = chZ 2 k)) ∨ (v124.toInt = 0 ∧ 0 ≤ v125.toInt ∧ (v7.toInt = 0 ∨ ∃ k : Int, 0 ≤ k ∧ k < 4 ∧ ¬ B (h0_tokenStart.toInt + k) = chZ 2 k)))) ?_ ?_ h
  · have e0_ : (0 : Int32).toInt = 0 := by decide
    rcases s0 with s0 | s0
    · exact .inr ⟨s0, by omega, .inl s0⟩
    · exact .inl ⟨s0, by omega, fun k h1 h2 => absurd h2 (by omega)⟩
  · intro v124 v125 z159 r162 r165 v169 z173 hp ih p0 p1 p2 p3 p4 p5 p6 p7 p8
    have k4 := c_at p4 c
    have k5 := c_ch_2 p5
    have k6 := j_wI2_2 p6
    rcases ih with ⟨i0, i1, i2⟩ | ⟨i0, i1, i2⟩
    · have e9 : B z159.toInt = B (h0_tokenStart.toInt + v125.toInt) := congrArg B (by omega)
      by_cases q : B z159.toInt = chZ 2 v125.toInt
      · refine .inl ⟨by omega, by omega, fun k q1 q2 => ?_⟩
        by_cases q3 : k = v125.toInt
        · subst q3; omega
        · exact i2 k q1 (by omega)
      · refine .inr ⟨by omega, by omega, ?_⟩
        exact .inr ⟨v125.toInt, by omega, by omega, by omega⟩
    · exact absurd i0 p0
theorem i_wJ_2 {f_h0_tape_bytes : (Nat → Int32)} {h0_tape_length : Int32} {h0_tokenStart : Int32} {v7 : Int32} {v124 : Int32} {v125 : Int32} (h : I_R_wordIs_2_24_2 f_h0_tape_bytes h0_tape_length h0_tokenStart v7 v124 v125) {B : Int → Int} (c : cTB f_h0_tape_bytes h0_tape_length B) (s0 : v7.toInt = 0) : v124.toInt = 0 := by
  refine I_R_wordIs_2_24_2.ind (Q_ := fun v124 v125 => v124.toInt = 0) ?_ ?_ h
  · exact s0
  · intro v124 v125 z159 r162 r165 v169 z173 hp ih p0 p1 p2 p3 p4 p5 p6 p7 p8
    have k4 := c_at p4 c
    have k5 := c_ch_2 p5
    have k6 := j_wI2_2 p6
    omega
theorem c_wI_2 {h0_at : Int32} {h0_tokenStart : Int32} {h0_tape_length : Int32} {f_h0_tape_bytes : (Nat → Int32)} {o_r : Int32} (h : S_R_wordIs_2 h0_at h0_tokenStart h0_tape_length f_h0_tape_bytes o_r) {B : Int → Int} (c : cTB f_h0_tape_bytes h0_tape_length B) : ((o_r.toInt = 1 ∧ WIs B h0_tokenStart.toInt h0_at.toInt 2 4) ∨ (o_r.toInt = 0 ∧ ¬ WIs B h0_tokenStart.toInt h0_at.toInt 2 4)) := by
  rcases h with ⟨z1, v7, v124, v125, p0, p1, p2, p3, p4, p5, p6, e0⟩ | ⟨z1, v7, v124, v125, p0, p1, p2, p3, p4, p5, p6, p7, e0⟩ | h
  · have k1 := j_wI1_2 p1
    have k3 := i_wI_2 p3 c (by omega)
    refine .inr ⟨by omega, fun w => ?_⟩
    rcases k3 with ⟨i0, i1, i2⟩ | ⟨i0, i1, i2⟩
    · omega
    · rcases i2 with i2 | ⟨k, q1, q2, q3⟩
      · have := w.1; omega
      · exact q3 (w.2 k q1 q2)
  · have k1 := j_wI1_2 p1
    have k3 := i_wI_2 p3 c (by omega)
    rcases k3 with ⟨i0, i1, i2⟩ | ⟨i0, i1, i2⟩
    · refine .inl ⟨by omega, ?_, fun k q1 q2 => i2 k q1 (by omega)⟩
      rcases k1 with q | q
      · omega
      · exact absurd i0 (by have := i_wJ_2 p3 c q.1; omega)
    · exact absurd i0 p6
  · exact h.elim
theorem c_kw_2 {h0_at : Int32} {h0_tokenEnd : Int32} {h0_fault : Int32} {h0_place : Int32} {h0_tape_length : Int32} {f_h0_tape_bytes : (Nat → Int32)} {o_u_h0_at : Int32} {o_u_h0_tokenStart : Int32} {o_u_h0_tokenEnd : Int32} {o_u_h0_fault : Int32} {o_u_h0_place : Int32} (h : S_R_keyword_2 h0_at h0_tokenEnd h0_fault h0_place h0_tape_length f_h0_tape_bytes o_u_h0_at o_u_h0_tokenStart o_u_h0_tokenEnd o_u_h0_fault o_u_h0_place) {B : Int → Int} (c : cTB f_h0_tape_bytes h0_tape_length B) : isSk B h0_at.toInt o_u_h0_tokenStart.toInt ∧ isWd B o_u_h0_tokenStart.toInt o_u_h0_at.toInt ∧ o_u_h0_tokenEnd.toInt = o_u_h0_at.toInt ∧ (((o_u_h0_at.toInt = o_u_h0_tokenStart.toInt ∨ o_u_h0_tokenStart.toInt = h0_tokenEnd.toInt ∨ ¬ WIs B o_u_h0_tokenStart.toInt o_u_h0_at.toInt 2 4) ∧ ((¬ h0_fault.toInt = 0 ∧ o_u_h0_fault.toInt = h0_fault.toInt ∧ o_u_h0_place.toInt = h0_place.toInt) ∨ (h0_fault.toInt = 0 ∧ o_u_h0_fault.toInt = 1 ∧ o_u_h0_place.toInt = o_u_h0_tokenStart.toInt))) ∨ (¬ (o_u_h0_at.toInt = o_u_h0_tokenStart.toInt ∨ o_u_h0_tokenStart.toInt = h0_tokenEnd.toInt ∨ ¬ WIs B o_u_h0_tokenStart.toInt o_u_h0_at.toInt 2 4) ∧ o_u_h0_fault.toInt = h0_fault.toInt ∧ o_u_h0_place.toInt = h0_place.toInt)) := by
  rcases h with ⟨v3, v4, v5, v6, v7, r14, p0, p1, p2, p3, p4, p5, p6, p7, p8, e0, e1, e2, e3, e4⟩ | ⟨v3, v4, v5, v6, v7, r14, v20, v21, p0, p1, p2, p3, p4, p5, p6, p7, p8, p9, p10, p11, e0, e1, e2, e3, e4⟩ | h
  · have k5 := c_word p5 c
    have k7 := c_wI_2 p7 c
    have e1_ : (1 : Int32).toInt = 1 := by decide
    have eA := xie e0
    have eB := xie e1
    have eC := xie e2
    subst eA eB eC
    refine ⟨k5.1, k5.2.1, k5.2.2.1, ?_⟩
    have w4 := k5.2.2.2
    rcases k7 with ⟨w0, w1⟩ | ⟨w0, w1⟩
    · simp only [w1, not_true_eq_false, or_false]; omega
    · omega
  · have k5 := c_word p5 c
    have k7 := c_wI_2 p7 c
    have i1_ : (1 : Int32).toInt = 1 := by decide
    have k11 := c_fail p11
    have e1_ : (1 : Int32).toInt = 1 := by decide
    have eA := xie e0
    have eB := xie e1
    have eC := xie e2
    subst eA eB eC
    refine ⟨k5.1, k5.2.1, k5.2.2.1, ?_⟩
    have w4 := k5.2.2.2
    rcases k7 with ⟨w0, w1⟩ | ⟨w0, w1⟩
    · omega
    · simp only [w1, not_false_eq_true, or_true, not_true_eq_false, false_and, or_false, true_and]; omega
  · exact h.elim
theorem ow_t2 : ∀ j : Nat, j < 4 → chZ 2 (j : Int) = chZ 7 (wst 2 + 1 + (j : Int)) := by decide +kernel
theorem ow_2 {B : Int → Int} {a b : Int} : WIs B a b 2 4 ↔ OW B a b 2 := by
  have hl : wln 2 = 4 := by decide
  unfold WIs OW
  rw [hl]
  refine and_congr_right (fun _ => forall_congr' (fun j => ?_))
  constructor
  · intro h h0 h1
    have q := ow_t2 j.toNat (by omega)
    rw [show ((j.toNat : Nat) : Int) = j by omega] at q
    rw [h h0 h1, q]
  · intro h h0 h1
    have q := ow_t2 j.toNat (by omega)
    rw [show ((j.toNat : Nat) : Int) = j by omega] at q
    rw [h h0 h1, q]
theorem c_ch1_3 {x2 : Int32} {o_r : Int32} (h : S_L_charAt_3 x2 o_r)  : o_r.toInt = chZ 3 x2.toInt := by
  rcases h with ⟨z2, z4, z7, p0, p1, p2, p3, e0⟩ | h
  · have b := chZ_b 3 x2.toInt
    rw [e0, zch (by omega) p1 p3, p0]
  · exact h.elim
theorem c_ch_3 {x1 : Int32} {o_r : Int32} (h : S_J_charAt_3 x1 o_r)  : o_r.toInt = chZ 3 x1.toInt := by
  rcases h with ⟨r4, p0, e0⟩ | h
  · have k0 := c_ch1_3 p0
    omega
  · exact h.elim
theorem j_wI2_3 {r210 : Int32} {r213 : Int32} {v217 : Int32} (h : J_R_wordIs_3_62_3 r210 r213 v217)  : ((v217.toInt = 1 ∧ r210.toInt = r213.toInt) ∨ (v217.toInt = 0 ∧ ¬ (r210.toInt = r213.toInt))) := by
  rcases h with ⟨p0, e0⟩ | ⟨p0, e0⟩ | h
  · omega
  · omega
  · exact h.elim
theorem j_wI1_3 {z1 : Int32} {v7 : Int32} (h : J_R_wordIs_3_21_1 z1 v7)  : ((v7.toInt = 1 ∧ z1.toInt = 5) ∨ (v7.toInt = 0 ∧ ¬ (z1.toInt = 5))) := by
  rcases h with ⟨p0, e0⟩ | ⟨p0, e0⟩ | h
  · omega
  · omega
  · exact h.elim
theorem i_wI_3 {f_h0_tape_bytes : (Nat → Int32)} {h0_tape_length : Int32} {h0_tokenStart : Int32} {v7 : Int32} {v172 : Int32} {v173 : Int32} (h : I_R_wordIs_3_24_2 f_h0_tape_bytes h0_tape_length h0_tokenStart v7 v172 v173) {B : Int → Int} (c : cTB f_h0_tape_bytes h0_tape_length B) (s0 : v7.toInt = 0 ∨ v7.toInt = 1) : ((v172.toInt = 1 ∧ 0 ≤ v173.toInt ∧ (∀ k : Int, 0 ≤ k → k < v173.toInt → B (h0_tokenStart.toInt + k) = chZ 3 k)) ∨ (v172.toInt = 0 ∧ 0 ≤ v173.toInt ∧ (v7.toInt = 0 ∨ ∃ k : Int, 0 ≤ k ∧ k < 5 ∧ ¬ B (h0_tokenStart.toInt + k) = chZ 3 k))) := by
  refine I_R_wordIs_3_24_2.ind (Q_ := fun v172 v173 => ((v172.toInt = 1 ∧ 0 ≤ v173.toInt ∧ (∀ k : Int, 0 ≤ k → k < v173.toInt → B (h0_tokenStart.toInt + k) = chZ 3 k)) ∨ (v172.toInt = 0 ∧ 0 ≤ v173.toInt ∧ (v7.toInt = 0 ∨ ∃ k : Int, 0 ≤ k ∧ k < 5 ∧ ¬ B (h0_tokenStart.toInt + k) = chZ 3 k)))) ?_ ?_ h
  · have e0_ : (0 : Int32).toInt = 0 := by decide
    rcases s0 with s0 | s0
    · exact .inr ⟨s0, by omega, .inl s0⟩
    · exact .inl ⟨s0, by omega, fun k h1 h2 => absurd h2 (by omega)⟩
  · intro v172 v173 z207 r210 r213 v217 z221 hp ih p0 p1 p2 p3 p4 p5 p6 p7 p8
    have k4 := c_at p4 c
    have k5 := c_ch_3 p5
    have k6 := j_wI2_3 p6
    rcases ih with ⟨i0, i1, i2⟩ | ⟨i0, i1, i2⟩
    · have e9 : B z207.toInt = B (h0_tokenStart.toInt + v173.toInt) := congrArg B (by omega)
      by_cases q : B z207.toInt = chZ 3 v173.toInt
      · refine .inl ⟨by omega, by omega, fun k q1 q2 => ?_⟩
        by_cases q3 : k = v173.toInt
        · subst q3; omega
        · exact i2 k q1 (by omega)
      · refine .inr ⟨by omega, by omega, ?_⟩
        exact .inr ⟨v173.toInt, by omega, by omega, by omega⟩
    · exact absurd i0 p0
theorem i_wJ_3 {f_h0_tape_bytes : (Nat → Int32)} {h0_tape_length : Int32} {h0_tokenStart : Int32} {v7 : Int32} {v172 : Int32} {v173 : Int32} (h : I_R_wordIs_3_24_2 f_h0_tape_bytes h0_tape_length h0_tokenStart v7 v172 v173) {B : Int → Int} (c : cTB f_h0_tape_bytes h0_tape_length B) (s0 : v7.toInt = 0) : v172.toInt = 0 := by
  refine I_R_wordIs_3_24_2.ind (Q_ := fun v172 v173 => v172.toInt = 0) ?_ ?_ h
  · exact s0
  · intro v172 v173 z207 r210 r213 v217 z221 hp ih p0 p1 p2 p3 p4 p5 p6 p7 p8
    have k4 := c_at p4 c
    have k5 := c_ch_3 p5
    have k6 := j_wI2_3 p6
    omega
theorem c_wI_3 {h0_at : Int32} {h0_tokenStart : Int32} {h0_tape_length : Int32} {f_h0_tape_bytes : (Nat → Int32)} {o_r : Int32} (h : S_R_wordIs_3 h0_at h0_tokenStart h0_tape_length f_h0_tape_bytes o_r) {B : Int → Int} (c : cTB f_h0_tape_bytes h0_tape_length B) : ((o_r.toInt = 1 ∧ WIs B h0_tokenStart.toInt h0_at.toInt 3 5) ∨ (o_r.toInt = 0 ∧ ¬ WIs B h0_tokenStart.toInt h0_at.toInt 3 5)) := by
  rcases h with ⟨z1, v7, v172, v173, p0, p1, p2, p3, p4, p5, p6, e0⟩ | ⟨z1, v7, v172, v173, p0, p1, p2, p3, p4, p5, p6, p7, e0⟩ | h
  · have k1 := j_wI1_3 p1
    have k3 := i_wI_3 p3 c (by omega)
    refine .inr ⟨by omega, fun w => ?_⟩
    rcases k3 with ⟨i0, i1, i2⟩ | ⟨i0, i1, i2⟩
    · omega
    · rcases i2 with i2 | ⟨k, q1, q2, q3⟩
      · have := w.1; omega
      · exact q3 (w.2 k q1 q2)
  · have k1 := j_wI1_3 p1
    have k3 := i_wI_3 p3 c (by omega)
    rcases k3 with ⟨i0, i1, i2⟩ | ⟨i0, i1, i2⟩
    · refine .inl ⟨by omega, ?_, fun k q1 q2 => i2 k q1 (by omega)⟩
      rcases k1 with q | q
      · omega
      · exact absurd i0 (by have := i_wJ_3 p3 c q.1; omega)
    · exact absurd i0 p6
  · exact h.elim
theorem c_kw_3 {h0_at : Int32} {h0_tokenEnd : Int32} {h0_fault : Int32} {h0_place : Int32} {h0_tape_length : Int32} {f_h0_tape_bytes : (Nat → Int32)} {o_u_h0_at : Int32} {o_u_h0_tokenStart : Int32} {o_u_h0_tokenEnd : Int32} {o_u_h0_fault : Int32} {o_u_h0_place : Int32} (h : S_R_keyword_3 h0_at h0_tokenEnd h0_fault h0_place h0_tape_length f_h0_tape_bytes o_u_h0_at o_u_h0_tokenStart o_u_h0_tokenEnd o_u_h0_fault o_u_h0_place) {B : Int → Int} (c : cTB f_h0_tape_bytes h0_tape_length B) : isSk B h0_at.toInt o_u_h0_tokenStart.toInt ∧ isWd B o_u_h0_tokenStart.toInt o_u_h0_at.toInt ∧ o_u_h0_tokenEnd.toInt = o_u_h0_at.toInt ∧ (((o_u_h0_at.toInt = o_u_h0_tokenStart.toInt ∨ o_u_h0_tokenStart.toInt = h0_tokenEnd.toInt ∨ ¬ WIs B o_u_h0_tokenStart.toInt o_u_h0_at.toInt 3 5) ∧ ((¬ h0_fault.toInt = 0 ∧ o_u_h0_fault.toInt = h0_fault.toInt ∧ o_u_h0_place.toInt = h0_place.toInt) ∨ (h0_fault.toInt = 0 ∧ o_u_h0_fault.toInt = 1 ∧ o_u_h0_place.toInt = o_u_h0_tokenStart.toInt))) ∨ (¬ (o_u_h0_at.toInt = o_u_h0_tokenStart.toInt ∨ o_u_h0_tokenStart.toInt = h0_tokenEnd.toInt ∨ ¬ WIs B o_u_h0_tokenStart.toInt o_u_h0_at.toInt 3 5) ∧ o_u_h0_fault.toInt = h0_fault.toInt ∧ o_u_h0_place.toInt = h0_place.toInt)) := by
  rcases h with ⟨v3, v4, v5, v6, v7, r14, p0, p1, p2, p3, p4, p5, p6, p7, p8, e0, e1, e2, e3, e4⟩ | ⟨v3, v4, v5, v6, v7, r14, v20, v21, p0, p1, p2, p3, p4, p5, p6, p7, p8, p9, p10, p11, e0, e1, e2, e3, e4⟩ | h
  · have k5 := c_word p5 c
    have k7 := c_wI_3 p7 c
    have e1_ : (1 : Int32).toInt = 1 := by decide
    have eA := xie e0
    have eB := xie e1
    have eC := xie e2
    subst eA eB eC
    refine ⟨k5.1, k5.2.1, k5.2.2.1, ?_⟩
    have w4 := k5.2.2.2
    rcases k7 with ⟨w0, w1⟩ | ⟨w0, w1⟩
    · simp only [w1, not_true_eq_false, or_false]; omega
    · omega
  · have k5 := c_word p5 c
    have k7 := c_wI_3 p7 c
    have i1_ : (1 : Int32).toInt = 1 := by decide
    have k11 := c_fail p11
    have e1_ : (1 : Int32).toInt = 1 := by decide
    have eA := xie e0
    have eB := xie e1
    have eC := xie e2
    subst eA eB eC
    refine ⟨k5.1, k5.2.1, k5.2.2.1, ?_⟩
    have w4 := k5.2.2.2
    rcases k7 with ⟨w0, w1⟩ | ⟨w0, w1⟩
    · omega
    · simp only [w1, not_false_eq_true, or_true, not_true_eq_false, false_and, or_false, true_and]; omega
  · exact h.elim
theorem ow_t3 : ∀ j : Nat, j < 5 → chZ 3 (j : Int) = chZ 7 (wst 3 + 1 + (j : Int)) := by decide +kernel
theorem ow_3 {B : Int → Int} {a b : Int} : WIs B a b 3 5 ↔ OW B a b 3 := by
  have hl : wln 3 = 5 := by decide
  unfold WIs OW
  rw [hl]
  refine and_congr_right (fun _ => forall_congr' (fun j => ?_))
  constructor
  · intro h h0 h1
    have q := ow_t3 j.toNat (by omega)
    rw [show ((j.toNat : Nat) : Int) = j by omega] at q
    rw [h h0 h1, q]
  · intro h h0 h1
    have q := ow_t3 j.toNat (by omega)
    rw [show ((j.toNat : Nat) : Int) = j by omega] at q
    rw [h h0 h1, q]
theorem c_ch1_4 {x2 : Int32} {o_r : Int32} (h : S_L_charAt_4 x2 o_r)  : o_r.toInt = chZ 4 x2.toInt := by
  rcases h with ⟨z2, z4, z7, p0, p1, p2, p3, e0⟩ | h
  · have b := chZ_b 4 x2.toInt
    rw [e0, zch (by omega) p1 p3, p0]
  · exact h.elim
theorem c_ch_4 {x1 : Int32} {o_r : Int32} (h : S_J_charAt_4 x1 o_r)  : o_r.toInt = chZ 4 x1.toInt := by
  rcases h with ⟨r4, p0, e0⟩ | h
  · have k0 := c_ch1_4 p0
    omega
  · exact h.elim
theorem j_wI2_4 {r162 : Int32} {r165 : Int32} {v169 : Int32} (h : J_R_wordIs_4_62_3 r162 r165 v169)  : ((v169.toInt = 1 ∧ r162.toInt = r165.toInt) ∨ (v169.toInt = 0 ∧ ¬ (r162.toInt = r165.toInt))) := by
  rcases h with ⟨p0, e0⟩ | ⟨p0, e0⟩ | h
  · omega
  · omega
  · exact h.elim
theorem j_wI1_4 {z1 : Int32} {v7 : Int32} (h : J_R_wordIs_4_21_1 z1 v7)  : ((v7.toInt = 1 ∧ z1.toInt = 4) ∨ (v7.toInt = 0 ∧ ¬ (z1.toInt = 4))) := by
  rcases h with ⟨p0, e0⟩ | ⟨p0, e0⟩ | h
  · omega
  · omega
  · exact h.elim
theorem i_wI_4 {f_h0_tape_bytes : (Nat → Int32)} {h0_tape_length : Int32} {h0_tokenStart : Int32} {v7 : Int32} {v124 : Int32} {v125 : Int32} (h : I_R_wordIs_4_24_2 f_h0_tape_bytes h0_tape_length h0_tokenStart v7 v124 v125) {B : Int → Int} (c : cTB f_h0_tape_bytes h0_tape_length B) (s0 : v7.toInt = 0 ∨ v7.toInt = 1) : ((v124.toInt = 1 ∧ 0 ≤ v125.toInt ∧ (∀ k : Int, 0 ≤ k → k < v125.toInt → B (h0_tokenStart.toInt + k) = chZ 4 k)) ∨ (v124.toInt = 0 ∧ 0 ≤ v125.toInt ∧ (v7.toInt = 0 ∨ ∃ k : Int, 0 ≤ k ∧ k < 4 ∧ ¬ B (h0_tokenStart.toInt + k) = chZ 4 k))) := by
  refine I_R_wordIs_4_24_2.ind (Q_ := fun v124 v125 => ((v124.toInt = 1 ∧ 0 ≤ v125.toInt ∧ (∀ k : Int, 0 ≤ k → k < v125.toInt → B (h0_tokenStart.toInt + k) = chZ 4 k)) ∨ (v124.toInt = 0 ∧ 0 ≤ v125.toInt ∧ (v7.toInt = 0 ∨ ∃ k : Int, 0 ≤ k ∧ k < 4 ∧ ¬ B (h0_tokenStart.toInt + k) = chZ 4 k)))) ?_ ?_ h
  · have e0_ : (0 : Int32).toInt = 0 := by decide
    rcases s0 with s0 | s0
    · exact .inr ⟨s0, by omega, .inl s0⟩
    · exact .inl ⟨s0, by omega, fun k h1 h2 => absurd h2 (by omega)⟩
  · intro v124 v125 z159 r162 r165 v169 z173 hp ih p0 p1 p2 p3 p4 p5 p6 p7 p8
    have k4 := c_at p4 c
    have k5 := c_ch_4 p5
    have k6 := j_wI2_4 p6
    rcases ih with ⟨i0, i1, i2⟩ | ⟨i0, i1, i2⟩
    · have e9 : B z159.toInt = B (h0_tokenStart.toInt + v125.toInt) := congrArg B (by omega)
      by_cases q : B z159.toInt = chZ 4 v125.toInt
      · refine .inl ⟨by omega, by omega, fun k q1 q2 => ?_⟩
        by_cases q3 : k = v125.toInt
        · subst q3; omega
        · exact i2 k q1 (by omega)
      · refine .inr ⟨by omega, by omega, ?_⟩
        exact .inr ⟨v125.toInt, by omega, by omega, by omega⟩
    · exact absurd i0 p0
theorem i_wJ_4 {f_h0_tape_bytes : (Nat → Int32)} {h0_tape_length : Int32} {h0_tokenStart : Int32} {v7 : Int32} {v124 : Int32} {v125 : Int32} (h : I_R_wordIs_4_24_2 f_h0_tape_bytes h0_tape_length h0_tokenStart v7 v124 v125) {B : Int → Int} (c : cTB f_h0_tape_bytes h0_tape_length B) (s0 : v7.toInt = 0) : v124.toInt = 0 := by
  refine I_R_wordIs_4_24_2.ind (Q_ := fun v124 v125 => v124.toInt = 0) ?_ ?_ h
  · exact s0
  · intro v124 v125 z159 r162 r165 v169 z173 hp ih p0 p1 p2 p3 p4 p5 p6 p7 p8
    have k4 := c_at p4 c
    have k5 := c_ch_4 p5
    have k6 := j_wI2_4 p6
    omega
theorem c_wI_4 {h0_at : Int32} {h0_tokenStart : Int32} {h0_tape_length : Int32} {f_h0_tape_bytes : (Nat → Int32)} {o_r : Int32} (h : S_R_wordIs_4 h0_at h0_tokenStart h0_tape_length f_h0_tape_bytes o_r) {B : Int → Int} (c : cTB f_h0_tape_bytes h0_tape_length B) : ((o_r.toInt = 1 ∧ WIs B h0_tokenStart.toInt h0_at.toInt 4 4) ∨ (o_r.toInt = 0 ∧ ¬ WIs B h0_tokenStart.toInt h0_at.toInt 4 4)) := by
  rcases h with ⟨z1, v7, v124, v125, p0, p1, p2, p3, p4, p5, p6, e0⟩ | ⟨z1, v7, v124, v125, p0, p1, p2, p3, p4, p5, p6, p7, e0⟩ | h
  · have k1 := j_wI1_4 p1
    have k3 := i_wI_4 p3 c (by omega)
    refine .inr ⟨by omega, fun w => ?_⟩
    rcases k3 with ⟨i0, i1, i2⟩ | ⟨i0, i1, i2⟩
    · omega
    · rcases i2 with i2 | ⟨k, q1, q2, q3⟩
      · have := w.1; omega
      · exact q3 (w.2 k q1 q2)
  · have k1 := j_wI1_4 p1
    have k3 := i_wI_4 p3 c (by omega)
    rcases k3 with ⟨i0, i1, i2⟩ | ⟨i0, i1, i2⟩
    · refine .inl ⟨by omega, ?_, fun k q1 q2 => i2 k q1 (by omega)⟩
      rcases k1 with q | q
      · omega
      · exact absurd i0 (by have := i_wJ_4 p3 c q.1; omega)
    · exact absurd i0 p6
  · exact h.elim
theorem c_kw_4 {h0_at : Int32} {h0_tokenEnd : Int32} {h0_fault : Int32} {h0_place : Int32} {h0_tape_length : Int32} {f_h0_tape_bytes : (Nat → Int32)} {o_u_h0_at : Int32} {o_u_h0_tokenStart : Int32} {o_u_h0_tokenEnd : Int32} {o_u_h0_fault : Int32} {o_u_h0_place : Int32} (h : S_R_keyword_4 h0_at h0_tokenEnd h0_fault h0_place h0_tape_length f_h0_tape_bytes o_u_h0_at o_u_h0_tokenStart o_u_h0_tokenEnd o_u_h0_fault o_u_h0_place) {B : Int → Int} (c : cTB f_h0_tape_bytes h0_tape_length B) : isSk B h0_at.toInt o_u_h0_tokenStart.toInt ∧ isWd B o_u_h0_tokenStart.toInt o_u_h0_at.toInt ∧ o_u_h0_tokenEnd.toInt = o_u_h0_at.toInt ∧ (((o_u_h0_at.toInt = o_u_h0_tokenStart.toInt ∨ o_u_h0_tokenStart.toInt = h0_tokenEnd.toInt ∨ ¬ WIs B o_u_h0_tokenStart.toInt o_u_h0_at.toInt 4 4) ∧ ((¬ h0_fault.toInt = 0 ∧ o_u_h0_fault.toInt = h0_fault.toInt ∧ o_u_h0_place.toInt = h0_place.toInt) ∨ (h0_fault.toInt = 0 ∧ o_u_h0_fault.toInt = 1 ∧ o_u_h0_place.toInt = o_u_h0_tokenStart.toInt))) ∨ (¬ (o_u_h0_at.toInt = o_u_h0_tokenStart.toInt ∨ o_u_h0_tokenStart.toInt = h0_tokenEnd.toInt ∨ ¬ WIs B o_u_h0_tokenStart.toInt o_u_h0_at.toInt 4 4) ∧ o_u_h0_fault.toInt = h0_fault.toInt ∧ o_u_h0_place.toInt = h0_place.toInt)) := by
  rcases h with ⟨v3, v4, v5, v6, v7, r14, p0, p1, p2, p3, p4, p5, p6, p7, p8, e0, e1, e2, e3, e4⟩ | ⟨v3, v4, v5, v6, v7, r14, v20, v21, p0, p1, p2, p3, p4, p5, p6, p7, p8, p9, p10, p11, e0, e1, e2, e3, e4⟩ | h
  · have k5 := c_word p5 c
    have k7 := c_wI_4 p7 c
    have e1_ : (1 : Int32).toInt = 1 := by decide
    have eA := xie e0
    have eB := xie e1
    have eC := xie e2
    subst eA eB eC
    refine ⟨k5.1, k5.2.1, k5.2.2.1, ?_⟩
    have w4 := k5.2.2.2
    rcases k7 with ⟨w0, w1⟩ | ⟨w0, w1⟩
    · simp only [w1, not_true_eq_false, or_false]; omega
    · omega
  · have k5 := c_word p5 c
    have k7 := c_wI_4 p7 c
    have i1_ : (1 : Int32).toInt = 1 := by decide
    have k11 := c_fail p11
    have e1_ : (1 : Int32).toInt = 1 := by decide
    have eA := xie e0
    have eB := xie e1
    have eC := xie e2
    subst eA eB eC
    refine ⟨k5.1, k5.2.1, k5.2.2.1, ?_⟩
    have w4 := k5.2.2.2
    rcases k7 with ⟨w0, w1⟩ | ⟨w0, w1⟩
    · omega
    · simp only [w1, not_false_eq_true, or_true, not_true_eq_false, false_and, or_false, true_and]; omega
  · exact h.elim
theorem ow_t4 : ∀ j : Nat, j < 4 → chZ 4 (j : Int) = chZ 7 (wst 4 + 1 + (j : Int)) := by decide +kernel
theorem ow_4 {B : Int → Int} {a b : Int} : WIs B a b 4 4 ↔ OW B a b 4 := by
  have hl : wln 4 = 4 := by decide
  unfold WIs OW
  rw [hl]
  refine and_congr_right (fun _ => forall_congr' (fun j => ?_))
  constructor
  · intro h h0 h1
    have q := ow_t4 j.toNat (by omega)
    rw [show ((j.toNat : Nat) : Int) = j by omega] at q
    rw [h h0 h1, q]
  · intro h h0 h1
    have q := ow_t4 j.toNat (by omega)
    rw [show ((j.toNat : Nat) : Int) = j by omega] at q
    rw [h h0 h1, q]
theorem c_ch1_5 {x2 : Int32} {o_r : Int32} (h : S_L_charAt_5 x2 o_r)  : o_r.toInt = chZ 5 x2.toInt := by
  rcases h with ⟨z2, z4, z7, p0, p1, p2, p3, e0⟩ | h
  · have b := chZ_b 5 x2.toInt
    rw [e0, zch (by omega) p1 p3, p0]
  · exact h.elim
theorem c_ch_5 {x1 : Int32} {o_r : Int32} (h : S_J_charAt_5 x1 o_r)  : o_r.toInt = chZ 5 x1.toInt := by
  rcases h with ⟨r4, p0, e0⟩ | h
  · have k0 := c_ch1_5 p0
    omega
  · exact h.elim
theorem j_wI2_5 {r210 : Int32} {r213 : Int32} {v217 : Int32} (h : J_R_wordIs_5_62_3 r210 r213 v217)  : ((v217.toInt = 1 ∧ r210.toInt = r213.toInt) ∨ (v217.toInt = 0 ∧ ¬ (r210.toInt = r213.toInt))) := by
  rcases h with ⟨p0, e0⟩ | ⟨p0, e0⟩ | h
  · omega
  · omega
  · exact h.elim
theorem j_wI1_5 {z1 : Int32} {v7 : Int32} (h : J_R_wordIs_5_21_1 z1 v7)  : ((v7.toInt = 1 ∧ z1.toInt = 5) ∨ (v7.toInt = 0 ∧ ¬ (z1.toInt = 5))) := by
  rcases h with ⟨p0, e0⟩ | ⟨p0, e0⟩ | h
  · omega
  · omega
  · exact h.elim
theorem i_wI_5 {f_h0_tape_bytes : (Nat → Int32)} {h0_tape_length : Int32} {h0_tokenStart : Int32} {v7 : Int32} {v172 : Int32} {v173 : Int32} (h : I_R_wordIs_5_24_2 f_h0_tape_bytes h0_tape_length h0_tokenStart v7 v172 v173) {B : Int → Int} (c : cTB f_h0_tape_bytes h0_tape_length B) (s0 : v7.toInt = 0 ∨ v7.toInt = 1) : ((v172.toInt = 1 ∧ 0 ≤ v173.toInt ∧ (∀ k : Int, 0 ≤ k → k < v173.toInt → B (h0_tokenStart.toInt + k) = chZ 5 k)) ∨ (v172.toInt = 0 ∧ 0 ≤ v173.toInt ∧ (v7.toInt = 0 ∨ ∃ k : Int, 0 ≤ k ∧ k < 5 ∧ ¬ B (h0_tokenStart.toInt + k) = chZ 5 k))) := by
  refine I_R_wordIs_5_24_2.ind (Q_ := fun v172 v173 => ((v172.toInt = 1 ∧ 0 ≤ v173.toInt ∧ (∀ k : Int, 0 ≤ k → k < v173.toInt → B (h0_tokenStart.toInt + k) = chZ 5 k)) ∨ (v172.toInt = 0 ∧ 0 ≤ v173.toInt ∧ (v7.toInt = 0 ∨ ∃ k : Int, 0 ≤ k ∧ k < 5 ∧ ¬ B (h0_tokenStart.toInt + k) = chZ 5 k)))) ?_ ?_ h
  · have e0_ : (0 : Int32).toInt = 0 := by decide
    rcases s0 with s0 | s0
    · exact .inr ⟨s0, by omega, .inl s0⟩
    · exact .inl ⟨s0, by omega, fun k h1 h2 => absurd h2 (by omega)⟩
  · intro v172 v173 z207 r210 r213 v217 z221 hp ih p0 p1 p2 p3 p4 p5 p6 p7 p8
    have k4 := c_at p4 c
    have k5 := c_ch_5 p5
    have k6 := j_wI2_5 p6
    rcases ih with ⟨i0, i1, i2⟩ | ⟨i0, i1, i2⟩
    · have e9 : B z207.toInt = B (h0_tokenStart.toInt + v173.toInt) := congrArg B (by omega)
      by_cases q : B z207.toInt = chZ 5 v173.toInt
      · refine .inl ⟨by omega, by omega, fun k q1 q2 => ?_⟩
        by_cases q3 : k = v173.toInt
        · subst q3; omega
        · exact i2 k q1 (by omega)
      · refine .inr ⟨by omega, by omega, ?_⟩
        exact .inr ⟨v173.toInt, by omega, by omega, by omega⟩
    · exact absurd i0 p0
theorem i_wJ_5 {f_h0_tape_bytes : (Nat → Int32)} {h0_tape_length : Int32} {h0_tokenStart : Int32} {v7 : Int32} {v172 : Int32} {v173 : Int32} (h : I_R_wordIs_5_24_2 f_h0_tape_bytes h0_tape_length h0_tokenStart v7 v172 v173) {B : Int → Int} (c : cTB f_h0_tape_bytes h0_tape_length B) (s0 : v7.toInt = 0) : v172.toInt = 0 := by
  refine I_R_wordIs_5_24_2.ind (Q_ := fun v172 v173 => v172.toInt = 0) ?_ ?_ h
  · exact s0
  · intro v172 v173 z207 r210 r213 v217 z221 hp ih p0 p1 p2 p3 p4 p5 p6 p7 p8
    have k4 := c_at p4 c
    have k5 := c_ch_5 p5
    have k6 := j_wI2_5 p6
    omega
theorem c_wI_5 {h0_at : Int32} {h0_tokenStart : Int32} {h0_tape_length : Int32} {f_h0_tape_bytes : (Nat → Int32)} {o_r : Int32} (h : S_R_wordIs_5 h0_at h0_tokenStart h0_tape_length f_h0_tape_bytes o_r) {B : Int → Int} (c : cTB f_h0_tape_bytes h0_tape_length B) : ((o_r.toInt = 1 ∧ WIs B h0_tokenStart.toInt h0_at.toInt 5 5) ∨ (o_r.toInt = 0 ∧ ¬ WIs B h0_tokenStart.toInt h0_at.toInt 5 5)) := by
  rcases h with ⟨z1, v7, v172, v173, p0, p1, p2, p3, p4, p5, p6, e0⟩ | ⟨z1, v7, v172, v173, p0, p1, p2, p3, p4, p5, p6, p7, e0⟩ | h
  · have k1 := j_wI1_5 p1
    have k3 := i_wI_5 p3 c (by omega)
    refine .inr ⟨by omega, fun w => ?_⟩
    rcases k3 with ⟨i0, i1, i2⟩ | ⟨i0, i1, i2⟩
    · omega
    · rcases i2 with i2 | ⟨k, q1, q2, q3⟩
      · have := w.1; omega
      · exact q3 (w.2 k q1 q2)
  · have k1 := j_wI1_5 p1
    have k3 := i_wI_5 p3 c (by omega)
    rcases k3 with ⟨i0, i1, i2⟩ | ⟨i0, i1, i2⟩
    · refine .inl ⟨by omega, ?_, fun k q1 q2 => i2 k q1 (by omega)⟩
      rcases k1 with q | q
      · omega
      · exact absurd i0 (by have := i_wJ_5 p3 c q.1; omega)
    · exact absurd i0 p6
  · exact h.elim
theorem c_kw_5 {h0_at : Int32} {h0_tokenEnd : Int32} {h0_fault : Int32} {h0_place : Int32} {h0_tape_length : Int32} {f_h0_tape_bytes : (Nat → Int32)} {o_u_h0_at : Int32} {o_u_h0_tokenStart : Int32} {o_u_h0_tokenEnd : Int32} {o_u_h0_fault : Int32} {o_u_h0_place : Int32} (h : S_R_keyword_5 h0_at h0_tokenEnd h0_fault h0_place h0_tape_length f_h0_tape_bytes o_u_h0_at o_u_h0_tokenStart o_u_h0_tokenEnd o_u_h0_fault o_u_h0_place) {B : Int → Int} (c : cTB f_h0_tape_bytes h0_tape_length B) : isSk B h0_at.toInt o_u_h0_tokenStart.toInt ∧ isWd B o_u_h0_tokenStart.toInt o_u_h0_at.toInt ∧ o_u_h0_tokenEnd.toInt = o_u_h0_at.toInt ∧ (((o_u_h0_at.toInt = o_u_h0_tokenStart.toInt ∨ o_u_h0_tokenStart.toInt = h0_tokenEnd.toInt ∨ ¬ WIs B o_u_h0_tokenStart.toInt o_u_h0_at.toInt 5 5) ∧ ((¬ h0_fault.toInt = 0 ∧ o_u_h0_fault.toInt = h0_fault.toInt ∧ o_u_h0_place.toInt = h0_place.toInt) ∨ (h0_fault.toInt = 0 ∧ o_u_h0_fault.toInt = 1 ∧ o_u_h0_place.toInt = o_u_h0_tokenStart.toInt))) ∨ (¬ (o_u_h0_at.toInt = o_u_h0_tokenStart.toInt ∨ o_u_h0_tokenStart.toInt = h0_tokenEnd.toInt ∨ ¬ WIs B o_u_h0_tokenStart.toInt o_u_h0_at.toInt 5 5) ∧ o_u_h0_fault.toInt = h0_fault.toInt ∧ o_u_h0_place.toInt = h0_place.toInt)) := by
  rcases h with ⟨v3, v4, v5, v6, v7, r14, p0, p1, p2, p3, p4, p5, p6, p7, p8, e0, e1, e2, e3, e4⟩ | ⟨v3, v4, v5, v6, v7, r14, v20, v21, p0, p1, p2, p3, p4, p5, p6, p7, p8, p9, p10, p11, e0, e1, e2, e3, e4⟩ | h
  · have k5 := c_word p5 c
    have k7 := c_wI_5 p7 c
    have e1_ : (1 : Int32).toInt = 1 := by decide
    have eA := xie e0
    have eB := xie e1
    have eC := xie e2
    subst eA eB eC
    refine ⟨k5.1, k5.2.1, k5.2.2.1, ?_⟩
    have w4 := k5.2.2.2
    rcases k7 with ⟨w0, w1⟩ | ⟨w0, w1⟩
    · simp only [w1, not_true_eq_false, or_false]; omega
    · omega
  · have k5 := c_word p5 c
    have k7 := c_wI_5 p7 c
    have i1_ : (1 : Int32).toInt = 1 := by decide
    have k11 := c_fail p11
    have e1_ : (1 : Int32).toInt = 1 := by decide
    have eA := xie e0
    have eB := xie e1
    have eC := xie e2
    subst eA eB eC
    refine ⟨k5.1, k5.2.1, k5.2.2.1, ?_⟩
    have w4 := k5.2.2.2
    rcases k7 with ⟨w0, w1⟩ | ⟨w0, w1⟩
    · omega
    · simp only [w1, not_false_eq_true, or_true, not_true_eq_false, false_and, or_false, true_and]; omega
  · exact h.elim
theorem ow_t5 : ∀ j : Nat, j < 5 → chZ 5 (j : Int) = chZ 7 (wst 5 + 1 + (j : Int)) := by decide +kernel
theorem ow_5 {B : Int → Int} {a b : Int} : WIs B a b 5 5 ↔ OW B a b 5 := by
  have hl : wln 5 = 5 := by decide
  unfold WIs OW
  rw [hl]
  refine and_congr_right (fun _ => forall_congr' (fun j => ?_))
  constructor
  · intro h h0 h1
    have q := ow_t5 j.toNat (by omega)
    rw [show ((j.toNat : Nat) : Int) = j by omega] at q
    rw [h h0 h1, q]
  · intro h h0 h1
    have q := ow_t5 j.toNat (by omega)
    rw [show ((j.toNat : Nat) : Int) = j by omega] at q
    rw [h h0 h1, q]
theorem c_ch1_6 {x2 : Int32} {o_r : Int32} (h : S_L_charAt_6 x2 o_r)  : o_r.toInt = chZ 6 x2.toInt := by
  rcases h with ⟨z2, z4, z7, p0, p1, p2, p3, e0⟩ | h
  · have b := chZ_b 6 x2.toInt
    rw [e0, zch (by omega) p1 p3, p0]
  · exact h.elim
theorem c_ch_6 {x1 : Int32} {o_r : Int32} (h : S_J_charAt_6 x1 o_r)  : o_r.toInt = chZ 6 x1.toInt := by
  rcases h with ⟨r4, p0, e0⟩ | h
  · have k0 := c_ch1_6 p0
    omega
  · exact h.elim
theorem j_wI2_6 {r210 : Int32} {r213 : Int32} {v217 : Int32} (h : J_R_wordIs_6_62_3 r210 r213 v217)  : ((v217.toInt = 1 ∧ r210.toInt = r213.toInt) ∨ (v217.toInt = 0 ∧ ¬ (r210.toInt = r213.toInt))) := by
  rcases h with ⟨p0, e0⟩ | ⟨p0, e0⟩ | h
  · omega
  · omega
  · exact h.elim
theorem j_wI1_6 {z1 : Int32} {v7 : Int32} (h : J_R_wordIs_6_21_1 z1 v7)  : ((v7.toInt = 1 ∧ z1.toInt = 6) ∨ (v7.toInt = 0 ∧ ¬ (z1.toInt = 6))) := by
  rcases h with ⟨p0, e0⟩ | ⟨p0, e0⟩ | h
  · omega
  · omega
  · exact h.elim
theorem i_wI_6 {f_h0_tape_bytes : (Nat → Int32)} {h0_tape_length : Int32} {h0_tokenStart : Int32} {v7 : Int32} {v172 : Int32} {v173 : Int32} (h : I_R_wordIs_6_24_2 f_h0_tape_bytes h0_tape_length h0_tokenStart v7 v172 v173) {B : Int → Int} (c : cTB f_h0_tape_bytes h0_tape_length B) (s0 : v7.toInt = 0 ∨ v7.toInt = 1) : ((v172.toInt = 1 ∧ 0 ≤ v173.toInt ∧ (∀ k : Int, 0 ≤ k → k < v173.toInt → B (h0_tokenStart.toInt + k) = chZ 6 k)) ∨ (v172.toInt = 0 ∧ 0 ≤ v173.toInt ∧ (v7.toInt = 0 ∨ ∃ k : Int, 0 ≤ k ∧ k < 6 ∧ ¬ B (h0_tokenStart.toInt + k) = chZ 6 k))) := by
  refine I_R_wordIs_6_24_2.ind (Q_ := fun v172 v173 => ((v172.toInt = 1 ∧ 0 ≤ v173.toInt ∧ (∀ k : Int, 0 ≤ k → k < v173.toInt → B (h0_tokenStart.toInt + k) = chZ 6 k)) ∨ (v172.toInt = 0 ∧ 0 ≤ v173.toInt ∧ (v7.toInt = 0 ∨ ∃ k : Int, 0 ≤ k ∧ k < 6 ∧ ¬ B (h0_tokenStart.toInt + k) = chZ 6 k)))) ?_ ?_ h
  · have e0_ : (0 : Int32).toInt = 0 := by decide
    rcases s0 with s0 | s0
    · exact .inr ⟨s0, by omega, .inl s0⟩
    · exact .inl ⟨s0, by omega, fun k h1 h2 => absurd h2 (by omega)⟩
  · intro v172 v173 z207 r210 r213 v217 z221 hp ih p0 p1 p2 p3 p4 p5 p6 p7 p8
    have k4 := c_at p4 c
    have k5 := c_ch_6 p5
    have k6 := j_wI2_6 p6
    rcases ih with ⟨i0, i1, i2⟩ | ⟨i0, i1, i2⟩
    · have e9 : B z207.toInt = B (h0_tokenStart.toInt + v173.toInt) := congrArg B (by omega)
      by_cases q : B z207.toInt = chZ 6 v173.toInt
      · refine .inl ⟨by omega, by omega, fun k q1 q2 => ?_⟩
        by_cases q3 : k = v173.toInt
        · subst q3; omega
        · exact i2 k q1 (by omega)
      · refine .inr ⟨by omega, by omega, ?_⟩
        exact .inr ⟨v173.toInt, by omega, by omega, by omega⟩
    · exact absurd i0 p0
theorem i_wJ_6 {f_h0_tape_bytes : (Nat → Int32)} {h0_tape_length : Int32} {h0_tokenStart : Int32} {v7 : Int32} {v172 : Int32} {v173 : Int32} (h : I_R_wordIs_6_24_2 f_h0_tape_bytes h0_tape_length h0_tokenStart v7 v172 v173) {B : Int → Int} (c : cTB f_h0_tape_bytes h0_tape_length B) (s0 : v7.toInt = 0) : v172.toInt = 0 := by
  refine I_R_wordIs_6_24_2.ind (Q_ := fun v172 v173 => v172.toInt = 0) ?_ ?_ h
  · exact s0
  · intro v172 v173 z207 r210 r213 v217 z221 hp ih p0 p1 p2 p3 p4 p5 p6 p7 p8
    have k4 := c_at p4 c
    have k5 := c_ch_6 p5
    have k6 := j_wI2_6 p6
    omega
theorem c_wI_6 {h0_at : Int32} {h0_tokenStart : Int32} {h0_tape_length : Int32} {f_h0_tape_bytes : (Nat → Int32)} {o_r : Int32} (h : S_R_wordIs_6 h0_at h0_tokenStart h0_tape_length f_h0_tape_bytes o_r) {B : Int → Int} (c : cTB f_h0_tape_bytes h0_tape_length B) : ((o_r.toInt = 1 ∧ WIs B h0_tokenStart.toInt h0_at.toInt 6 6) ∨ (o_r.toInt = 0 ∧ ¬ WIs B h0_tokenStart.toInt h0_at.toInt 6 6)) := by
  rcases h with ⟨z1, v7, v172, v173, p0, p1, p2, p3, p4, p5, p6, e0⟩ | ⟨z1, v7, v172, v173, p0, p1, p2, p3, p4, p5, p6, p7, e0⟩ | h
  · have k1 := j_wI1_6 p1
    have k3 := i_wI_6 p3 c (by omega)
    refine .inr ⟨by omega, fun w => ?_⟩
    rcases k3 with ⟨i0, i1, i2⟩ | ⟨i0, i1, i2⟩
    · omega
    · rcases i2 with i2 | ⟨k, q1, q2, q3⟩
      · have := w.1; omega
      · exact q3 (w.2 k q1 q2)
  · have k1 := j_wI1_6 p1
    have k3 := i_wI_6 p3 c (by omega)
    rcases k3 with ⟨i0, i1, i2⟩ | ⟨i0, i1, i2⟩
    · refine .inl ⟨by omega, ?_, fun k q1 q2 => i2 k q1 (by omega)⟩
      rcases k1 with q | q
      · omega
      · exact absurd i0 (by have := i_wJ_6 p3 c q.1; omega)
    · exact absurd i0 p6
  · exact h.elim
theorem c_kw_6 {h0_at : Int32} {h0_tokenEnd : Int32} {h0_fault : Int32} {h0_place : Int32} {h0_tape_length : Int32} {f_h0_tape_bytes : (Nat → Int32)} {o_u_h0_at : Int32} {o_u_h0_tokenStart : Int32} {o_u_h0_tokenEnd : Int32} {o_u_h0_fault : Int32} {o_u_h0_place : Int32} (h : S_R_keyword_6 h0_at h0_tokenEnd h0_fault h0_place h0_tape_length f_h0_tape_bytes o_u_h0_at o_u_h0_tokenStart o_u_h0_tokenEnd o_u_h0_fault o_u_h0_place) {B : Int → Int} (c : cTB f_h0_tape_bytes h0_tape_length B) : isSk B h0_at.toInt o_u_h0_tokenStart.toInt ∧ isWd B o_u_h0_tokenStart.toInt o_u_h0_at.toInt ∧ o_u_h0_tokenEnd.toInt = o_u_h0_at.toInt ∧ (((o_u_h0_at.toInt = o_u_h0_tokenStart.toInt ∨ o_u_h0_tokenStart.toInt = h0_tokenEnd.toInt ∨ ¬ WIs B o_u_h0_tokenStart.toInt o_u_h0_at.toInt 6 6) ∧ ((¬ h0_fault.toInt = 0 ∧ o_u_h0_fault.toInt = h0_fault.toInt ∧ o_u_h0_place.toInt = h0_place.toInt) ∨ (h0_fault.toInt = 0 ∧ o_u_h0_fault.toInt = 1 ∧ o_u_h0_place.toInt = o_u_h0_tokenStart.toInt))) ∨ (¬ (o_u_h0_at.toInt = o_u_h0_tokenStart.toInt ∨ o_u_h0_tokenStart.toInt = h0_tokenEnd.toInt ∨ ¬ WIs B o_u_h0_tokenStart.toInt o_u_h0_at.toInt 6 6) ∧ o_u_h0_fault.toInt = h0_fault.toInt ∧ o_u_h0_place.toInt = h0_place.toInt)) := by
  rcases h with ⟨v3, v4, v5, v6, v7, r14, p0, p1, p2, p3, p4, p5, p6, p7, p8, e0, e1, e2, e3, e4⟩ | ⟨v3, v4, v5, v6, v7, r14, v20, v21, p0, p1, p2, p3, p4, p5, p6, p7, p8, p9, p10, p11, e0, e1, e2, e3, e4⟩ | h
  · have k5 := c_word p5 c
    have k7 := c_wI_6 p7 c
    have e1_ : (1 : Int32).toInt = 1 := by decide
    have eA := xie e0
    have eB := xie e1
    have eC := xie e2
    subst eA eB eC
    refine ⟨k5.1, k5.2.1, k5.2.2.1, ?_⟩
    have w4 := k5.2.2.2
    rcases k7 with ⟨w0, w1⟩ | ⟨w0, w1⟩
    · simp only [w1, not_true_eq_false, or_false]; omega
    · omega
  · have k5 := c_word p5 c
    have k7 := c_wI_6 p7 c
    have i1_ : (1 : Int32).toInt = 1 := by decide
    have k11 := c_fail p11
    have e1_ : (1 : Int32).toInt = 1 := by decide
    have eA := xie e0
    have eB := xie e1
    have eC := xie e2
    subst eA eB eC
    refine ⟨k5.1, k5.2.1, k5.2.2.1, ?_⟩
    have w4 := k5.2.2.2
    rcases k7 with ⟨w0, w1⟩ | ⟨w0, w1⟩
    · omega
    · simp only [w1, not_false_eq_true, or_true, not_true_eq_false, false_and, or_false, true_and]; omega
  · exact h.elim
theorem ow_t6 : ∀ j : Nat, j < 6 → chZ 6 (j : Int) = chZ 7 (wst 6 + 1 + (j : Int)) := by decide +kernel
theorem ow_6 {B : Int → Int} {a b : Int} : WIs B a b 6 6 ↔ OW B a b 6 := by
  have hl : wln 6 = 6 := by decide
  unfold WIs OW
  rw [hl]
  refine and_congr_right (fun _ => forall_congr' (fun j => ?_))
  constructor
  · intro h h0 h1
    have q := ow_t6 j.toNat (by omega)
    rw [show ((j.toNat : Nat) : Int) = j by omega] at q
    rw [h h0 h1, q]
  · intro h h0 h1
    have q := ow_t6 j.toNat (by omega)
    rw [show ((j.toNat : Nat) : Int) = j by omega] at q
    rw [h h0 h1, q]
theorem c_ch1_7 {x2 : Int32} {o_r : Int32} (h : S_L_charAt_7 x2 o_r)  : o_r.toInt = chZ 7 x2.toInt := by
  rcases h with ⟨z2, z4, z7, p0, p1, p2, p3, e0⟩ | h
  · have b := chZ_b 7 x2.toInt
    rw [e0, zch (by omega) p1 p3, p0]
  · exact h.elim
theorem c_ch_7 {x1 : Int32} {o_r : Int32} (h : S_J_charAt_7 x1 o_r)  : o_r.toInt = chZ 7 x1.toInt := by
  rcases h with ⟨r4, p0, e0⟩ | h
  · have k0 := c_ch1_7 p0
    omega
  · exact h.elim
theorem c_ch1_8 {x2 : Int32} {o_r : Int32} (h : S_L_charAt_8 x2 o_r)  : o_r.toInt = chZ 8 x2.toInt := by
  rcases h with ⟨z2, z4, z7, p0, p1, p2, p3, e0⟩ | h
  · have b := chZ_b 8 x2.toInt
    rw [e0, zch (by omega) p1 p3, p0]
  · exact h.elim
theorem c_ch_8 {x1 : Int32} {o_r : Int32} (h : S_J_charAt_8 x1 o_r)  : o_r.toInt = chZ 8 x1.toInt := by
  rcases h with ⟨r4, p0, e0⟩ | h
  · have k0 := c_ch1_8 p0
    omega
  · exact h.elim
theorem j_wI2_8 {r114 : Int32} {r117 : Int32} {v121 : Int32} (h : J_R_wordIs_8_62_3 r114 r117 v121)  : ((v121.toInt = 1 ∧ r114.toInt = r117.toInt) ∨ (v121.toInt = 0 ∧ ¬ (r114.toInt = r117.toInt))) := by
  rcases h with ⟨p0, e0⟩ | ⟨p0, e0⟩ | h
  · omega
  · omega
  · exact h.elim
theorem j_wI1_8 {z1 : Int32} {v7 : Int32} (h : J_R_wordIs_8_21_1 z1 v7)  : ((v7.toInt = 1 ∧ z1.toInt = 2) ∨ (v7.toInt = 0 ∧ ¬ (z1.toInt = 2))) := by
  rcases h with ⟨p0, e0⟩ | ⟨p0, e0⟩ | h
  · omega
  · omega
  · exact h.elim
theorem i_wI_8 {f_h0_tape_bytes : (Nat → Int32)} {h0_tape_length : Int32} {h0_tokenStart : Int32} {v7 : Int32} {v76 : Int32} {v77 : Int32} (h : I_R_wordIs_8_24_2 f_h0_tape_bytes h0_tape_length h0_tokenStart v7 v76 v77) {B : Int → Int} (c : cTB f_h0_tape_bytes h0_tape_length B) (s0 : v7.toInt = 0 ∨ v7.toInt = 1) : ((v76.toInt = 1 ∧ 0 ≤ v77.toInt ∧ (∀ k : Int, 0 ≤ k → k < v77.toInt → B (h0_tokenStart.toInt + k) = chZ 8 k)) ∨ (v76.toInt = 0 ∧ 0 ≤ v77.toInt ∧ (v7.toInt = 0 ∨ ∃ k : Int, 0 ≤ k ∧ k < 2 ∧ ¬ B (h0_tokenStart.toInt + k) = chZ 8 k))) := by
  refine I_R_wordIs_8_24_2.ind (Q_ := fun v76 v77 => ((v76.toInt = 1 ∧ 0 ≤ v77.toInt ∧ (∀ k : Int, 0 ≤ k → k < v77.toInt → B (h0_tokenStart.toInt + k) = chZ 8 k)) ∨ (v76.toInt = 0 ∧ 0 ≤ v77.toInt ∧ (v7.toInt = 0 ∨ ∃ k : Int, 0 ≤ k ∧ k < 2 ∧ ¬ B (h0_tokenStart.toInt + k) = chZ 8 k)))) ?_ ?_ h
  · have e0_ : (0 : Int32).toInt = 0 := by decide
    rcases s0 with s0 | s0
    · exact .inr ⟨s0, by omega, .inl s0⟩
    · exact .inl ⟨s0, by omega, fun k h1 h2 => absurd h2 (by omega)⟩
  · intro v76 v77 z111 r114 r117 v121 z125 hp ih p0 p1 p2 p3 p4 p5 p6 p7 p8
    have k4 := c_at p4 c
    have k5 := c_ch_8 p5
    have k6 := j_wI2_8 p6
    rcases ih with ⟨i0, i1, i2⟩ | ⟨i0, i1, i2⟩
    · have e9 : B z111.toInt = B (h0_tokenStart.toInt + v77.toInt) := congrArg B (by omega)
      by_cases q : B z111.toInt = chZ 8 v77.toInt
      · refine .inl ⟨by omega, by omega, fun k q1 q2 => ?_⟩
        by_cases q3 : k = v77.toInt
        · subst q3; omega
        · exact i2 k q1 (by omega)
      · refine .inr ⟨by omega, by omega, ?_⟩
        exact .inr ⟨v77.toInt, by omega, by omega, by omega⟩
    · exact absurd i0 p0
theorem i_wJ_8 {f_h0_tape_bytes : (Nat → Int32)} {h0_tape_length : Int32} {h0_tokenStart : Int32} {v7 : Int32} {v76 : Int32} {v77 : Int32} (h : I_R_wordIs_8_24_2 f_h0_tape_bytes h0_tape_length h0_tokenStart v7 v76 v77) {B : Int → Int} (c : cTB f_h0_tape_bytes h0_tape_length B) (s0 : v7.toInt = 0) : v76.toInt = 0 := by
  refine I_R_wordIs_8_24_2.ind (Q_ := fun v76 v77 => v76.toInt = 0) ?_ ?_ h
  · exact s0
  · intro v76 v77 z111 r114 r117 v121 z125 hp ih p0 p1 p2 p3 p4 p5 p6 p7 p8
    have k4 := c_at p4 c
    have k5 := c_ch_8 p5
    have k6 := j_wI2_8 p6
    omega
theorem c_wI_8 {h0_at : Int32} {h0_tokenStart : Int32} {h0_tape_length : Int32} {f_h0_tape_bytes : (Nat → Int32)} {o_r : Int32} (h : S_R_wordIs_8 h0_at h0_tokenStart h0_tape_length f_h0_tape_bytes o_r) {B : Int → Int} (c : cTB f_h0_tape_bytes h0_tape_length B) : ((o_r.toInt = 1 ∧ WIs B h0_tokenStart.toInt h0_at.toInt 8 2) ∨ (o_r.toInt = 0 ∧ ¬ WIs B h0_tokenStart.toInt h0_at.toInt 8 2)) := by
  rcases h with ⟨z1, v7, v76, v77, p0, p1, p2, p3, p4, p5, p6, e0⟩ | ⟨z1, v7, v76, v77, p0, p1, p2, p3, p4, p5, p6, p7, e0⟩ | h
  · have k1 := j_wI1_8 p1
    have k3 := i_wI_8 p3 c (by omega)
    refine .inr ⟨by omega, fun w => ?_⟩
    rcases k3 with ⟨i0, i1, i2⟩ | ⟨i0, i1, i2⟩
    · omega
    · rcases i2 with i2 | ⟨k, q1, q2, q3⟩
      · have := w.1; omega
      · exact q3 (w.2 k q1 q2)
  · have k1 := j_wI1_8 p1
    have k3 := i_wI_8 p3 c (by omega)
    rcases k3 with ⟨i0, i1, i2⟩ | ⟨i0, i1, i2⟩
    · refine .inl ⟨by omega, ?_, fun k q1 q2 => i2 k q1 (by omega)⟩
      rcases k1 with q | q
      · omega
      · exact absurd i0 (by have := i_wJ_8 p3 c q.1; omega)
    · exact absurd i0 p6
  · exact h.elim
theorem c_kw_8 {h0_at : Int32} {h0_tokenEnd : Int32} {h0_fault : Int32} {h0_place : Int32} {h0_tape_length : Int32} {f_h0_tape_bytes : (Nat → Int32)} {o_u_h0_at : Int32} {o_u_h0_tokenStart : Int32} {o_u_h0_tokenEnd : Int32} {o_u_h0_fault : Int32} {o_u_h0_place : Int32} (h : S_R_keyword_8 h0_at h0_tokenEnd h0_fault h0_place h0_tape_length f_h0_tape_bytes o_u_h0_at o_u_h0_tokenStart o_u_h0_tokenEnd o_u_h0_fault o_u_h0_place) {B : Int → Int} (c : cTB f_h0_tape_bytes h0_tape_length B) : isSk B h0_at.toInt o_u_h0_tokenStart.toInt ∧ isWd B o_u_h0_tokenStart.toInt o_u_h0_at.toInt ∧ o_u_h0_tokenEnd.toInt = o_u_h0_at.toInt ∧ (((o_u_h0_at.toInt = o_u_h0_tokenStart.toInt ∨ o_u_h0_tokenStart.toInt = h0_tokenEnd.toInt ∨ ¬ WIs B o_u_h0_tokenStart.toInt o_u_h0_at.toInt 8 2) ∧ ((¬ h0_fault.toInt = 0 ∧ o_u_h0_fault.toInt = h0_fault.toInt ∧ o_u_h0_place.toInt = h0_place.toInt) ∨ (h0_fault.toInt = 0 ∧ o_u_h0_fault.toInt = 1 ∧ o_u_h0_place.toInt = o_u_h0_tokenStart.toInt))) ∨ (¬ (o_u_h0_at.toInt = o_u_h0_tokenStart.toInt ∨ o_u_h0_tokenStart.toInt = h0_tokenEnd.toInt ∨ ¬ WIs B o_u_h0_tokenStart.toInt o_u_h0_at.toInt 8 2) ∧ o_u_h0_fault.toInt = h0_fault.toInt ∧ o_u_h0_place.toInt = h0_place.toInt)) := by
  rcases h with ⟨v3, v4, v5, v6, v7, r14, p0, p1, p2, p3, p4, p5, p6, p7, p8, e0, e1, e2, e3, e4⟩ | ⟨v3, v4, v5, v6, v7, r14, v20, v21, p0, p1, p2, p3, p4, p5, p6, p7, p8, p9, p10, p11, e0, e1, e2, e3, e4⟩ | h
  · have k5 := c_word p5 c
    have k7 := c_wI_8 p7 c
    have e1_ : (1 : Int32).toInt = 1 := by decide
    have eA := xie e0
    have eB := xie e1
    have eC := xie e2
    subst eA eB eC
    refine ⟨k5.1, k5.2.1, k5.2.2.1, ?_⟩
    have w4 := k5.2.2.2
    rcases k7 with ⟨w0, w1⟩ | ⟨w0, w1⟩
    · simp only [w1, not_true_eq_false, or_false]; omega
    · omega
  · have k5 := c_word p5 c
    have k7 := c_wI_8 p7 c
    have i1_ : (1 : Int32).toInt = 1 := by decide
    have k11 := c_fail p11
    have e1_ : (1 : Int32).toInt = 1 := by decide
    have eA := xie e0
    have eB := xie e1
    have eC := xie e2
    subst eA eB eC
    refine ⟨k5.1, k5.2.1, k5.2.2.1, ?_⟩
    have w4 := k5.2.2.2
    rcases k7 with ⟨w0, w1⟩ | ⟨w0, w1⟩
    · omega
    · simp only [w1, not_false_eq_true, or_true, not_true_eq_false, false_and, or_false, true_and]; omega
  · exact h.elim
theorem ow_t8 : ∀ j : Nat, j < 2 → chZ 8 (j : Int) = chZ 7 (wst 7 + 1 + (j : Int)) := by decide +kernel
theorem ow_8 {B : Int → Int} {a b : Int} : WIs B a b 8 2 ↔ OW B a b 7 := by
  have hl : wln 7 = 2 := by decide
  unfold WIs OW
  rw [hl]
  refine and_congr_right (fun _ => forall_congr' (fun j => ?_))
  constructor
  · intro h h0 h1
    have q := ow_t8 j.toNat (by omega)
    rw [show ((j.toNat : Nat) : Int) = j by omega] at q
    rw [h h0 h1, q]
  · intro h h0 h1
    have q := ow_t8 j.toNat (by omega)
    rw [show ((j.toNat : Nat) : Int) = j by omega] at q
    rw [h h0 h1, q]
theorem c_ch1_9 {x2 : Int32} {o_r : Int32} (h : S_L_charAt_9 x2 o_r)  : o_r.toInt = chZ 9 x2.toInt := by
  rcases h with ⟨z2, z4, z7, p0, p1, p2, p3, e0⟩ | h
  · have b := chZ_b 9 x2.toInt
    rw [e0, zch (by omega) p1 p3, p0]
  · exact h.elim
theorem c_ch_9 {x1 : Int32} {o_r : Int32} (h : S_J_charAt_9 x1 o_r)  : o_r.toInt = chZ 9 x1.toInt := by
  rcases h with ⟨r4, p0, e0⟩ | h
  · have k0 := c_ch1_9 p0
    omega
  · exact h.elim
theorem j_wI2_9 {r162 : Int32} {r165 : Int32} {v169 : Int32} (h : J_R_wordIs_9_62_3 r162 r165 v169)  : ((v169.toInt = 1 ∧ r162.toInt = r165.toInt) ∨ (v169.toInt = 0 ∧ ¬ (r162.toInt = r165.toInt))) := by
  rcases h with ⟨p0, e0⟩ | ⟨p0, e0⟩ | h
  · omega
  · omega
  · exact h.elim
theorem j_wI1_9 {z1 : Int32} {v7 : Int32} (h : J_R_wordIs_9_21_1 z1 v7)  : ((v7.toInt = 1 ∧ z1.toInt = 4) ∨ (v7.toInt = 0 ∧ ¬ (z1.toInt = 4))) := by
  rcases h with ⟨p0, e0⟩ | ⟨p0, e0⟩ | h
  · omega
  · omega
  · exact h.elim
theorem i_wI_9 {f_h0_tape_bytes : (Nat → Int32)} {h0_tape_length : Int32} {h0_tokenStart : Int32} {v7 : Int32} {v124 : Int32} {v125 : Int32} (h : I_R_wordIs_9_24_2 f_h0_tape_bytes h0_tape_length h0_tokenStart v7 v124 v125) {B : Int → Int} (c : cTB f_h0_tape_bytes h0_tape_length B) (s0 : v7.toInt = 0 ∨ v7.toInt = 1) : ((v124.toInt = 1 ∧ 0 ≤ v125.toInt ∧ (∀ k : Int, 0 ≤ k → k < v125.toInt → B (h0_tokenStart.toInt + k) = chZ 9 k)) ∨ (v124.toInt = 0 ∧ 0 ≤ v125.toInt ∧ (v7.toInt = 0 ∨ ∃ k : Int, 0 ≤ k ∧ k < 4 ∧ ¬ B (h0_tokenStart.toInt + k) = chZ 9 k))) := by
  refine I_R_wordIs_9_24_2.ind (Q_ := fun v124 v125 => ((v124.toInt = 1 ∧ 0 ≤ v125.toInt ∧ (∀ k : Int, 0 ≤ k → k < v125.toInt → B (h0_tokenStart.toInt + k) = chZ 9 k)) ∨ (v124.toInt = 0 ∧ 0 ≤ v125.toInt ∧ (v7.toInt = 0 ∨ ∃ k : Int, 0 ≤ k ∧ k < 4 ∧ ¬ B (h0_tokenStart.toInt + k) = chZ 9 k)))) ?_ ?_ h
  · have e0_ : (0 : Int32).toInt = 0 := by decide
    rcases s0 with s0 | s0
    · exact .inr ⟨s0, by omega, .inl s0⟩
    · exact .inl ⟨s0, by omega, fun k h1 h2 => absurd h2 (by omega)⟩
  · intro v124 v125 z159 r162 r165 v169 z173 hp ih p0 p1 p2 p3 p4 p5 p6 p7 p8
    have k4 := c_at p4 c
    have k5 := c_ch_9 p5
    have k6 := j_wI2_9 p6
    rcases ih with ⟨i0, i1, i2⟩ | ⟨i0, i1, i2⟩
    · have e9 : B z159.toInt = B (h0_tokenStart.toInt + v125.toInt) := congrArg B (by omega)
      by_cases q : B z159.toInt = chZ 9 v125.toInt
      · refine .inl ⟨by omega, by omega, fun k q1 q2 => ?_⟩
        by_cases q3 : k = v125.toInt
        · subst q3; omega
        · exact i2 k q1 (by omega)
      · refine .inr ⟨by omega, by omega, ?_⟩
        exact .inr ⟨v125.toInt, by omega, by omega, by omega⟩
    · exact absurd i0 p0
theorem i_wJ_9 {f_h0_tape_bytes : (Nat → Int32)} {h0_tape_length : Int32} {h0_tokenStart : Int32} {v7 : Int32} {v124 : Int32} {v125 : Int32} (h : I_R_wordIs_9_24_2 f_h0_tape_bytes h0_tape_length h0_tokenStart v7 v124 v125) {B : Int → Int} (c : cTB f_h0_tape_bytes h0_tape_length B) (s0 : v7.toInt = 0) : v124.toInt = 0 := by
  refine I_R_wordIs_9_24_2.ind (Q_ := fun v124 v125 => v124.toInt = 0) ?_ ?_ h
  · exact s0
  · intro v124 v125 z159 r162 r165 v169 z173 hp ih p0 p1 p2 p3 p4 p5 p6 p7 p8
    have k4 := c_at p4 c
    have k5 := c_ch_9 p5
    have k6 := j_wI2_9 p6
    omega
theorem c_wI_9 {h0_at : Int32} {h0_tokenStart : Int32} {h0_tape_length : Int32} {f_h0_tape_bytes : (Nat → Int32)} {o_r : Int32} (h : S_R_wordIs_9 h0_at h0_tokenStart h0_tape_length f_h0_tape_bytes o_r) {B : Int → Int} (c : cTB f_h0_tape_bytes h0_tape_length B) : ((o_r.toInt = 1 ∧ WIs B h0_tokenStart.toInt h0_at.toInt 9 4) ∨ (o_r.toInt = 0 ∧ ¬ WIs B h0_tokenStart.toInt h0_at.toInt 9 4)) := by
  rcases h with ⟨z1, v7, v124, v125, p0, p1, p2, p3, p4, p5, p6, e0⟩ | ⟨z1, v7, v124, v125, p0, p1, p2, p3, p4, p5, p6, p7, e0⟩ | h
  · have k1 := j_wI1_9 p1
    have k3 := i_wI_9 p3 c (by omega)
    refine .inr ⟨by omega, fun w => ?_⟩
    rcases k3 with ⟨i0, i1, i2⟩ | ⟨i0, i1, i2⟩
    · omega
    · rcases i2 with i2 | ⟨k, q1, q2, q3⟩
      · have := w.1; omega
      · exact q3 (w.2 k q1 q2)
  · have k1 := j_wI1_9 p1
    have k3 := i_wI_9 p3 c (by omega)
    rcases k3 with ⟨i0, i1, i2⟩ | ⟨i0, i1, i2⟩
    · refine .inl ⟨by omega, ?_, fun k q1 q2 => i2 k q1 (by omega)⟩
      rcases k1 with q | q
      · omega
      · exact absurd i0 (by have := i_wJ_9 p3 c q.1; omega)
    · exact absurd i0 p6
  · exact h.elim
theorem c_kw_9 {h0_at : Int32} {h0_tokenEnd : Int32} {h0_fault : Int32} {h0_place : Int32} {h0_tape_length : Int32} {f_h0_tape_bytes : (Nat → Int32)} {o_u_h0_at : Int32} {o_u_h0_tokenStart : Int32} {o_u_h0_tokenEnd : Int32} {o_u_h0_fault : Int32} {o_u_h0_place : Int32} (h : S_R_keyword_9 h0_at h0_tokenEnd h0_fault h0_place h0_tape_length f_h0_tape_bytes o_u_h0_at o_u_h0_tokenStart o_u_h0_tokenEnd o_u_h0_fault o_u_h0_place) {B : Int → Int} (c : cTB f_h0_tape_bytes h0_tape_length B) : isSk B h0_at.toInt o_u_h0_tokenStart.toInt ∧ isWd B o_u_h0_tokenStart.toInt o_u_h0_at.toInt ∧ o_u_h0_tokenEnd.toInt = o_u_h0_at.toInt ∧ (((o_u_h0_at.toInt = o_u_h0_tokenStart.toInt ∨ o_u_h0_tokenStart.toInt = h0_tokenEnd.toInt ∨ ¬ WIs B o_u_h0_tokenStart.toInt o_u_h0_at.toInt 9 4) ∧ ((¬ h0_fault.toInt = 0 ∧ o_u_h0_fault.toInt = h0_fault.toInt ∧ o_u_h0_place.toInt = h0_place.toInt) ∨ (h0_fault.toInt = 0 ∧ o_u_h0_fault.toInt = 1 ∧ o_u_h0_place.toInt = o_u_h0_tokenStart.toInt))) ∨ (¬ (o_u_h0_at.toInt = o_u_h0_tokenStart.toInt ∨ o_u_h0_tokenStart.toInt = h0_tokenEnd.toInt ∨ ¬ WIs B o_u_h0_tokenStart.toInt o_u_h0_at.toInt 9 4) ∧ o_u_h0_fault.toInt = h0_fault.toInt ∧ o_u_h0_place.toInt = h0_place.toInt)) := by
  rcases h with ⟨v3, v4, v5, v6, v7, r14, p0, p1, p2, p3, p4, p5, p6, p7, p8, e0, e1, e2, e3, e4⟩ | ⟨v3, v4, v5, v6, v7, r14, v20, v21, p0, p1, p2, p3, p4, p5, p6, p7, p8, p9, p10, p11, e0, e1, e2, e3, e4⟩ | h
  · have k5 := c_word p5 c
    have k7 := c_wI_9 p7 c
    have e1_ : (1 : Int32).toInt = 1 := by decide
    have eA := xie e0
    have eB := xie e1
    have eC := xie e2
    subst eA eB eC
    refine ⟨k5.1, k5.2.1, k5.2.2.1, ?_⟩
    have w4 := k5.2.2.2
    rcases k7 with ⟨w0, w1⟩ | ⟨w0, w1⟩
    · simp only [w1, not_true_eq_false, or_false]; omega
    · omega
  · have k5 := c_word p5 c
    have k7 := c_wI_9 p7 c
    have i1_ : (1 : Int32).toInt = 1 := by decide
    have k11 := c_fail p11
    have e1_ : (1 : Int32).toInt = 1 := by decide
    have eA := xie e0
    have eB := xie e1
    have eC := xie e2
    subst eA eB eC
    refine ⟨k5.1, k5.2.1, k5.2.2.1, ?_⟩
    have w4 := k5.2.2.2
    rcases k7 with ⟨w0, w1⟩ | ⟨w0, w1⟩
    · omega
    · simp only [w1, not_false_eq_true, or_true, not_true_eq_false, false_and, or_false, true_and]; omega
  · exact h.elim
theorem ow_t9 : ∀ j : Nat, j < 4 → chZ 9 (j : Int) = chZ 7 (wst 9 + 1 + (j : Int)) := by decide +kernel
theorem ow_9 {B : Int → Int} {a b : Int} : WIs B a b 9 4 ↔ OW B a b 9 := by
  have hl : wln 9 = 4 := by decide
  unfold WIs OW
  rw [hl]
  refine and_congr_right (fun _ => forall_congr' (fun j => ?_))
  constructor
  · intro h h0 h1
    have q := ow_t9 j.toNat (by omega)
    rw [show ((j.toNat : Nat) : Int) = j by omega] at q
    rw [h h0 h1, q]
  · intro h h0 h1
    have q := ow_t9 j.toNat (by omega)
    rw [show ((j.toNat : Nat) : Int) = j by omega] at q
    rw [h h0 h1, q]
theorem c_ch1_10 {x2 : Int32} {o_r : Int32} (h : S_L_charAt_10 x2 o_r)  : o_r.toInt = chZ 10 x2.toInt := by
  rcases h with ⟨z2, z4, z7, p0, p1, p2, p3, e0⟩ | h
  · have b := chZ_b 10 x2.toInt
    rw [e0, zch (by omega) p1 p3, p0]
  · exact h.elim
theorem c_ch_10 {x1 : Int32} {o_r : Int32} (h : S_J_charAt_10 x1 o_r)  : o_r.toInt = chZ 10 x1.toInt := by
  rcases h with ⟨r4, p0, e0⟩ | h
  · have k0 := c_ch1_10 p0
    omega
  · exact h.elim
theorem j_wI2_10 {r210 : Int32} {r213 : Int32} {v217 : Int32} (h : J_R_wordIs_10_62_3 r210 r213 v217)  : ((v217.toInt = 1 ∧ r210.toInt = r213.toInt) ∨ (v217.toInt = 0 ∧ ¬ (r210.toInt = r213.toInt))) := by
  rcases h with ⟨p0, e0⟩ | ⟨p0, e0⟩ | h
  · omega
  · omega
  · exact h.elim
theorem j_wI1_10 {z1 : Int32} {v7 : Int32} (h : J_R_wordIs_10_21_1 z1 v7)  : ((v7.toInt = 1 ∧ z1.toInt = 5) ∨ (v7.toInt = 0 ∧ ¬ (z1.toInt = 5))) := by
  rcases h with ⟨p0, e0⟩ | ⟨p0, e0⟩ | h
  · omega
  · omega
  · exact h.elim
theorem i_wI_10 {f_h0_tape_bytes : (Nat → Int32)} {h0_tape_length : Int32} {h0_tokenStart : Int32} {v7 : Int32} {v172 : Int32} {v173 : Int32} (h : I_R_wordIs_10_24_2 f_h0_tape_bytes h0_tape_length h0_tokenStart v7 v172 v173) {B : Int → Int} (c : cTB f_h0_tape_bytes h0_tape_length B) (s0 : v7.toInt = 0 ∨ v7.toInt = 1) : ((v172.toInt = 1 ∧ 0 ≤ v173.toInt ∧ (∀ k : Int, 0 ≤ k → k < v173.toInt → B (h0_tokenStart.toInt + k) = chZ 10 k)) ∨ (v172.toInt = 0 ∧ 0 ≤ v173.toInt ∧ (v7.toInt = 0 ∨ ∃ k : Int, 0 ≤ k ∧ k < 5 ∧ ¬ B (h0_tokenStart.toInt + k) = chZ 10 k))) := by
  refine I_R_wordIs_10_24_2.ind (Q_ := fun v172 v173 => ((v172.toInt = 1 ∧ 0 ≤ v173.toInt ∧ (∀ k : Int, 0 ≤ k → k < v173.toInt → B (h0_tokenStart.toInt + k) = chZ 10 k)) ∨ (v172.toInt = 0 ∧ 0 ≤ v173.toInt ∧ (v7.toInt = 0 ∨ ∃ k : Int, 0 ≤ k ∧ k < 5 ∧ ¬ B (h0_tokenStart.toInt + k) = chZ 10 k)))) ?_ ?_ h
  · have e0_ : (0 : Int32).toInt = 0 := by decide
    rcases s0 with s0 | s0
    · exact .inr ⟨s0, by omega, .inl s0⟩
    · exact .inl ⟨s0, by omega, fun k h1 h2 => absurd h2 (by omega)⟩
  · intro v172 v173 z207 r210 r213 v217 z221 hp ih p0 p1 p2 p3 p4 p5 p6 p7 p8
    have k4 := c_at p4 c
    have k5 := c_ch_10 p5
    have k6 := j_wI2_10 p6
    rcases ih with ⟨i0, i1, i2⟩ | ⟨i0, i1, i2⟩
    · have e9 : B z207.toInt = B (h0_tokenStart.toInt + v173.toInt) := congrArg B (by omega)
      by_cases q : B z207.toInt = chZ 10 v173.toInt
      · refine .inl ⟨by omega, by omega, fun k q1 q2 => ?_⟩
        by_cases q3 : k = v173.toInt
        · subst q3; omega
        · exact i2 k q1 (by omega)
      · refine .inr ⟨by omega, by omega, ?_⟩
        exact .inr ⟨v173.toInt, by omega, by omega, by omega⟩
    · exact absurd i0 p0
theorem i_wJ_10 {f_h0_tape_bytes : (Nat → Int32)} {h0_tape_length : Int32} {h0_tokenStart : Int32} {v7 : Int32} {v172 : Int32} {v173 : Int32} (h : I_R_wordIs_10_24_2 f_h0_tape_bytes h0_tape_length h0_tokenStart v7 v172 v173) {B : Int → Int} (c : cTB f_h0_tape_bytes h0_tape_length B) (s0 : v7.toInt = 0) : v172.toInt = 0 := by
  refine I_R_wordIs_10_24_2.ind (Q_ := fun v172 v173 => v172.toInt = 0) ?_ ?_ h
  · exact s0
  · intro v172 v173 z207 r210 r213 v217 z221 hp ih p0 p1 p2 p3 p4 p5 p6 p7 p8
    have k4 := c_at p4 c
    have k5 := c_ch_10 p5
    have k6 := j_wI2_10 p6
    omega
theorem c_wI_10 {h0_at : Int32} {h0_tokenStart : Int32} {h0_tape_length : Int32} {f_h0_tape_bytes : (Nat → Int32)} {o_r : Int32} (h : S_R_wordIs_10 h0_at h0_tokenStart h0_tape_length f_h0_tape_bytes o_r) {B : Int → Int} (c : cTB f_h0_tape_bytes h0_tape_length B) : ((o_r.toInt = 1 ∧ WIs B h0_tokenStart.toInt h0_at.toInt 10 5) ∨ (o_r.toInt = 0 ∧ ¬ WIs B h0_tokenStart.toInt h0_at.toInt 10 5)) := by
  rcases h with ⟨z1, v7, v172, v173, p0, p1, p2, p3, p4, p5, p6, e0⟩ | ⟨z1, v7, v172, v173, p0, p1, p2, p3, p4, p5, p6, p7, e0⟩ | h
  · have k1 := j_wI1_10 p1
    have k3 := i_wI_10 p3 c (by omega)
    refine .inr ⟨by omega, fun w => ?_⟩
    rcases k3 with ⟨i0, i1, i2⟩ | ⟨i0, i1, i2⟩
    · omega
    · rcases i2 with i2 | ⟨k, q1, q2, q3⟩
      · have := w.1; omega
      · exact q3 (w.2 k q1 q2)
  · have k1 := j_wI1_10 p1
    have k3 := i_wI_10 p3 c (by omega)
    rcases k3 with ⟨i0, i1, i2⟩ | ⟨i0, i1, i2⟩
    · refine .inl ⟨by omega, ?_, fun k q1 q2 => i2 k q1 (by omega)⟩
      rcases k1 with q | q
      · omega
      · exact absurd i0 (by have := i_wJ_10 p3 c q.1; omega)
    · exact absurd i0 p6
  · exact h.elim
theorem c_kw_10 {h0_at : Int32} {h0_tokenEnd : Int32} {h0_fault : Int32} {h0_place : Int32} {h0_tape_length : Int32} {f_h0_tape_bytes : (Nat → Int32)} {o_u_h0_at : Int32} {o_u_h0_tokenStart : Int32} {o_u_h0_tokenEnd : Int32} {o_u_h0_fault : Int32} {o_u_h0_place : Int32} (h : S_R_keyword_10 h0_at h0_tokenEnd h0_fault h0_place h0_tape_length f_h0_tape_bytes o_u_h0_at o_u_h0_tokenStart o_u_h0_tokenEnd o_u_h0_fault o_u_h0_place) {B : Int → Int} (c : cTB f_h0_tape_bytes h0_tape_length B) : isSk B h0_at.toInt o_u_h0_tokenStart.toInt ∧ isWd B o_u_h0_tokenStart.toInt o_u_h0_at.toInt ∧ o_u_h0_tokenEnd.toInt = o_u_h0_at.toInt ∧ (((o_u_h0_at.toInt = o_u_h0_tokenStart.toInt ∨ o_u_h0_tokenStart.toInt = h0_tokenEnd.toInt ∨ ¬ WIs B o_u_h0_tokenStart.toInt o_u_h0_at.toInt 10 5) ∧ ((¬ h0_fault.toInt = 0 ∧ o_u_h0_fault.toInt = h0_fault.toInt ∧ o_u_h0_place.toInt = h0_place.toInt) ∨ (h0_fault.toInt = 0 ∧ o_u_h0_fault.toInt = 1 ∧ o_u_h0_place.toInt = o_u_h0_tokenStart.toInt))) ∨ (¬ (o_u_h0_at.toInt = o_u_h0_tokenStart.toInt ∨ o_u_h0_tokenStart.toInt = h0_tokenEnd.toInt ∨ ¬ WIs B o_u_h0_tokenStart.toInt o_u_h0_at.toInt 10 5) ∧ o_u_h0_fault.toInt = h0_fault.toInt ∧ o_u_h0_place.toInt = h0_place.toInt)) := by
  rcases h with ⟨v3, v4, v5, v6, v7, r14, p0, p1, p2, p3, p4, p5, p6, p7, p8, e0, e1, e2, e3, e4⟩ | ⟨v3, v4, v5, v6, v7, r14, v20, v21, p0, p1, p2, p3, p4, p5, p6, p7, p8, p9, p10, p11, e0, e1, e2, e3, e4⟩ | h
  · have k5 := c_word p5 c
    have k7 := c_wI_10 p7 c
    have e1_ : (1 : Int32).toInt = 1 := by decide
    have eA := xie e0
    have eB := xie e1
    have eC := xie e2
    subst eA eB eC
    refine ⟨k5.1, k5.2.1, k5.2.2.1, ?_⟩
    have w4 := k5.2.2.2
    rcases k7 with ⟨w0, w1⟩ | ⟨w0, w1⟩
    · simp only [w1, not_true_eq_false, or_false]; omega
    · omega
  · have k5 := c_word p5 c
    have k7 := c_wI_10 p7 c
    have i1_ : (1 : Int32).toInt = 1 := by decide
    have k11 := c_fail p11
    have e1_ : (1 : Int32).toInt = 1 := by decide
    have eA := xie e0
    have eB := xie e1
    have eC := xie e2
    subst eA eB eC
    refine ⟨k5.1, k5.2.1, k5.2.2.1, ?_⟩
    have w4 := k5.2.2.2
    rcases k7 with ⟨w0, w1⟩ | ⟨w0, w1⟩
    · omega
    · simp only [w1, not_false_eq_true, or_true, not_true_eq_false, false_and, or_false, true_and]; omega
  · exact h.elim
theorem ow_t10 : ∀ j : Nat, j < 5 → chZ 10 (j : Int) = chZ 7 (wst 10 + 1 + (j : Int)) := by decide +kernel
theorem ow_10 {B : Int → Int} {a b : Int} : WIs B a b 10 5 ↔ OW B a b 10 := by
  have hl : wln 10 = 5 := by decide
  unfold WIs OW
  rw [hl]
  refine and_congr_right (fun _ => forall_congr' (fun j => ?_))
  constructor
  · intro h h0 h1
    have q := ow_t10 j.toNat (by omega)
    rw [show ((j.toNat : Nat) : Int) = j by omega] at q
    rw [h h0 h1, q]
  · intro h h0 h1
    have q := ow_t10 j.toNat (by omega)
    rw [show ((j.toNat : Nat) : Int) = j by omega] at q
    rw [h h0 h1, q]
theorem c_ch1_11 {x2 : Int32} {o_r : Int32} (h : S_L_charAt_11 x2 o_r)  : o_r.toInt = chZ 11 x2.toInt := by
  rcases h with ⟨z2, z4, z7, p0, p1, p2, p3, e0⟩ | h
  · have b := chZ_b 11 x2.toInt
    rw [e0, zch (by omega) p1 p3, p0]
  · exact h.elim
theorem c_ch_11 {x1 : Int32} {o_r : Int32} (h : S_J_charAt_11 x1 o_r)  : o_r.toInt = chZ 11 x1.toInt := by
  rcases h with ⟨r4, p0, e0⟩ | h
  · have k0 := c_ch1_11 p0
    omega
  · exact h.elim
theorem j_wI2_11 {r162 : Int32} {r165 : Int32} {v169 : Int32} (h : J_R_wordIs_11_62_3 r162 r165 v169)  : ((v169.toInt = 1 ∧ r162.toInt = r165.toInt) ∨ (v169.toInt = 0 ∧ ¬ (r162.toInt = r165.toInt))) := by
  rcases h with ⟨p0, e0⟩ | ⟨p0, e0⟩ | h
  · omega
  · omega
  · exact h.elim
theorem j_wI1_11 {z1 : Int32} {v7 : Int32} (h : J_R_wordIs_11_21_1 z1 v7)  : ((v7.toInt = 1 ∧ z1.toInt = 4) ∨ (v7.toInt = 0 ∧ ¬ (z1.toInt = 4))) := by
  rcases h with ⟨p0, e0⟩ | ⟨p0, e0⟩ | h
  · omega
  · omega
  · exact h.elim
theorem i_wI_11 {f_h0_tape_bytes : (Nat → Int32)} {h0_tape_length : Int32} {h0_tokenStart : Int32} {v7 : Int32} {v124 : Int32} {v125 : Int32} (h : I_R_wordIs_11_24_2 f_h0_tape_bytes h0_tape_length h0_tokenStart v7 v124 v125) {B : Int → Int} (c : cTB f_h0_tape_bytes h0_tape_length B) (s0 : v7.toInt = 0 ∨ v7.toInt = 1) : ((v124.toInt = 1 ∧ 0 ≤ v125.toInt ∧ (∀ k : Int, 0 ≤ k → k < v125.toInt → B (h0_tokenStart.toInt + k) = chZ 11 k)) ∨ (v124.toInt = 0 ∧ 0 ≤ v125.toInt ∧ (v7.toInt = 0 ∨ ∃ k : Int, 0 ≤ k ∧ k < 4 ∧ ¬ B (h0_tokenStart.toInt + k) = chZ 11 k))) := by
  refine I_R_wordIs_11_24_2.ind (Q_ := fun v124 v125 => ((v124.toInt = 1 ∧ 0 ≤ v125.toInt ∧ (∀ k : Int, 0 ≤ k → k < v125.toInt → B (h0_tokenStart.toInt + k) = chZ 11 k)) ∨ (v124.toInt = 0 ∧ 0 ≤ v125.toInt ∧ (v7.toInt = 0 ∨ ∃ k : Int, 0 ≤ k ∧ k < 4 ∧ ¬ B (h0_tokenStart.toInt + k) = chZ 11 k)))) ?_ ?_ h
  · have e0_ : (0 : Int32).toInt = 0 := by decide
    rcases s0 with s0 | s0
    · exact .inr ⟨s0, by omega, .inl s0⟩
    · exact .inl ⟨s0, by omega, fun k h1 h2 => absurd h2 (by omega)⟩
  · intro v124 v125 z159 r162 r165 v169 z173 hp ih p0 p1 p2 p3 p4 p5 p6 p7 p8
    have k4 := c_at p4 c
    have k5 := c_ch_11 p5
    have k6 := j_wI2_11 p6
    rcases ih with ⟨i0, i1, i2⟩ | ⟨i0, i1, i2⟩
    · have e9 : B z159.toInt = B (h0_tokenStart.toInt + v125.toInt) := congrArg B (by omega)
      by_cases q : B z159.toInt = chZ 11 v125.toInt
      · refine .inl ⟨by omega, by omega, fun k q1 q2 => ?_⟩
        by_cases q3 : k = v125.toInt
        · subst q3; omega
        · exact i2 k q1 (by omega)
      · refine .inr ⟨by omega, by omega, ?_⟩
        exact .inr ⟨v125.toInt, by omega, by omega, by omega⟩
    · exact absurd i0 p0
theorem i_wJ_11 {f_h0_tape_bytes : (Nat → Int32)} {h0_tape_length : Int32} {h0_tokenStart : Int32} {v7 : Int32} {v124 : Int32} {v125 : Int32} (h : I_R_wordIs_11_24_2 f_h0_tape_bytes h0_tape_length h0_tokenStart v7 v124 v125) {B : Int → Int} (c : cTB f_h0_tape_bytes h0_tape_length B) (s0 : v7.toInt = 0) : v124.toInt = 0 := by
  refine I_R_wordIs_11_24_2.ind (Q_ := fun v124 v125 => v124.toInt = 0) ?_ ?_ h
  · exact s0
  · intro v124 v125 z159 r162 r165 v169 z173 hp ih p0 p1 p2 p3 p4 p5 p6 p7 p8
    have k4 := c_at p4 c
    have k5 := c_ch_11 p5
    have k6 := j_wI2_11 p6
    omega
theorem c_wI_11 {h0_at : Int32} {h0_tokenStart : Int32} {h0_tape_length : Int32} {f_h0_tape_bytes : (Nat → Int32)} {o_r : Int32} (h : S_R_wordIs_11 h0_at h0_tokenStart h0_tape_length f_h0_tape_bytes o_r) {B : Int → Int} (c : cTB f_h0_tape_bytes h0_tape_length B) : ((o_r.toInt = 1 ∧ WIs B h0_tokenStart.toInt h0_at.toInt 11 4) ∨ (o_r.toInt = 0 ∧ ¬ WIs B h0_tokenStart.toInt h0_at.toInt 11 4)) := by
  rcases h with ⟨z1, v7, v124, v125, p0, p1, p2, p3, p4, p5, p6, e0⟩ | ⟨z1, v7, v124, v125, p0, p1, p2, p3, p4, p5, p6, p7, e0⟩ | h
  · have k1 := j_wI1_11 p1
    have k3 := i_wI_11 p3 c (by omega)
    refine .inr ⟨by omega, fun w => ?_⟩
    rcases k3 with ⟨i0, i1, i2⟩ | ⟨i0, i1, i2⟩
    · omega
    · rcases i2 with i2 | ⟨k, q1, q2, q3⟩
      · have := w.1; omega
      · exact q3 (w.2 k q1 q2)
  · have k1 := j_wI1_11 p1
    have k3 := i_wI_11 p3 c (by omega)
    rcases k3 with ⟨i0, i1, i2⟩ | ⟨i0, i1, i2⟩
    · refine .inl ⟨by omega, ?_, fun k q1 q2 => i2 k q1 (by omega)⟩
      rcases k1 with q | q
      · omega
      · exact absurd i0 (by have := i_wJ_11 p3 c q.1; omega)
    · exact absurd i0 p6
  · exact h.elim
theorem c_kw_11 {h0_at : Int32} {h0_tokenEnd : Int32} {h0_fault : Int32} {h0_place : Int32} {h0_tape_length : Int32} {f_h0_tape_bytes : (Nat → Int32)} {o_u_h0_at : Int32} {o_u_h0_tokenStart : Int32} {o_u_h0_tokenEnd : Int32} {o_u_h0_fault : Int32} {o_u_h0_place : Int32} (h : S_R_keyword_11 h0_at h0_tokenEnd h0_fault h0_place h0_tape_length f_h0_tape_bytes o_u_h0_at o_u_h0_tokenStart o_u_h0_tokenEnd o_u_h0_fault o_u_h0_place) {B : Int → Int} (c : cTB f_h0_tape_bytes h0_tape_length B) : isSk B h0_at.toInt o_u_h0_tokenStart.toInt ∧ isWd B o_u_h0_tokenStart.toInt o_u_h0_at.toInt ∧ o_u_h0_tokenEnd.toInt = o_u_h0_at.toInt ∧ (((o_u_h0_at.toInt = o_u_h0_tokenStart.toInt ∨ o_u_h0_tokenStart.toInt = h0_tokenEnd.toInt ∨ ¬ WIs B o_u_h0_tokenStart.toInt o_u_h0_at.toInt 11 4) ∧ ((¬ h0_fault.toInt = 0 ∧ o_u_h0_fault.toInt = h0_fault.toInt ∧ o_u_h0_place.toInt = h0_place.toInt) ∨ (h0_fault.toInt = 0 ∧ o_u_h0_fault.toInt = 1 ∧ o_u_h0_place.toInt = o_u_h0_tokenStart.toInt))) ∨ (¬ (o_u_h0_at.toInt = o_u_h0_tokenStart.toInt ∨ o_u_h0_tokenStart.toInt = h0_tokenEnd.toInt ∨ ¬ WIs B o_u_h0_tokenStart.toInt o_u_h0_at.toInt 11 4) ∧ o_u_h0_fault.toInt = h0_fault.toInt ∧ o_u_h0_place.toInt = h0_place.toInt)) := by
  rcases h with ⟨v3, v4, v5, v6, v7, r14, p0, p1, p2, p3, p4, p5, p6, p7, p8, e0, e1, e2, e3, e4⟩ | ⟨v3, v4, v5, v6, v7, r14, v20, v21, p0, p1, p2, p3, p4, p5, p6, p7, p8, p9, p10, p11, e0, e1, e2, e3, e4⟩ | h
  · have k5 := c_word p5 c
    have k7 := c_wI_11 p7 c
    have e1_ : (1 : Int32).toInt = 1 := by decide
    have eA := xie e0
    have eB := xie e1
    have eC := xie e2
    subst eA eB eC
    refine ⟨k5.1, k5.2.1, k5.2.2.1, ?_⟩
    have w4 := k5.2.2.2
    rcases k7 with ⟨w0, w1⟩ | ⟨w0, w1⟩
    · simp only [w1, not_true_eq_false, or_false]; omega
    · omega
  · have k5 := c_word p5 c
    have k7 := c_wI_11 p7 c
    have i1_ : (1 : Int32).toInt = 1 := by decide
    have k11 := c_fail p11
    have e1_ : (1 : Int32).toInt = 1 := by decide
    have eA := xie e0
    have eB := xie e1
    have eC := xie e2
    subst eA eB eC
    refine ⟨k5.1, k5.2.1, k5.2.2.1, ?_⟩
    have w4 := k5.2.2.2
    rcases k7 with ⟨w0, w1⟩ | ⟨w0, w1⟩
    · omega
    · simp only [w1, not_false_eq_true, or_true, not_true_eq_false, false_and, or_false, true_and]; omega
  · exact h.elim
theorem ow_t11 : ∀ j : Nat, j < 4 → chZ 11 (j : Int) = chZ 7 (wst 11 + 1 + (j : Int)) := by decide +kernel
theorem ow_11 {B : Int → Int} {a b : Int} : WIs B a b 11 4 ↔ OW B a b 11 := by
  have hl : wln 11 = 4 := by decide
  unfold WIs OW
  rw [hl]
  refine and_congr_right (fun _ => forall_congr' (fun j => ?_))
  constructor
  · intro h h0 h1
    have q := ow_t11 j.toNat (by omega)
    rw [show ((j.toNat : Nat) : Int) = j by omega] at q
    rw [h h0 h1, q]
  · intro h h0 h1
    have q := ow_t11 j.toNat (by omega)
    rw [show ((j.toNat : Nat) : Int) = j by omega] at q
    rw [h h0 h1, q]
theorem c_ch1_12 {x2 : Int32} {o_r : Int32} (h : S_L_charAt_12 x2 o_r)  : o_r.toInt = chZ 12 x2.toInt := by
  rcases h with ⟨z2, z4, z7, p0, p1, p2, p3, e0⟩ | h
  · have b := chZ_b 12 x2.toInt
    rw [e0, zch (by omega) p1 p3, p0]
  · exact h.elim
theorem c_ch_12 {x1 : Int32} {o_r : Int32} (h : S_J_charAt_12 x1 o_r)  : o_r.toInt = chZ 12 x1.toInt := by
  rcases h with ⟨r4, p0, e0⟩ | h
  · have k0 := c_ch1_12 p0
    omega
  · exact h.elim
theorem j_wI2_12 {r210 : Int32} {r213 : Int32} {v217 : Int32} (h : J_R_wordIs_12_62_3 r210 r213 v217)  : ((v217.toInt = 1 ∧ r210.toInt = r213.toInt) ∨ (v217.toInt = 0 ∧ ¬ (r210.toInt = r213.toInt))) := by
  rcases h with ⟨p0, e0⟩ | ⟨p0, e0⟩ | h
  · omega
  · omega
  · exact h.elim
theorem j_wI1_12 {z1 : Int32} {v7 : Int32} (h : J_R_wordIs_12_21_1 z1 v7)  : ((v7.toInt = 1 ∧ z1.toInt = 5) ∨ (v7.toInt = 0 ∧ ¬ (z1.toInt = 5))) := by
  rcases h with ⟨p0, e0⟩ | ⟨p0, e0⟩ | h
  · omega
  · omega
  · exact h.elim
theorem i_wI_12 {f_h0_tape_bytes : (Nat → Int32)} {h0_tape_length : Int32} {h0_tokenStart : Int32} {v7 : Int32} {v172 : Int32} {v173 : Int32} (h : I_R_wordIs_12_24_2 f_h0_tape_bytes h0_tape_length h0_tokenStart v7 v172 v173) {B : Int → Int} (c : cTB f_h0_tape_bytes h0_tape_length B) (s0 : v7.toInt = 0 ∨ v7.toInt = 1) : ((v172.toInt = 1 ∧ 0 ≤ v173.toInt ∧ (∀ k : Int, 0 ≤ k → k < v173.toInt → B (h0_tokenStart.toInt + k) = chZ 12 k)) ∨ (v172.toInt = 0 ∧ 0 ≤ v173.toInt ∧ (v7.toInt = 0 ∨ ∃ k : Int, 0 ≤ k ∧ k < 5 ∧ ¬ B (h0_tokenStart.toInt + k) = chZ 12 k))) := by
  refine I_R_wordIs_12_24_2.ind (Q_ := fun v172 v173 => ((v172.toInt = 1 ∧ 0 ≤ v173.toInt ∧ (∀ k : Int, 0 ≤ k → k < v173.toInt → B (h0_tokenStart.toInt + k) = chZ 12 k)) ∨ (v172.toInt = 0 ∧ 0 ≤ v173.toInt ∧ (v7.toInt = 0 ∨ ∃ k : Int, 0 ≤ k ∧ k < 5 ∧ ¬ B (h0_tokenStart.toInt + k) = chZ 12 k)))) ?_ ?_ h
  · have e0_ : (0 : Int32).toInt = 0 := by decide
    rcases s0 with s0 | s0
    · exact .inr ⟨s0, by omega, .inl s0⟩
    · exact .inl ⟨s0, by omega, fun k h1 h2 => absurd h2 (by omega)⟩
  · intro v172 v173 z207 r210 r213 v217 z221 hp ih p0 p1 p2 p3 p4 p5 p6 p7 p8
    have k4 := c_at p4 c
    have k5 := c_ch_12 p5
    have k6 := j_wI2_12 p6
    rcases ih with ⟨i0, i1, i2⟩ | ⟨i0, i1, i2⟩
    · have e9 : B z207.toInt = B (h0_tokenStart.toInt + v173.toInt) := congrArg B (by omega)
      by_cases q : B z207.toInt = chZ 12 v173.toInt
      · refine .inl ⟨by omega, by omega, fun k q1 q2 => ?_⟩
        by_cases q3 : k = v173.toInt
        · subst q3; omega
        · exact i2 k q1 (by omega)
      · refine .inr ⟨by omega, by omega, ?_⟩
        exact .inr ⟨v173.toInt, by omega, by omega, by omega⟩
    · exact absurd i0 p0
theorem i_wJ_12 {f_h0_tape_bytes : (Nat → Int32)} {h0_tape_length : Int32} {h0_tokenStart : Int32} {v7 : Int32} {v172 : Int32} {v173 : Int32} (h : I_R_wordIs_12_24_2 f_h0_tape_bytes h0_tape_length h0_tokenStart v7 v172 v173) {B : Int → Int} (c : cTB f_h0_tape_bytes h0_tape_length B) (s0 : v7.toInt = 0) : v172.toInt = 0 := by
  refine I_R_wordIs_12_24_2.ind (Q_ := fun v172 v173 => v172.toInt = 0) ?_ ?_ h
  · exact s0
  · intro v172 v173 z207 r210 r213 v217 z221 hp ih p0 p1 p2 p3 p4 p5 p6 p7 p8
    have k4 := c_at p4 c
    have k5 := c_ch_12 p5
    have k6 := j_wI2_12 p6
    omega
theorem c_wI_12 {h0_at : Int32} {h0_tokenStart : Int32} {h0_tape_length : Int32} {f_h0_tape_bytes : (Nat → Int32)} {o_r : Int32} (h : S_R_wordIs_12 h0_at h0_tokenStart h0_tape_length f_h0_tape_bytes o_r) {B : Int → Int} (c : cTB f_h0_tape_bytes h0_tape_length B) : ((o_r.toInt = 1 ∧ WIs B h0_tokenStart.toInt h0_at.toInt 12 5) ∨ (o_r.toInt = 0 ∧ ¬ WIs B h0_tokenStart.toInt h0_at.toInt 12 5)) := by
  rcases h with ⟨z1, v7, v172, v173, p0, p1, p2, p3, p4, p5, p6, e0⟩ | ⟨z1, v7, v172, v173, p0, p1, p2, p3, p4, p5, p6, p7, e0⟩ | h
  · have k1 := j_wI1_12 p1
    have k3 := i_wI_12 p3 c (by omega)
    refine .inr ⟨by omega, fun w => ?_⟩
    rcases k3 with ⟨i0, i1, i2⟩ | ⟨i0, i1, i2⟩
    · omega
    · rcases i2 with i2 | ⟨k, q1, q2, q3⟩
      · have := w.1; omega
      · exact q3 (w.2 k q1 q2)
  · have k1 := j_wI1_12 p1
    have k3 := i_wI_12 p3 c (by omega)
    rcases k3 with ⟨i0, i1, i2⟩ | ⟨i0, i1, i2⟩
    · refine .inl ⟨by omega, ?_, fun k q1 q2 => i2 k q1 (by omega)⟩
      rcases k1 with q | q
      · omega
      · exact absurd i0 (by have := i_wJ_12 p3 c q.1; omega)
    · exact absurd i0 p6
  · exact h.elim
theorem c_kw_12 {h0_at : Int32} {h0_tokenEnd : Int32} {h0_fault : Int32} {h0_place : Int32} {h0_tape_length : Int32} {f_h0_tape_bytes : (Nat → Int32)} {o_u_h0_at : Int32} {o_u_h0_tokenStart : Int32} {o_u_h0_tokenEnd : Int32} {o_u_h0_fault : Int32} {o_u_h0_place : Int32} (h : S_R_keyword_12 h0_at h0_tokenEnd h0_fault h0_place h0_tape_length f_h0_tape_bytes o_u_h0_at o_u_h0_tokenStart o_u_h0_tokenEnd o_u_h0_fault o_u_h0_place) {B : Int → Int} (c : cTB f_h0_tape_bytes h0_tape_length B) : isSk B h0_at.toInt o_u_h0_tokenStart.toInt ∧ isWd B o_u_h0_tokenStart.toInt o_u_h0_at.toInt ∧ o_u_h0_tokenEnd.toInt = o_u_h0_at.toInt ∧ (((o_u_h0_at.toInt = o_u_h0_tokenStart.toInt ∨ o_u_h0_tokenStart.toInt = h0_tokenEnd.toInt ∨ ¬ WIs B o_u_h0_tokenStart.toInt o_u_h0_at.toInt 12 5) ∧ ((¬ h0_fault.toInt = 0 ∧ o_u_h0_fault.toInt = h0_fault.toInt ∧ o_u_h0_place.toInt = h0_place.toInt) ∨ (h0_fault.toInt = 0 ∧ o_u_h0_fault.toInt = 1 ∧ o_u_h0_place.toInt = o_u_h0_tokenStart.toInt))) ∨ (¬ (o_u_h0_at.toInt = o_u_h0_tokenStart.toInt ∨ o_u_h0_tokenStart.toInt = h0_tokenEnd.toInt ∨ ¬ WIs B o_u_h0_tokenStart.toInt o_u_h0_at.toInt 12 5) ∧ o_u_h0_fault.toInt = h0_fault.toInt ∧ o_u_h0_place.toInt = h0_place.toInt)) := by
  rcases h with ⟨v3, v4, v5, v6, v7, r14, p0, p1, p2, p3, p4, p5, p6, p7, p8, e0, e1, e2, e3, e4⟩ | ⟨v3, v4, v5, v6, v7, r14, v20, v21, p0, p1, p2, p3, p4, p5, p6, p7, p8, p9, p10, p11, e0, e1, e2, e3, e4⟩ | h
  · have k5 := c_word p5 c
    have k7 := c_wI_12 p7 c
    have e1_ : (1 : Int32).toInt = 1 := by decide
    have eA := xie e0
    have eB := xie e1
    have eC := xie e2
    subst eA eB eC
    refine ⟨k5.1, k5.2.1, k5.2.2.1, ?_⟩
    have w4 := k5.2.2.2
    rcases k7 with ⟨w0, w1⟩ | ⟨w0, w1⟩
    · simp only [w1, not_true_eq_false, or_false]; omega
    · omega
  · have k5 := c_word p5 c
    have k7 := c_wI_12 p7 c
    have i1_ : (1 : Int32).toInt = 1 := by decide
    have k11 := c_fail p11
    have e1_ : (1 : Int32).toInt = 1 := by decide
    have eA := xie e0
    have eB := xie e1
    have eC := xie e2
    subst eA eB eC
    refine ⟨k5.1, k5.2.1, k5.2.2.1, ?_⟩
    have w4 := k5.2.2.2
    rcases k7 with ⟨w0, w1⟩ | ⟨w0, w1⟩
    · omega
    · simp only [w1, not_false_eq_true, or_true, not_true_eq_false, false_and, or_false, true_and]; omega
  · exact h.elim
theorem ow_t12 : ∀ j : Nat, j < 5 → chZ 12 (j : Int) = chZ 7 (wst 8 + 1 + (j : Int)) := by decide +kernel
theorem ow_12 {B : Int → Int} {a b : Int} : WIs B a b 12 5 ↔ OW B a b 8 := by
  have hl : wln 8 = 5 := by decide
  unfold WIs OW
  rw [hl]
  refine and_congr_right (fun _ => forall_congr' (fun j => ?_))
  constructor
  · intro h h0 h1
    have q := ow_t12 j.toNat (by omega)
    rw [show ((j.toNat : Nat) : Int) = j by omega] at q
    rw [h h0 h1, q]
  · intro h h0 h1
    have q := ow_t12 j.toNat (by omega)
    rw [show ((j.toNat : Nat) : Int) = j by omega] at q
    rw [h h0 h1, q]
theorem c_ch1_13 {x2 : Int32} {o_r : Int32} (h : S_L_charAt_13 x2 o_r)  : o_r.toInt = chZ 13 x2.toInt := by
  rcases h with ⟨z2, z4, z7, p0, p1, p2, p3, e0⟩ | h
  · have b := chZ_b 13 x2.toInt
    rw [e0, zch (by omega) p1 p3, p0]
  · exact h.elim
theorem c_ch_13 {x1 : Int32} {o_r : Int32} (h : S_J_charAt_13 x1 o_r)  : o_r.toInt = chZ 13 x1.toInt := by
  rcases h with ⟨r4, p0, e0⟩ | h
  · have k0 := c_ch1_13 p0
    omega
  · exact h.elim
theorem j_wI2_13 {r162 : Int32} {r165 : Int32} {v169 : Int32} (h : J_R_wordIs_13_62_3 r162 r165 v169)  : ((v169.toInt = 1 ∧ r162.toInt = r165.toInt) ∨ (v169.toInt = 0 ∧ ¬ (r162.toInt = r165.toInt))) := by
  rcases h with ⟨p0, e0⟩ | ⟨p0, e0⟩ | h
  · omega
  · omega
  · exact h.elim
theorem j_wI1_13 {z1 : Int32} {v7 : Int32} (h : J_R_wordIs_13_21_1 z1 v7)  : ((v7.toInt = 1 ∧ z1.toInt = 4) ∨ (v7.toInt = 0 ∧ ¬ (z1.toInt = 4))) := by
  rcases h with ⟨p0, e0⟩ | ⟨p0, e0⟩ | h
  · omega
  · omega
  · exact h.elim
theorem i_wI_13 {f_h0_tape_bytes : (Nat → Int32)} {h0_tape_length : Int32} {h0_tokenStart : Int32} {v7 : Int32} {v124 : Int32} {v125 : Int32} (h : I_R_wordIs_13_24_2 f_h0_tape_bytes h0_tape_length h0_tokenStart v7 v124 v125) {B : Int → Int} (c : cTB f_h0_tape_bytes h0_tape_length B) (s0 : v7.toInt = 0 ∨ v7.toInt = 1) : ((v124.toInt = 1 ∧ 0 ≤ v125.toInt ∧ (∀ k : Int, 0 ≤ k → k < v125.toInt → B (h0_tokenStart.toInt + k) = chZ 13 k)) ∨ (v124.toInt = 0 ∧ 0 ≤ v125.toInt ∧ (v7.toInt = 0 ∨ ∃ k : Int, 0 ≤ k ∧ k < 4 ∧ ¬ B (h0_tokenStart.toInt + k) = chZ 13 k))) := by
  refine I_R_wordIs_13_24_2.ind (Q_ := fun v124 v125 => ((v124.toInt = 1 ∧ 0 ≤ v125.toInt ∧ (∀ k : Int, 0 ≤ k → k < v125.toInt → B (h0_tokenStart.toInt + k) = chZ 13 k)) ∨ (v124.toInt = 0 ∧ 0 ≤ v125.toInt ∧ (v7.toInt = 0 ∨ ∃ k : Int, 0 ≤ k ∧ k < 4 ∧ ¬ B (h0_tokenStart.toInt + k) = chZ 13 k)))) ?_ ?_ h
  · have e0_ : (0 : Int32).toInt = 0 := by decide
    rcases s0 with s0 | s0
    · exact .inr ⟨s0, by omega, .inl s0⟩
    · exact .inl ⟨s0, by omega, fun k h1 h2 => absurd h2 (by omega)⟩
  · intro v124 v125 z159 r162 r165 v169 z173 hp ih p0 p1 p2 p3 p4 p5 p6 p7 p8
    have k4 := c_at p4 c
    have k5 := c_ch_13 p5
    have k6 := j_wI2_13 p6
    rcases ih with ⟨i0, i1, i2⟩ | ⟨i0, i1, i2⟩
    · have e9 : B z159.toInt = B (h0_tokenStart.toInt + v125.toInt) := congrArg B (by omega)
      by_cases q : B z159.toInt = chZ 13 v125.toInt
      · refine .inl ⟨by omega, by omega, fun k q1 q2 => ?_⟩
        by_cases q3 : k = v125.toInt
        · subst q3; omega
        · exact i2 k q1 (by omega)
      · refine .inr ⟨by omega, by omega, ?_⟩
        exact .inr ⟨v125.toInt, by omega, by omega, by omega⟩
    · exact absurd i0 p0
theorem i_wJ_13 {f_h0_tape_bytes : (Nat → Int32)} {h0_tape_length : Int32} {h0_tokenStart : Int32} {v7 : Int32} {v124 : Int32} {v125 : Int32} (h : I_R_wordIs_13_24_2 f_h0_tape_bytes h0_tape_length h0_tokenStart v7 v124 v125) {B : Int → Int} (c : cTB f_h0_tape_bytes h0_tape_length B) (s0 : v7.toInt = 0) : v124.toInt = 0 := by
  refine I_R_wordIs_13_24_2.ind (Q_ := fun v124 v125 => v124.toInt = 0) ?_ ?_ h
  · exact s0
  · intro v124 v125 z159 r162 r165 v169 z173 hp ih p0 p1 p2 p3 p4 p5 p6 p7 p8
    have k4 := c_at p4 c
    have k5 := c_ch_13 p5
    have k6 := j_wI2_13 p6
    omega
theorem c_wI_13 {h0_at : Int32} {h0_tokenStart : Int32} {h0_tape_length : Int32} {f_h0_tape_bytes : (Nat → Int32)} {o_r : Int32} (h : S_R_wordIs_13 h0_at h0_tokenStart h0_tape_length f_h0_tape_bytes o_r) {B : Int → Int} (c : cTB f_h0_tape_bytes h0_tape_length B) : ((o_r.toInt = 1 ∧ WIs B h0_tokenStart.toInt h0_at.toInt 13 4) ∨ (o_r.toInt = 0 ∧ ¬ WIs B h0_tokenStart.toInt h0_at.toInt 13 4)) := by
  rcases h with ⟨z1, v7, v124, v125, p0, p1, p2, p3, p4, p5, p6, e0⟩ | ⟨z1, v7, v124, v125, p0, p1, p2, p3, p4, p5, p6, p7, e0⟩ | h
  · have k1 := j_wI1_13 p1
    have k3 := i_wI_13 p3 c (by omega)
    refine .inr ⟨by omega, fun w => ?_⟩
    rcases k3 with ⟨i0, i1, i2⟩ | ⟨i0, i1, i2⟩
    · omega
    · rcases i2 with i2 | ⟨k, q1, q2, q3⟩
      · have := w.1; omega
      · exact q3 (w.2 k q1 q2)
  · have k1 := j_wI1_13 p1
    have k3 := i_wI_13 p3 c (by omega)
    rcases k3 with ⟨i0, i1, i2⟩ | ⟨i0, i1, i2⟩
    · refine .inl ⟨by omega, ?_, fun k q1 q2 => i2 k q1 (by omega)⟩
      rcases k1 with q | q
      · omega
      · exact absurd i0 (by have := i_wJ_13 p3 c q.1; omega)
    · exact absurd i0 p6
  · exact h.elim
theorem c_kw_13 {h0_at : Int32} {h0_tokenEnd : Int32} {h0_fault : Int32} {h0_place : Int32} {h0_tape_length : Int32} {f_h0_tape_bytes : (Nat → Int32)} {o_u_h0_at : Int32} {o_u_h0_tokenStart : Int32} {o_u_h0_tokenEnd : Int32} {o_u_h0_fault : Int32} {o_u_h0_place : Int32} (h : S_R_keyword_13 h0_at h0_tokenEnd h0_fault h0_place h0_tape_length f_h0_tape_bytes o_u_h0_at o_u_h0_tokenStart o_u_h0_tokenEnd o_u_h0_fault o_u_h0_place) {B : Int → Int} (c : cTB f_h0_tape_bytes h0_tape_length B) : isSk B h0_at.toInt o_u_h0_tokenStart.toInt ∧ isWd B o_u_h0_tokenStart.toInt o_u_h0_at.toInt ∧ o_u_h0_tokenEnd.toInt = o_u_h0_at.toInt ∧ (((o_u_h0_at.toInt = o_u_h0_tokenStart.toInt ∨ o_u_h0_tokenStart.toInt = h0_tokenEnd.toInt ∨ ¬ WIs B o_u_h0_tokenStart.toInt o_u_h0_at.toInt 13 4) ∧ ((¬ h0_fault.toInt = 0 ∧ o_u_h0_fault.toInt = h0_fault.toInt ∧ o_u_h0_place.toInt = h0_place.toInt) ∨ (h0_fault.toInt = 0 ∧ o_u_h0_fault.toInt = 1 ∧ o_u_h0_place.toInt = o_u_h0_tokenStart.toInt))) ∨ (¬ (o_u_h0_at.toInt = o_u_h0_tokenStart.toInt ∨ o_u_h0_tokenStart.toInt = h0_tokenEnd.toInt ∨ ¬ WIs B o_u_h0_tokenStart.toInt o_u_h0_at.toInt 13 4) ∧ o_u_h0_fault.toInt = h0_fault.toInt ∧ o_u_h0_place.toInt = h0_place.toInt)) := by
  rcases h with ⟨v3, v4, v5, v6, v7, r14, p0, p1, p2, p3, p4, p5, p6, p7, p8, e0, e1, e2, e3, e4⟩ | ⟨v3, v4, v5, v6, v7, r14, v20, v21, p0, p1, p2, p3, p4, p5, p6, p7, p8, p9, p10, p11, e0, e1, e2, e3, e4⟩ | h
  · have k5 := c_word p5 c
    have k7 := c_wI_13 p7 c
    have e1_ : (1 : Int32).toInt = 1 := by decide
    have eA := xie e0
    have eB := xie e1
    have eC := xie e2
    subst eA eB eC
    refine ⟨k5.1, k5.2.1, k5.2.2.1, ?_⟩
    have w4 := k5.2.2.2
    rcases k7 with ⟨w0, w1⟩ | ⟨w0, w1⟩
    · simp only [w1, not_true_eq_false, or_false]; omega
    · omega
  · have k5 := c_word p5 c
    have k7 := c_wI_13 p7 c
    have i1_ : (1 : Int32).toInt = 1 := by decide
    have k11 := c_fail p11
    have e1_ : (1 : Int32).toInt = 1 := by decide
    have eA := xie e0
    have eB := xie e1
    have eC := xie e2
    subst eA eB eC
    refine ⟨k5.1, k5.2.1, k5.2.2.1, ?_⟩
    have w4 := k5.2.2.2
    rcases k7 with ⟨w0, w1⟩ | ⟨w0, w1⟩
    · omega
    · simp only [w1, not_false_eq_true, or_true, not_true_eq_false, false_and, or_false, true_and]; omega
  · exact h.elim
theorem ow_t13 : ∀ j : Nat, j < 4 → chZ 13 (j : Int) = chZ 7 (wst 12 + 1 + (j : Int)) := by decide +kernel
theorem ow_13 {B : Int → Int} {a b : Int} : WIs B a b 13 4 ↔ OW B a b 12 := by
  have hl : wln 12 = 4 := by decide
  unfold WIs OW
  rw [hl]
  refine and_congr_right (fun _ => forall_congr' (fun j => ?_))
  constructor
  · intro h h0 h1
    have q := ow_t13 j.toNat (by omega)
    rw [show ((j.toNat : Nat) : Int) = j by omega] at q
    rw [h h0 h1, q]
  · intro h h0 h1
    have q := ow_t13 j.toNat (by omega)
    rw [show ((j.toNat : Nat) : Int) = j by omega] at q
    rw [h h0 h1, q]
theorem c_ch1_14 {x2 : Int32} {o_r : Int32} (h : S_L_charAt_14 x2 o_r)  : o_r.toInt = chZ 14 x2.toInt := by
  rcases h with ⟨z2, z4, z7, p0, p1, p2, p3, e0⟩ | h
  · have b := chZ_b 14 x2.toInt
    rw [e0, zch (by omega) p1 p3, p0]
  · exact h.elim
theorem c_ch_14 {x1 : Int32} {o_r : Int32} (h : S_J_charAt_14 x1 o_r)  : o_r.toInt = chZ 14 x1.toInt := by
  rcases h with ⟨r4, p0, e0⟩ | h
  · have k0 := c_ch1_14 p0
    omega
  · exact h.elim
theorem j_wI2_14 {r162 : Int32} {r165 : Int32} {v169 : Int32} (h : J_R_wordIs_14_62_3 r162 r165 v169)  : ((v169.toInt = 1 ∧ r162.toInt = r165.toInt) ∨ (v169.toInt = 0 ∧ ¬ (r162.toInt = r165.toInt))) := by
  rcases h with ⟨p0, e0⟩ | ⟨p0, e0⟩ | h
  · omega
  · omega
  · exact h.elim
theorem j_wI1_14 {z1 : Int32} {v7 : Int32} (h : J_R_wordIs_14_21_1 z1 v7)  : ((v7.toInt = 1 ∧ z1.toInt = 4) ∨ (v7.toInt = 0 ∧ ¬ (z1.toInt = 4))) := by
  rcases h with ⟨p0, e0⟩ | ⟨p0, e0⟩ | h
  · omega
  · omega
  · exact h.elim
theorem i_wI_14 {f_h0_tape_bytes : (Nat → Int32)} {h0_tape_length : Int32} {h0_tokenStart : Int32} {v7 : Int32} {v124 : Int32} {v125 : Int32} (h : I_R_wordIs_14_24_2 f_h0_tape_bytes h0_tape_length h0_tokenStart v7 v124 v125) {B : Int → Int} (c : cTB f_h0_tape_bytes h0_tape_length B) (s0 : v7.toInt = 0 ∨ v7.toInt = 1) : ((v124.toInt = 1 ∧ 0 ≤ v125.toInt ∧ (∀ k : Int, 0 ≤ k → k < v125.toInt → B (h0_tokenStart.toInt + k) = chZ 14 k)) ∨ (v124.toInt = 0 ∧ 0 ≤ v125.toInt ∧ (v7.toInt = 0 ∨ ∃ k : Int, 0 ≤ k ∧ k < 4 ∧ ¬ B (h0_tokenStart.toInt + k) = chZ 14 k))) := by
  refine I_R_wordIs_14_24_2.ind (Q_ := fun v124 v125 => ((v124.toInt = 1 ∧ 0 ≤ v125.toInt ∧ (∀ k : Int, 0 ≤ k → k < v125.toInt → B (h0_tokenStart.toInt + k) = chZ 14 k)) ∨ (v124.toInt = 0 ∧ 0 ≤ v125.toInt ∧ (v7.toInt = 0 ∨ ∃ k : Int, 0 ≤ k ∧ k < 4 ∧ ¬ B (h0_tokenStart.toInt + k) = chZ 14 k)))) ?_ ?_ h
  · have e0_ : (0 : Int32).toInt = 0 := by decide
    rcases s0 with s0 | s0
    · exact .inr ⟨s0, by omega, .inl s0⟩
    · exact .inl ⟨s0, by omega, fun k h1 h2 => absurd h2 (by omega)⟩
  · intro v124 v125 z159 r162 r165 v169 z173 hp ih p0 p1 p2 p3 p4 p5 p6 p7 p8
    have k4 := c_at p4 c
    have k5 := c_ch_14 p5
    have k6 := j_wI2_14 p6
    rcases ih with ⟨i0, i1, i2⟩ | ⟨i0, i1, i2⟩
    · have e9 : B z159.toInt = B (h0_tokenStart.toInt + v125.toInt) := congrArg B (by omega)
      by_cases q : B z159.toInt = chZ 14 v125.toInt
      · refine .inl ⟨by omega, by omega, fun k q1 q2 => ?_⟩
        by_cases q3 : k = v125.toInt
        · subst q3; omega
        · exact i2 k q1 (by omega)
      · refine .inr ⟨by omega, by omega, ?_⟩
        exact .inr ⟨v125.toInt, by omega, by omega, by omega⟩
    · exact absurd i0 p0
theorem i_wJ_14 {f_h0_tape_bytes : (Nat → Int32)} {h0_tape_length : Int32} {h0_tokenStart : Int32} {v7 : Int32} {v124 : Int32} {v125 : Int32} (h : I_R_wordIs_14_24_2 f_h0_tape_bytes h0_tape_length h0_tokenStart v7 v124 v125) {B : Int → Int} (c : cTB f_h0_tape_bytes h0_tape_length B) (s0 : v7.toInt = 0) : v124.toInt = 0 := by
  refine I_R_wordIs_14_24_2.ind (Q_ := fun v124 v125 => v124.toInt = 0) ?_ ?_ h
  · exact s0
  · intro v124 v125 z159 r162 r165 v169 z173 hp ih p0 p1 p2 p3 p4 p5 p6 p7 p8
    have k4 := c_at p4 c
    have k5 := c_ch_14 p5
    have k6 := j_wI2_14 p6
    omega
theorem c_wI_14 {h0_at : Int32} {h0_tokenStart : Int32} {h0_tape_length : Int32} {f_h0_tape_bytes : (Nat → Int32)} {o_r : Int32} (h : S_R_wordIs_14 h0_at h0_tokenStart h0_tape_length f_h0_tape_bytes o_r) {B : Int → Int} (c : cTB f_h0_tape_bytes h0_tape_length B) : ((o_r.toInt = 1 ∧ WIs B h0_tokenStart.toInt h0_at.toInt 14 4) ∨ (o_r.toInt = 0 ∧ ¬ WIs B h0_tokenStart.toInt h0_at.toInt 14 4)) := by
  rcases h with ⟨z1, v7, v124, v125, p0, p1, p2, p3, p4, p5, p6, e0⟩ | ⟨z1, v7, v124, v125, p0, p1, p2, p3, p4, p5, p6, p7, e0⟩ | h
  · have k1 := j_wI1_14 p1
    have k3 := i_wI_14 p3 c (by omega)
    refine .inr ⟨by omega, fun w => ?_⟩
    rcases k3 with ⟨i0, i1, i2⟩ | ⟨i0, i1, i2⟩
    · omega
    · rcases i2 with i2 | ⟨k, q1, q2, q3⟩
      · have := w.1; omega
      · exact q3 (w.2 k q1 q2)
  · have k1 := j_wI1_14 p1
    have k3 := i_wI_14 p3 c (by omega)
    rcases k3 with ⟨i0, i1, i2⟩ | ⟨i0, i1, i2⟩
    · refine .inl ⟨by omega, ?_, fun k q1 q2 => i2 k q1 (by omega)⟩
      rcases k1 with q | q
      · omega
      · exact absurd i0 (by have := i_wJ_14 p3 c q.1; omega)
    · exact absurd i0 p6
  · exact h.elim
theorem c_kw_14 {h0_at : Int32} {h0_tokenEnd : Int32} {h0_fault : Int32} {h0_place : Int32} {h0_tape_length : Int32} {f_h0_tape_bytes : (Nat → Int32)} {o_u_h0_at : Int32} {o_u_h0_tokenStart : Int32} {o_u_h0_tokenEnd : Int32} {o_u_h0_fault : Int32} {o_u_h0_place : Int32} (h : S_R_keyword_14 h0_at h0_tokenEnd h0_fault h0_place h0_tape_length f_h0_tape_bytes o_u_h0_at o_u_h0_tokenStart o_u_h0_tokenEnd o_u_h0_fault o_u_h0_place) {B : Int → Int} (c : cTB f_h0_tape_bytes h0_tape_length B) : isSk B h0_at.toInt o_u_h0_tokenStart.toInt ∧ isWd B o_u_h0_tokenStart.toInt o_u_h0_at.toInt ∧ o_u_h0_tokenEnd.toInt = o_u_h0_at.toInt ∧ (((o_u_h0_at.toInt = o_u_h0_tokenStart.toInt ∨ o_u_h0_tokenStart.toInt = h0_tokenEnd.toInt ∨ ¬ WIs B o_u_h0_tokenStart.toInt o_u_h0_at.toInt 14 4) ∧ ((¬ h0_fault.toInt = 0 ∧ o_u_h0_fault.toInt = h0_fault.toInt ∧ o_u_h0_place.toInt = h0_place.toInt) ∨ (h0_fault.toInt = 0 ∧ o_u_h0_fault.toInt = 1 ∧ o_u_h0_place.toInt = o_u_h0_tokenStart.toInt))) ∨ (¬ (o_u_h0_at.toInt = o_u_h0_tokenStart.toInt ∨ o_u_h0_tokenStart.toInt = h0_tokenEnd.toInt ∨ ¬ WIs B o_u_h0_tokenStart.toInt o_u_h0_at.toInt 14 4) ∧ o_u_h0_fault.toInt = h0_fault.toInt ∧ o_u_h0_place.toInt = h0_place.toInt)) := by
  rcases h with ⟨v3, v4, v5, v6, v7, r14, p0, p1, p2, p3, p4, p5, p6, p7, p8, e0, e1, e2, e3, e4⟩ | ⟨v3, v4, v5, v6, v7, r14, v20, v21, p0, p1, p2, p3, p4, p5, p6, p7, p8, p9, p10, p11, e0, e1, e2, e3, e4⟩ | h
  · have k5 := c_word p5 c
    have k7 := c_wI_14 p7 c
    have e1_ : (1 : Int32).toInt = 1 := by decide
    have eA := xie e0
    have eB := xie e1
    have eC := xie e2
    subst eA eB eC
    refine ⟨k5.1, k5.2.1, k5.2.2.1, ?_⟩
    have w4 := k5.2.2.2
    rcases k7 with ⟨w0, w1⟩ | ⟨w0, w1⟩
    · simp only [w1, not_true_eq_false, or_false]; omega
    · omega
  · have k5 := c_word p5 c
    have k7 := c_wI_14 p7 c
    have i1_ : (1 : Int32).toInt = 1 := by decide
    have k11 := c_fail p11
    have e1_ : (1 : Int32).toInt = 1 := by decide
    have eA := xie e0
    have eB := xie e1
    have eC := xie e2
    subst eA eB eC
    refine ⟨k5.1, k5.2.1, k5.2.2.1, ?_⟩
    have w4 := k5.2.2.2
    rcases k7 with ⟨w0, w1⟩ | ⟨w0, w1⟩
    · omega
    · simp only [w1, not_false_eq_true, or_true, not_true_eq_false, false_and, or_false, true_and]; omega
  · exact h.elim
theorem ow_t14 : ∀ j : Nat, j < 4 → chZ 14 (j : Int) = chZ 7 (wst 13 + 1 + (j : Int)) := by decide +kernel
theorem ow_14 {B : Int → Int} {a b : Int} : WIs B a b 14 4 ↔ OW B a b 13 := by
  have hl : wln 13 = 4 := by decide
  unfold WIs OW
  rw [hl]
  refine and_congr_right (fun _ => forall_congr' (fun j => ?_))
  constructor
  · intro h h0 h1
    have q := ow_t14 j.toNat (by omega)
    rw [show ((j.toNat : Nat) : Int) = j by omega] at q
    rw [h h0 h1, q]
  · intro h h0 h1
    have q := ow_t14 j.toNat (by omega)
    rw [show ((j.toNat : Nat) : Int) = j by omega] at q
    rw [h h0 h1, q]
theorem c_ch1_15 {x2 : Int32} {o_r : Int32} (h : S_L_charAt_15 x2 o_r)  : o_r.toInt = chZ 15 x2.toInt := by
  rcases h with ⟨z2, z4, z7, p0, p1, p2, p3, e0⟩ | h
  · have b := chZ_b 15 x2.toInt
    rw [e0, zch (by omega) p1 p3, p0]
  · exact h.elim
theorem c_ch_15 {x1 : Int32} {o_r : Int32} (h : S_J_charAt_15 x1 o_r)  : o_r.toInt = chZ 15 x1.toInt := by
  rcases h with ⟨r4, p0, e0⟩ | h
  · have k0 := c_ch1_15 p0
    omega
  · exact h.elim
theorem j_wI2_15 {r162 : Int32} {r165 : Int32} {v169 : Int32} (h : J_R_wordIs_15_62_3 r162 r165 v169)  : ((v169.toInt = 1 ∧ r162.toInt = r165.toInt) ∨ (v169.toInt = 0 ∧ ¬ (r162.toInt = r165.toInt))) := by
  rcases h with ⟨p0, e0⟩ | ⟨p0, e0⟩ | h
  · omega
  · omega
  · exact h.elim
theorem j_wI1_15 {z1 : Int32} {v7 : Int32} (h : J_R_wordIs_15_21_1 z1 v7)  : ((v7.toInt = 1 ∧ z1.toInt = 4) ∨ (v7.toInt = 0 ∧ ¬ (z1.toInt = 4))) := by
  rcases h with ⟨p0, e0⟩ | ⟨p0, e0⟩ | h
  · omega
  · omega
  · exact h.elim
theorem i_wI_15 {f_h0_tape_bytes : (Nat → Int32)} {h0_tape_length : Int32} {h0_tokenStart : Int32} {v7 : Int32} {v124 : Int32} {v125 : Int32} (h : I_R_wordIs_15_24_2 f_h0_tape_bytes h0_tape_length h0_tokenStart v7 v124 v125) {B : Int → Int} (c : cTB f_h0_tape_bytes h0_tape_length B) (s0 : v7.toInt = 0 ∨ v7.toInt = 1) : ((v124.toInt = 1 ∧ 0 ≤ v125.toInt ∧ (∀ k : Int, 0 ≤ k → k < v125.toInt → B (h0_tokenStart.toInt + k) = chZ 15 k)) ∨ (v124.toInt = 0 ∧ 0 ≤ v125.toInt ∧ (v7.toInt = 0 ∨ ∃ k : Int, 0 ≤ k ∧ k < 4 ∧ ¬ B (h0_tokenStart.toInt + k) = chZ 15 k))) := by
  refine I_R_wordIs_15_24_2.ind (Q_ := fun v124 v125 => ((v124.toInt = 1 ∧ 0 ≤ v125.toInt ∧ (∀ k : Int, 0 ≤ k → k < v125.toInt → B (h0_tokenStart.toInt + k) = chZ 15 k)) ∨ (v124.toInt = 0 ∧ 0 ≤ v125.toInt ∧ (v7.toInt = 0 ∨ ∃ k : Int, 0 ≤ k ∧ k < 4 ∧ ¬ B (h0_tokenStart.toInt + k) = chZ 15 k)))) ?_ ?_ h
  · have e0_ : (0 : Int32).toInt = 0 := by decide
    rcases s0 with s0 | s0
    · exact .inr ⟨s0, by omega, .inl s0⟩
    · exact .inl ⟨s0, by omega, fun k h1 h2 => absurd h2 (by omega)⟩
  · intro v124 v125 z159 r162 r165 v169 z173 hp ih p0 p1 p2 p3 p4 p5 p6 p7 p8
    have k4 := c_at p4 c
    have k5 := c_ch_15 p5
    have k6 := j_wI2_15 p6
    rcases ih with ⟨i0, i1, i2⟩ | ⟨i0, i1, i2⟩
    · have e9 : B z159.toInt = B (h0_tokenStart.toInt + v125.toInt) := congrArg B (by omega)
      by_cases q : B z159.toInt = chZ 15 v125.toInt
      · refine .inl ⟨by omega, by omega, fun k q1 q2 => ?_⟩
        by_cases q3 : k = v125.toInt
        · subst q3; omega
        · exact i2 k q1 (by omega)
      · refine .inr ⟨by omega, by omega, ?_⟩
        exact .inr ⟨v125.toInt, by omega, by omega, by omega⟩
    · exact absurd i0 p0
theorem i_wJ_15 {f_h0_tape_bytes : (Nat → Int32)} {h0_tape_length : Int32} {h0_tokenStart : Int32} {v7 : Int32} {v124 : Int32} {v125 : Int32} (h : I_R_wordIs_15_24_2 f_h0_tape_bytes h0_tape_length h0_tokenStart v7 v124 v125) {B : Int → Int} (c : cTB f_h0_tape_bytes h0_tape_length B) (s0 : v7.toInt = 0) : v124.toInt = 0 := by
  refine I_R_wordIs_15_24_2.ind (Q_ := fun v124 v125 => v124.toInt = 0) ?_ ?_ h
  · exact s0
  · intro v124 v125 z159 r162 r165 v169 z173 hp ih p0 p1 p2 p3 p4 p5 p6 p7 p8
    have k4 := c_at p4 c
    have k5 := c_ch_15 p5
    have k6 := j_wI2_15 p6
    omega
theorem c_wI_15 {h0_at : Int32} {h0_tokenStart : Int32} {h0_tape_length : Int32} {f_h0_tape_bytes : (Nat → Int32)} {o_r : Int32} (h : S_R_wordIs_15 h0_at h0_tokenStart h0_tape_length f_h0_tape_bytes o_r) {B : Int → Int} (c : cTB f_h0_tape_bytes h0_tape_length B) : ((o_r.toInt = 1 ∧ WIs B h0_tokenStart.toInt h0_at.toInt 15 4) ∨ (o_r.toInt = 0 ∧ ¬ WIs B h0_tokenStart.toInt h0_at.toInt 15 4)) := by
  rcases h with ⟨z1, v7, v124, v125, p0, p1, p2, p3, p4, p5, p6, e0⟩ | ⟨z1, v7, v124, v125, p0, p1, p2, p3, p4, p5, p6, p7, e0⟩ | h
  · have k1 := j_wI1_15 p1
    have k3 := i_wI_15 p3 c (by omega)
    refine .inr ⟨by omega, fun w => ?_⟩
    rcases k3 with ⟨i0, i1, i2⟩ | ⟨i0, i1, i2⟩
    · omega
    · rcases i2 with i2 | ⟨k, q1, q2, q3⟩
      · have := w.1; omega
      · exact q3 (w.2 k q1 q2)
  · have k1 := j_wI1_15 p1
    have k3 := i_wI_15 p3 c (by omega)
    rcases k3 with ⟨i0, i1, i2⟩ | ⟨i0, i1, i2⟩
    · refine .inl ⟨by omega, ?_, fun k q1 q2 => i2 k q1 (by omega)⟩
      rcases k1 with q | q
      · omega
      · exact absurd i0 (by have := i_wJ_15 p3 c q.1; omega)
    · exact absurd i0 p6
  · exact h.elim
theorem c_kw_15 {h0_at : Int32} {h0_tokenEnd : Int32} {h0_fault : Int32} {h0_place : Int32} {h0_tape_length : Int32} {f_h0_tape_bytes : (Nat → Int32)} {o_u_h0_at : Int32} {o_u_h0_tokenStart : Int32} {o_u_h0_tokenEnd : Int32} {o_u_h0_fault : Int32} {o_u_h0_place : Int32} (h : S_R_keyword_15 h0_at h0_tokenEnd h0_fault h0_place h0_tape_length f_h0_tape_bytes o_u_h0_at o_u_h0_tokenStart o_u_h0_tokenEnd o_u_h0_fault o_u_h0_place) {B : Int → Int} (c : cTB f_h0_tape_bytes h0_tape_length B) : isSk B h0_at.toInt o_u_h0_tokenStart.toInt ∧ isWd B o_u_h0_tokenStart.toInt o_u_h0_at.toInt ∧ o_u_h0_tokenEnd.toInt = o_u_h0_at.toInt ∧ (((o_u_h0_at.toInt = o_u_h0_tokenStart.toInt ∨ o_u_h0_tokenStart.toInt = h0_tokenEnd.toInt ∨ ¬ WIs B o_u_h0_tokenStart.toInt o_u_h0_at.toInt 15 4) ∧ ((¬ h0_fault.toInt = 0 ∧ o_u_h0_fault.toInt = h0_fault.toInt ∧ o_u_h0_place.toInt = h0_place.toInt) ∨ (h0_fault.toInt = 0 ∧ o_u_h0_fault.toInt = 1 ∧ o_u_h0_place.toInt = o_u_h0_tokenStart.toInt))) ∨ (¬ (o_u_h0_at.toInt = o_u_h0_tokenStart.toInt ∨ o_u_h0_tokenStart.toInt = h0_tokenEnd.toInt ∨ ¬ WIs B o_u_h0_tokenStart.toInt o_u_h0_at.toInt 15 4) ∧ o_u_h0_fault.toInt = h0_fault.toInt ∧ o_u_h0_place.toInt = h0_place.toInt)) := by
  rcases h with ⟨v3, v4, v5, v6, v7, r14, p0, p1, p2, p3, p4, p5, p6, p7, p8, e0, e1, e2, e3, e4⟩ | ⟨v3, v4, v5, v6, v7, r14, v20, v21, p0, p1, p2, p3, p4, p5, p6, p7, p8, p9, p10, p11, e0, e1, e2, e3, e4⟩ | h
  · have k5 := c_word p5 c
    have k7 := c_wI_15 p7 c
    have e1_ : (1 : Int32).toInt = 1 := by decide
    have eA := xie e0
    have eB := xie e1
    have eC := xie e2
    subst eA eB eC
    refine ⟨k5.1, k5.2.1, k5.2.2.1, ?_⟩
    have w4 := k5.2.2.2
    rcases k7 with ⟨w0, w1⟩ | ⟨w0, w1⟩
    · simp only [w1, not_true_eq_false, or_false]; omega
    · omega
  · have k5 := c_word p5 c
    have k7 := c_wI_15 p7 c
    have i1_ : (1 : Int32).toInt = 1 := by decide
    have k11 := c_fail p11
    have e1_ : (1 : Int32).toInt = 1 := by decide
    have eA := xie e0
    have eB := xie e1
    have eC := xie e2
    subst eA eB eC
    refine ⟨k5.1, k5.2.1, k5.2.2.1, ?_⟩
    have w4 := k5.2.2.2
    rcases k7 with ⟨w0, w1⟩ | ⟨w0, w1⟩
    · omega
    · simp only [w1, not_false_eq_true, or_true, not_true_eq_false, false_and, or_false, true_and]; omega
  · exact h.elim
theorem ow_t15 : ∀ j : Nat, j < 4 → chZ 15 (j : Int) = chZ 7 (wst 14 + 1 + (j : Int)) := by decide +kernel
theorem ow_15 {B : Int → Int} {a b : Int} : WIs B a b 15 4 ↔ OW B a b 14 := by
  have hl : wln 14 = 4 := by decide
  unfold WIs OW
  rw [hl]
  refine and_congr_right (fun _ => forall_congr' (fun j => ?_))
  constructor
  · intro h h0 h1
    have q := ow_t15 j.toNat (by omega)
    rw [show ((j.toNat : Nat) : Int) = j by omega] at q
    rw [h h0 h1, q]
  · intro h h0 h1
    have q := ow_t15 j.toNat (by omega)
    rw [show ((j.toNat : Nat) : Int) = j by omega] at q
    rw [h h0 h1, q]
theorem c_ch1_16 {x2 : Int32} {o_r : Int32} (h : S_L_charAt_16 x2 o_r)  : o_r.toInt = chZ 16 x2.toInt := by
  rcases h with ⟨z2, z4, z7, p0, p1, p2, p3, e0⟩ | h
  · have b := chZ_b 16 x2.toInt
    rw [e0, zch (by omega) p1 p3, p0]
  · exact h.elim
theorem c_ch_16 {x1 : Int32} {o_r : Int32} (h : S_J_charAt_16 x1 o_r)  : o_r.toInt = chZ 16 x1.toInt := by
  rcases h with ⟨r4, p0, e0⟩ | h
  · have k0 := c_ch1_16 p0
    omega
  · exact h.elim
theorem j_wI2_16 {r114 : Int32} {r117 : Int32} {v121 : Int32} (h : J_R_wordIs_16_62_3 r114 r117 v121)  : ((v121.toInt = 1 ∧ r114.toInt = r117.toInt) ∨ (v121.toInt = 0 ∧ ¬ (r114.toInt = r117.toInt))) := by
  rcases h with ⟨p0, e0⟩ | ⟨p0, e0⟩ | h
  · omega
  · omega
  · exact h.elim
theorem j_wI1_16 {z1 : Int32} {v7 : Int32} (h : J_R_wordIs_16_21_1 z1 v7)  : ((v7.toInt = 1 ∧ z1.toInt = 2) ∨ (v7.toInt = 0 ∧ ¬ (z1.toInt = 2))) := by
  rcases h with ⟨p0, e0⟩ | ⟨p0, e0⟩ | h
  · omega
  · omega
  · exact h.elim
theorem i_wI_16 {f_h0_tape_bytes : (Nat → Int32)} {h0_tape_length : Int32} {h0_tokenStart : Int32} {v7 : Int32} {v76 : Int32} {v77 : Int32} (h : I_R_wordIs_16_24_2 f_h0_tape_bytes h0_tape_length h0_tokenStart v7 v76 v77) {B : Int → Int} (c : cTB f_h0_tape_bytes h0_tape_length B) (s0 : v7.toInt = 0 ∨ v7.toInt = 1) : ((v76.toInt = 1 ∧ 0 ≤ v77.toInt ∧ (∀ k : Int, 0 ≤ k → k < v77.toInt → B (h0_tokenStart.toInt + k) = chZ 16 k)) ∨ (v76.toInt = 0 ∧ 0 ≤ v77.toInt ∧ (v7.toInt = 0 ∨ ∃ k : Int, 0 ≤ k ∧ k < 2 ∧ ¬ B (h0_tokenStart.toInt + k) = chZ 16 k))) := by
  refine I_R_wordIs_16_24_2.ind (Q_ := fun v76 v77 => ((v76.toInt = 1 ∧ 0 ≤ v77.toInt ∧ (∀ k : Int, 0 ≤ k → k < v77.toInt → B (h0_tokenStart.toInt + k) = chZ 16 k)) ∨ (v76.toInt = 0 ∧ 0 ≤ v77.toInt ∧ (v7.toInt = 0 ∨ ∃ k : Int, 0 ≤ k ∧ k < 2 ∧ ¬ B (h0_tokenStart.toInt + k) = chZ 16 k)))) ?_ ?_ h
  · have e0_ : (0 : Int32).toInt = 0 := by decide
    rcases s0 with s0 | s0
    · exact .inr ⟨s0, by omega, .inl s0⟩
    · exact .inl ⟨s0, by omega, fun k h1 h2 => absurd h2 (by omega)⟩
  · intro v76 v77 z111 r114 r117 v121 z125 hp ih p0 p1 p2 p3 p4 p5 p6 p7 p8
    have k4 := c_at p4 c
    have k5 := c_ch_16 p5
    have k6 := j_wI2_16 p6
    rcases ih with ⟨i0, i1, i2⟩ | ⟨i0, i1, i2⟩
    · have e9 : B z111.toInt = B (h0_tokenStart.toInt + v77.toInt) := congrArg B (by omega)
      by_cases q : B z111.toInt = chZ 16 v77.toInt
      · refine .inl ⟨by omega, by omega, fun k q1 q2 => ?_⟩
        by_cases q3 : k = v77.toInt
        · subst q3; omega
        · exact i2 k q1 (by omega)
      · refine .inr ⟨by omega, by omega, ?_⟩
        exact .inr ⟨v77.toInt, by omega, by omega, by omega⟩
    · exact absurd i0 p0
theorem i_wJ_16 {f_h0_tape_bytes : (Nat → Int32)} {h0_tape_length : Int32} {h0_tokenStart : Int32} {v7 : Int32} {v76 : Int32} {v77 : Int32} (h : I_R_wordIs_16_24_2 f_h0_tape_bytes h0_tape_length h0_tokenStart v7 v76 v77) {B : Int → Int} (c : cTB f_h0_tape_bytes h0_tape_length B) (s0 : v7.toInt = 0) : v76.toInt = 0 := by
  refine I_R_wordIs_16_24_2.ind (Q_ := fun v76 v77 => v76.toInt = 0) ?_ ?_ h
  · exact s0
  · intro v76 v77 z111 r114 r117 v121 z125 hp ih p0 p1 p2 p3 p4 p5 p6 p7 p8
    have k4 := c_at p4 c
    have k5 := c_ch_16 p5
    have k6 := j_wI2_16 p6
    omega
theorem c_wI_16 {h0_at : Int32} {h0_tokenStart : Int32} {h0_tape_length : Int32} {f_h0_tape_bytes : (Nat → Int32)} {o_r : Int32} (h : S_R_wordIs_16 h0_at h0_tokenStart h0_tape_length f_h0_tape_bytes o_r) {B : Int → Int} (c : cTB f_h0_tape_bytes h0_tape_length B) : ((o_r.toInt = 1 ∧ WIs B h0_tokenStart.toInt h0_at.toInt 16 2) ∨ (o_r.toInt = 0 ∧ ¬ WIs B h0_tokenStart.toInt h0_at.toInt 16 2)) := by
  rcases h with ⟨z1, v7, v76, v77, p0, p1, p2, p3, p4, p5, p6, e0⟩ | ⟨z1, v7, v76, v77, p0, p1, p2, p3, p4, p5, p6, p7, e0⟩ | h
  · have k1 := j_wI1_16 p1
    have k3 := i_wI_16 p3 c (by omega)
    refine .inr ⟨by omega, fun w => ?_⟩
    rcases k3 with ⟨i0, i1, i2⟩ | ⟨i0, i1, i2⟩
    · omega
    · rcases i2 with i2 | ⟨k, q1, q2, q3⟩
      · have := w.1; omega
      · exact q3 (w.2 k q1 q2)
  · have k1 := j_wI1_16 p1
    have k3 := i_wI_16 p3 c (by omega)
    rcases k3 with ⟨i0, i1, i2⟩ | ⟨i0, i1, i2⟩
    · refine .inl ⟨by omega, ?_, fun k q1 q2 => i2 k q1 (by omega)⟩
      rcases k1 with q | q
      · omega
      · exact absurd i0 (by have := i_wJ_16 p3 c q.1; omega)
    · exact absurd i0 p6
  · exact h.elim
theorem c_kw_16 {h0_at : Int32} {h0_tokenEnd : Int32} {h0_fault : Int32} {h0_place : Int32} {h0_tape_length : Int32} {f_h0_tape_bytes : (Nat → Int32)} {o_u_h0_at : Int32} {o_u_h0_tokenStart : Int32} {o_u_h0_tokenEnd : Int32} {o_u_h0_fault : Int32} {o_u_h0_place : Int32} (h : S_R_keyword_16 h0_at h0_tokenEnd h0_fault h0_place h0_tape_length f_h0_tape_bytes o_u_h0_at o_u_h0_tokenStart o_u_h0_tokenEnd o_u_h0_fault o_u_h0_place) {B : Int → Int} (c : cTB f_h0_tape_bytes h0_tape_length B) : isSk B h0_at.toInt o_u_h0_tokenStart.toInt ∧ isWd B o_u_h0_tokenStart.toInt o_u_h0_at.toInt ∧ o_u_h0_tokenEnd.toInt = o_u_h0_at.toInt ∧ (((o_u_h0_at.toInt = o_u_h0_tokenStart.toInt ∨ o_u_h0_tokenStart.toInt = h0_tokenEnd.toInt ∨ ¬ WIs B o_u_h0_tokenStart.toInt o_u_h0_at.toInt 16 2) ∧ ((¬ h0_fault.toInt = 0 ∧ o_u_h0_fault.toInt = h0_fault.toInt ∧ o_u_h0_place.toInt = h0_place.toInt) ∨ (h0_fault.toInt = 0 ∧ o_u_h0_fault.toInt = 1 ∧ o_u_h0_place.toInt = o_u_h0_tokenStart.toInt))) ∨ (¬ (o_u_h0_at.toInt = o_u_h0_tokenStart.toInt ∨ o_u_h0_tokenStart.toInt = h0_tokenEnd.toInt ∨ ¬ WIs B o_u_h0_tokenStart.toInt o_u_h0_at.toInt 16 2) ∧ o_u_h0_fault.toInt = h0_fault.toInt ∧ o_u_h0_place.toInt = h0_place.toInt)) := by
  rcases h with ⟨v3, v4, v5, v6, v7, r14, p0, p1, p2, p3, p4, p5, p6, p7, p8, e0, e1, e2, e3, e4⟩ | ⟨v3, v4, v5, v6, v7, r14, v20, v21, p0, p1, p2, p3, p4, p5, p6, p7, p8, p9, p10, p11, e0, e1, e2, e3, e4⟩ | h
  · have k5 := c_word p5 c
    have k7 := c_wI_16 p7 c
    have e1_ : (1 : Int32).toInt = 1 := by decide
    have eA := xie e0
    have eB := xie e1
    have eC := xie e2
    subst eA eB eC
    refine ⟨k5.1, k5.2.1, k5.2.2.1, ?_⟩
    have w4 := k5.2.2.2
    rcases k7 with ⟨w0, w1⟩ | ⟨w0, w1⟩
    · simp only [w1, not_true_eq_false, or_false]; omega
    · omega
  · have k5 := c_word p5 c
    have k7 := c_wI_16 p7 c
    have i1_ : (1 : Int32).toInt = 1 := by decide
    have k11 := c_fail p11
    have e1_ : (1 : Int32).toInt = 1 := by decide
    have eA := xie e0
    have eB := xie e1
    have eC := xie e2
    subst eA eB eC
    refine ⟨k5.1, k5.2.1, k5.2.2.1, ?_⟩
    have w4 := k5.2.2.2
    rcases k7 with ⟨w0, w1⟩ | ⟨w0, w1⟩
    · omega
    · simp only [w1, not_false_eq_true, or_true, not_true_eq_false, false_and, or_false, true_and]; omega
  · exact h.elim
theorem ow_t16 : ∀ j : Nat, j < 2 → chZ 16 (j : Int) = chZ 7 (wst 15 + 1 + (j : Int)) := by decide +kernel
theorem ow_16 {B : Int → Int} {a b : Int} : WIs B a b 16 2 ↔ OW B a b 15 := by
  have hl : wln 15 = 2 := by decide
  unfold WIs OW
  rw [hl]
  refine and_congr_right (fun _ => forall_congr' (fun j => ?_))
  constructor
  · intro h h0 h1
    have q := ow_t16 j.toNat (by omega)
    rw [show ((j.toNat : Nat) : Int) = j by omega] at q
    rw [h h0 h1, q]
  · intro h h0 h1
    have q := ow_t16 j.toNat (by omega)
    rw [show ((j.toNat : Nat) : Int) = j by omega] at q
    rw [h h0 h1, q]
theorem c_ch1_17 {x2 : Int32} {o_r : Int32} (h : S_L_charAt_17 x2 o_r)  : o_r.toInt = chZ 17 x2.toInt := by
  rcases h with ⟨z2, z4, z7, p0, p1, p2, p3, e0⟩ | h
  · have b := chZ_b 17 x2.toInt
    rw [e0, zch (by omega) p1 p3, p0]
  · exact h.elim
theorem c_ch_17 {x1 : Int32} {o_r : Int32} (h : S_J_charAt_17 x1 o_r)  : o_r.toInt = chZ 17 x1.toInt := by
  rcases h with ⟨r4, p0, e0⟩ | h
  · have k0 := c_ch1_17 p0
    omega
  · exact h.elim
theorem j_wI2_17 {r162 : Int32} {r165 : Int32} {v169 : Int32} (h : J_R_wordIs_17_62_3 r162 r165 v169)  : ((v169.toInt = 1 ∧ r162.toInt = r165.toInt) ∨ (v169.toInt = 0 ∧ ¬ (r162.toInt = r165.toInt))) := by
  rcases h with ⟨p0, e0⟩ | ⟨p0, e0⟩ | h
  · omega
  · omega
  · exact h.elim
theorem j_wI1_17 {z1 : Int32} {v7 : Int32} (h : J_R_wordIs_17_21_1 z1 v7)  : ((v7.toInt = 1 ∧ z1.toInt = 4) ∨ (v7.toInt = 0 ∧ ¬ (z1.toInt = 4))) := by
  rcases h with ⟨p0, e0⟩ | ⟨p0, e0⟩ | h
  · omega
  · omega
  · exact h.elim
theorem i_wI_17 {f_h0_tape_bytes : (Nat → Int32)} {h0_tape_length : Int32} {h0_tokenStart : Int32} {v7 : Int32} {v124 : Int32} {v125 : Int32} (h : I_R_wordIs_17_24_2 f_h0_tape_bytes h0_tape_length h0_tokenStart v7 v124 v125) {B : Int → Int} (c : cTB f_h0_tape_bytes h0_tape_length B) (s0 : v7.toInt = 0 ∨ v7.toInt = 1) : ((v124.toInt = 1 ∧ 0 ≤ v125.toInt ∧ (∀ k : Int, 0 ≤ k → k < v125.toInt → B (h0_tokenStart.toInt + k) = chZ 17 k)) ∨ (v124.toInt = 0 ∧ 0 ≤ v125.toInt ∧ (v7.toInt = 0 ∨ ∃ k : Int, 0 ≤ k ∧ k < 4 ∧ ¬ B (h0_tokenStart.toInt + k) = chZ 17 k))) := by
  refine I_R_wordIs_17_24_2.ind (Q_ := fun v124 v125 => ((v124.toInt = 1 ∧ 0 ≤ v125.toInt ∧ (∀ k : Int, 0 ≤ k → k < v125.toInt → B (h0_tokenStart.toInt + k) = chZ 17 k)) ∨ (v124.toInt = 0 ∧ 0 ≤ v125.toInt ∧ (v7.toInt = 0 ∨ ∃ k : Int, 0 ≤ k ∧ k < 4 ∧ ¬ B (h0_tokenStart.toInt + k) = chZ 17 k)))) ?_ ?_ h
  · have e0_ : (0 : Int32).toInt = 0 := by decide
    rcases s0 with s0 | s0
    · exact .inr ⟨s0, by omega, .inl s0⟩
    · exact .inl ⟨s0, by omega, fun k h1 h2 => absurd h2 (by omega)⟩
  · intro v124 v125 z159 r162 r165 v169 z173 hp ih p0 p1 p2 p3 p4 p5 p6 p7 p8
    have k4 := c_at p4 c
    have k5 := c_ch_17 p5
    have k6 := j_wI2_17 p6
    rcases ih with ⟨i0, i1, i2⟩ | ⟨i0, i1, i2⟩
    · have e9 : B z159.toInt = B (h0_tokenStart.toInt + v125.toInt) := congrArg B (by omega)
      by_cases q : B z159.toInt = chZ 17 v125.toInt
      · refine .inl ⟨by omega, by omega, fun k q1 q2 => ?_⟩
        by_cases q3 : k = v125.toInt
        · subst q3; omega
        · exact i2 k q1 (by omega)
      · refine .inr ⟨by omega, by omega, ?_⟩
        exact .inr ⟨v125.toInt, by omega, by omega, by omega⟩
    · exact absurd i0 p0
theorem i_wJ_17 {f_h0_tape_bytes : (Nat → Int32)} {h0_tape_length : Int32} {h0_tokenStart : Int32} {v7 : Int32} {v124 : Int32} {v125 : Int32} (h : I_R_wordIs_17_24_2 f_h0_tape_bytes h0_tape_length h0_tokenStart v7 v124 v125) {B : Int → Int} (c : cTB f_h0_tape_bytes h0_tape_length B) (s0 : v7.toInt = 0) : v124.toInt = 0 := by
  refine I_R_wordIs_17_24_2.ind (Q_ := fun v124 v125 => v124.toInt = 0) ?_ ?_ h
  · exact s0
  · intro v124 v125 z159 r162 r165 v169 z173 hp ih p0 p1 p2 p3 p4 p5 p6 p7 p8
    have k4 := c_at p4 c
    have k5 := c_ch_17 p5
    have k6 := j_wI2_17 p6
    omega
theorem c_wI_17 {h0_at : Int32} {h0_tokenStart : Int32} {h0_tape_length : Int32} {f_h0_tape_bytes : (Nat → Int32)} {o_r : Int32} (h : S_R_wordIs_17 h0_at h0_tokenStart h0_tape_length f_h0_tape_bytes o_r) {B : Int → Int} (c : cTB f_h0_tape_bytes h0_tape_length B) : ((o_r.toInt = 1 ∧ WIs B h0_tokenStart.toInt h0_at.toInt 17 4) ∨ (o_r.toInt = 0 ∧ ¬ WIs B h0_tokenStart.toInt h0_at.toInt 17 4)) := by
  rcases h with ⟨z1, v7, v124, v125, p0, p1, p2, p3, p4, p5, p6, e0⟩ | ⟨z1, v7, v124, v125, p0, p1, p2, p3, p4, p5, p6, p7, e0⟩ | h
  · have k1 := j_wI1_17 p1
    have k3 := i_wI_17 p3 c (by omega)
    refine .inr ⟨by omega, fun w => ?_⟩
    rcases k3 with ⟨i0, i1, i2⟩ | ⟨i0, i1, i2⟩
    · omega
    · rcases i2 with i2 | ⟨k, q1, q2, q3⟩
      · have := w.1; omega
      · exact q3 (w.2 k q1 q2)
  · have k1 := j_wI1_17 p1
    have k3 := i_wI_17 p3 c (by omega)
    rcases k3 with ⟨i0, i1, i2⟩ | ⟨i0, i1, i2⟩
    · refine .inl ⟨by omega, ?_, fun k q1 q2 => i2 k q1 (by omega)⟩
      rcases k1 with q | q
      · omega
      · exact absurd i0 (by have := i_wJ_17 p3 c q.1; omega)
    · exact absurd i0 p6
  · exact h.elim
theorem c_kw_17 {h0_at : Int32} {h0_tokenEnd : Int32} {h0_fault : Int32} {h0_place : Int32} {h0_tape_length : Int32} {f_h0_tape_bytes : (Nat → Int32)} {o_u_h0_at : Int32} {o_u_h0_tokenStart : Int32} {o_u_h0_tokenEnd : Int32} {o_u_h0_fault : Int32} {o_u_h0_place : Int32} (h : S_R_keyword_17 h0_at h0_tokenEnd h0_fault h0_place h0_tape_length f_h0_tape_bytes o_u_h0_at o_u_h0_tokenStart o_u_h0_tokenEnd o_u_h0_fault o_u_h0_place) {B : Int → Int} (c : cTB f_h0_tape_bytes h0_tape_length B) : isSk B h0_at.toInt o_u_h0_tokenStart.toInt ∧ isWd B o_u_h0_tokenStart.toInt o_u_h0_at.toInt ∧ o_u_h0_tokenEnd.toInt = o_u_h0_at.toInt ∧ (((o_u_h0_at.toInt = o_u_h0_tokenStart.toInt ∨ o_u_h0_tokenStart.toInt = h0_tokenEnd.toInt ∨ ¬ WIs B o_u_h0_tokenStart.toInt o_u_h0_at.toInt 17 4) ∧ ((¬ h0_fault.toInt = 0 ∧ o_u_h0_fault.toInt = h0_fault.toInt ∧ o_u_h0_place.toInt = h0_place.toInt) ∨ (h0_fault.toInt = 0 ∧ o_u_h0_fault.toInt = 1 ∧ o_u_h0_place.toInt = o_u_h0_tokenStart.toInt))) ∨ (¬ (o_u_h0_at.toInt = o_u_h0_tokenStart.toInt ∨ o_u_h0_tokenStart.toInt = h0_tokenEnd.toInt ∨ ¬ WIs B o_u_h0_tokenStart.toInt o_u_h0_at.toInt 17 4) ∧ o_u_h0_fault.toInt = h0_fault.toInt ∧ o_u_h0_place.toInt = h0_place.toInt)) := by
  rcases h with ⟨v3, v4, v5, v6, v7, r14, p0, p1, p2, p3, p4, p5, p6, p7, p8, e0, e1, e2, e3, e4⟩ | ⟨v3, v4, v5, v6, v7, r14, v20, v21, p0, p1, p2, p3, p4, p5, p6, p7, p8, p9, p10, p11, e0, e1, e2, e3, e4⟩ | h
  · have k5 := c_word p5 c
    have k7 := c_wI_17 p7 c
    have e1_ : (1 : Int32).toInt = 1 := by decide
    have eA := xie e0
    have eB := xie e1
    have eC := xie e2
    subst eA eB eC
    refine ⟨k5.1, k5.2.1, k5.2.2.1, ?_⟩
    have w4 := k5.2.2.2
    rcases k7 with ⟨w0, w1⟩ | ⟨w0, w1⟩
    · simp only [w1, not_true_eq_false, or_false]; omega
    · omega
  · have k5 := c_word p5 c
    have k7 := c_wI_17 p7 c
    have i1_ : (1 : Int32).toInt = 1 := by decide
    have k11 := c_fail p11
    have e1_ : (1 : Int32).toInt = 1 := by decide
    have eA := xie e0
    have eB := xie e1
    have eC := xie e2
    subst eA eB eC
    refine ⟨k5.1, k5.2.1, k5.2.2.1, ?_⟩
    have w4 := k5.2.2.2
    rcases k7 with ⟨w0, w1⟩ | ⟨w0, w1⟩
    · omega
    · simp only [w1, not_false_eq_true, or_true, not_true_eq_false, false_and, or_false, true_and]; omega
  · exact h.elim
theorem ow_t17 : ∀ j : Nat, j < 4 → chZ 17 (j : Int) = chZ 7 (wst 16 + 1 + (j : Int)) := by decide +kernel
theorem ow_17 {B : Int → Int} {a b : Int} : WIs B a b 17 4 ↔ OW B a b 16 := by
  have hl : wln 16 = 4 := by decide
  unfold WIs OW
  rw [hl]
  refine and_congr_right (fun _ => forall_congr' (fun j => ?_))
  constructor
  · intro h h0 h1
    have q := ow_t17 j.toNat (by omega)
    rw [show ((j.toNat : Nat) : Int) = j by omega] at q
    rw [h h0 h1, q]
  · intro h h0 h1
    have q := ow_t17 j.toNat (by omega)
    rw [show ((j.toNat : Nat) : Int) = j by omega] at q
    rw [h h0 h1, q]
theorem c_ch1_18 {x2 : Int32} {o_r : Int32} (h : S_L_charAt_18 x2 o_r)  : o_r.toInt = chZ 18 x2.toInt := by
  rcases h with ⟨z2, z4, z7, p0, p1, p2, p3, e0⟩ | h
  · have b := chZ_b 18 x2.toInt
    rw [e0, zch (by omega) p1 p3, p0]
  · exact h.elim
theorem c_ch_18 {x1 : Int32} {o_r : Int32} (h : S_J_charAt_18 x1 o_r)  : o_r.toInt = chZ 18 x1.toInt := by
  rcases h with ⟨r4, p0, e0⟩ | h
  · have k0 := c_ch1_18 p0
    omega
  · exact h.elim
theorem j_wI2_18 {r210 : Int32} {r213 : Int32} {v217 : Int32} (h : J_R_wordIs_18_62_3 r210 r213 v217)  : ((v217.toInt = 1 ∧ r210.toInt = r213.toInt) ∨ (v217.toInt = 0 ∧ ¬ (r210.toInt = r213.toInt))) := by
  rcases h with ⟨p0, e0⟩ | ⟨p0, e0⟩ | h
  · omega
  · omega
  · exact h.elim
theorem j_wI1_18 {z1 : Int32} {v7 : Int32} (h : J_R_wordIs_18_21_1 z1 v7)  : ((v7.toInt = 1 ∧ z1.toInt = 5) ∨ (v7.toInt = 0 ∧ ¬ (z1.toInt = 5))) := by
  rcases h with ⟨p0, e0⟩ | ⟨p0, e0⟩ | h
  · omega
  · omega
  · exact h.elim
theorem i_wI_18 {f_h0_tape_bytes : (Nat → Int32)} {h0_tape_length : Int32} {h0_tokenStart : Int32} {v7 : Int32} {v172 : Int32} {v173 : Int32} (h : I_R_wordIs_18_24_2 f_h0_tape_bytes h0_tape_length h0_tokenStart v7 v172 v173) {B : Int → Int} (c : cTB f_h0_tape_bytes h0_tape_length B) (s0 : v7.toInt = 0 ∨ v7.toInt = 1) : ((v172.toInt = 1 ∧ 0 ≤ v173.toInt ∧ (∀ k : Int, 0 ≤ k → k < v173.toInt → B (h0_tokenStart.toInt + k) = chZ 18 k)) ∨ (v172.toInt = 0 ∧ 0 ≤ v173.toInt ∧ (v7.toInt = 0 ∨ ∃ k : Int, 0 ≤ k ∧ k < 5 ∧ ¬ B (h0_tokenStart.toInt + k) = chZ 18 k))) := by
  refine I_R_wordIs_18_24_2.ind (Q_ := fun v172 v173 => ((v172.toInt = 1 ∧ 0 ≤ v173.toInt ∧ (∀ k : Int, 0 ≤ k → k < v173.toInt → B (h0_tokenStart.toInt + k) = chZ 18 k)) ∨ (v172.toInt = 0 ∧ 0 ≤ v173.toInt ∧ (v7.toInt = 0 ∨ ∃ k : Int, 0 ≤ k ∧ k < 5 ∧ ¬ B (h0_tokenStart.toInt + k) = chZ 18 k)))) ?_ ?_ h
  · have e0_ : (0 : Int32).toInt = 0 := by decide
    rcases s0 with s0 | s0
    · exact .inr ⟨s0, by omega, .inl s0⟩
    · exact .inl ⟨s0, by omega, fun k h1 h2 => absurd h2 (by omega)⟩
  · intro v172 v173 z207 r210 r213 v217 z221 hp ih p0 p1 p2 p3 p4 p5 p6 p7 p8
    have k4 := c_at p4 c
    have k5 := c_ch_18 p5
    have k6 := j_wI2_18 p6
    rcases ih with ⟨i0, i1, i2⟩ | ⟨i0, i1, i2⟩
    · have e9 : B z207.toInt = B (h0_tokenStart.toInt + v173.toInt) := congrArg B (by omega)
      by_cases q : B z207.toInt = chZ 18 v173.toInt
      · refine .inl ⟨by omega, by omega, fun k q1 q2 => ?_⟩
        by_cases q3 : k = v173.toInt
        · subst q3; omega
        · exact i2 k q1 (by omega)
      · refine .inr ⟨by omega, by omega, ?_⟩
        exact .inr ⟨v173.toInt, by omega, by omega, by omega⟩
    · exact absurd i0 p0
theorem i_wJ_18 {f_h0_tape_bytes : (Nat → Int32)} {h0_tape_length : Int32} {h0_tokenStart : Int32} {v7 : Int32} {v172 : Int32} {v173 : Int32} (h : I_R_wordIs_18_24_2 f_h0_tape_bytes h0_tape_length h0_tokenStart v7 v172 v173) {B : Int → Int} (c : cTB f_h0_tape_bytes h0_tape_length B) (s0 : v7.toInt = 0) : v172.toInt = 0 := by
  refine I_R_wordIs_18_24_2.ind (Q_ := fun v172 v173 => v172.toInt = 0) ?_ ?_ h
  · exact s0
  · intro v172 v173 z207 r210 r213 v217 z221 hp ih p0 p1 p2 p3 p4 p5 p6 p7 p8
    have k4 := c_at p4 c
    have k5 := c_ch_18 p5
    have k6 := j_wI2_18 p6
    omega
theorem c_wI_18 {h0_at : Int32} {h0_tokenStart : Int32} {h0_tape_length : Int32} {f_h0_tape_bytes : (Nat → Int32)} {o_r : Int32} (h : S_R_wordIs_18 h0_at h0_tokenStart h0_tape_length f_h0_tape_bytes o_r) {B : Int → Int} (c : cTB f_h0_tape_bytes h0_tape_length B) : ((o_r.toInt = 1 ∧ WIs B h0_tokenStart.toInt h0_at.toInt 18 5) ∨ (o_r.toInt = 0 ∧ ¬ WIs B h0_tokenStart.toInt h0_at.toInt 18 5)) := by
  rcases h with ⟨z1, v7, v172, v173, p0, p1, p2, p3, p4, p5, p6, e0⟩ | ⟨z1, v7, v172, v173, p0, p1, p2, p3, p4, p5, p6, p7, e0⟩ | h
  · have k1 := j_wI1_18 p1
    have k3 := i_wI_18 p3 c (by omega)
    refine .inr ⟨by omega, fun w => ?_⟩
    rcases k3 with ⟨i0, i1, i2⟩ | ⟨i0, i1, i2⟩
    · omega
    · rcases i2 with i2 | ⟨k, q1, q2, q3⟩
      · have := w.1; omega
      · exact q3 (w.2 k q1 q2)
  · have k1 := j_wI1_18 p1
    have k3 := i_wI_18 p3 c (by omega)
    rcases k3 with ⟨i0, i1, i2⟩ | ⟨i0, i1, i2⟩
    · refine .inl ⟨by omega, ?_, fun k q1 q2 => i2 k q1 (by omega)⟩
      rcases k1 with q | q
      · omega
      · exact absurd i0 (by have := i_wJ_18 p3 c q.1; omega)
    · exact absurd i0 p6
  · exact h.elim
theorem c_kw_18 {h0_at : Int32} {h0_tokenEnd : Int32} {h0_fault : Int32} {h0_place : Int32} {h0_tape_length : Int32} {f_h0_tape_bytes : (Nat → Int32)} {o_u_h0_at : Int32} {o_u_h0_tokenStart : Int32} {o_u_h0_tokenEnd : Int32} {o_u_h0_fault : Int32} {o_u_h0_place : Int32} (h : S_R_keyword_18 h0_at h0_tokenEnd h0_fault h0_place h0_tape_length f_h0_tape_bytes o_u_h0_at o_u_h0_tokenStart o_u_h0_tokenEnd o_u_h0_fault o_u_h0_place) {B : Int → Int} (c : cTB f_h0_tape_bytes h0_tape_length B) : isSk B h0_at.toInt o_u_h0_tokenStart.toInt ∧ isWd B o_u_h0_tokenStart.toInt o_u_h0_at.toInt ∧ o_u_h0_tokenEnd.toInt = o_u_h0_at.toInt ∧ (((o_u_h0_at.toInt = o_u_h0_tokenStart.toInt ∨ o_u_h0_tokenStart.toInt = h0_tokenEnd.toInt ∨ ¬ WIs B o_u_h0_tokenStart.toInt o_u_h0_at.toInt 18 5) ∧ ((¬ h0_fault.toInt = 0 ∧ o_u_h0_fault.toInt = h0_fault.toInt ∧ o_u_h0_place.toInt = h0_place.toInt) ∨ (h0_fault.toInt = 0 ∧ o_u_h0_fault.toInt = 1 ∧ o_u_h0_place.toInt = o_u_h0_tokenStart.toInt))) ∨ (¬ (o_u_h0_at.toInt = o_u_h0_tokenStart.toInt ∨ o_u_h0_tokenStart.toInt = h0_tokenEnd.toInt ∨ ¬ WIs B o_u_h0_tokenStart.toInt o_u_h0_at.toInt 18 5) ∧ o_u_h0_fault.toInt = h0_fault.toInt ∧ o_u_h0_place.toInt = h0_place.toInt)) := by
  rcases h with ⟨v3, v4, v5, v6, v7, r14, p0, p1, p2, p3, p4, p5, p6, p7, p8, e0, e1, e2, e3, e4⟩ | ⟨v3, v4, v5, v6, v7, r14, v20, v21, p0, p1, p2, p3, p4, p5, p6, p7, p8, p9, p10, p11, e0, e1, e2, e3, e4⟩ | h
  · have k5 := c_word p5 c
    have k7 := c_wI_18 p7 c
    have e1_ : (1 : Int32).toInt = 1 := by decide
    have eA := xie e0
    have eB := xie e1
    have eC := xie e2
    subst eA eB eC
    refine ⟨k5.1, k5.2.1, k5.2.2.1, ?_⟩
    have w4 := k5.2.2.2
    rcases k7 with ⟨w0, w1⟩ | ⟨w0, w1⟩
    · simp only [w1, not_true_eq_false, or_false]; omega
    · omega
  · have k5 := c_word p5 c
    have k7 := c_wI_18 p7 c
    have i1_ : (1 : Int32).toInt = 1 := by decide
    have k11 := c_fail p11
    have e1_ : (1 : Int32).toInt = 1 := by decide
    have eA := xie e0
    have eB := xie e1
    have eC := xie e2
    subst eA eB eC
    refine ⟨k5.1, k5.2.1, k5.2.2.1, ?_⟩
    have w4 := k5.2.2.2
    rcases k7 with ⟨w0, w1⟩ | ⟨w0, w1⟩
    · omega
    · simp only [w1, not_false_eq_true, or_true, not_true_eq_false, false_and, or_false, true_and]; omega
  · exact h.elim
theorem ow_t18 : ∀ j : Nat, j < 5 → chZ 18 (j : Int) = chZ 7 (wst 17 + 1 + (j : Int)) := by decide +kernel
theorem ow_18 {B : Int → Int} {a b : Int} : WIs B a b 18 5 ↔ OW B a b 17 := by
  have hl : wln 17 = 5 := by decide
  unfold WIs OW
  rw [hl]
  refine and_congr_right (fun _ => forall_congr' (fun j => ?_))
  constructor
  · intro h h0 h1
    have q := ow_t18 j.toNat (by omega)
    rw [show ((j.toNat : Nat) : Int) = j by omega] at q
    rw [h h0 h1, q]
  · intro h h0 h1
    have q := ow_t18 j.toNat (by omega)
    rw [show ((j.toNat : Nat) : Int) = j by omega] at q
    rw [h h0 h1, q]
