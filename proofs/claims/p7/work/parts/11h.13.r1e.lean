theorem j_ow1 {r525 : Int32} {r569 : Int32} {v443 : Int32} {v576 : Int32} (h : J_R_isOwnWord_79_3 r525 r569 v443 v576)  : ((r569.toInt = r525.toInt ∧ v576.toInt = v443.toInt + 1) ∨ (¬ (r569.toInt = r525.toInt) ∧ v576.toInt = -1)) := by
  rcases h with ⟨p0, e0⟩ | ⟨z582, p0, p1, e0⟩ | h
  · omega
  · omega
  · exact h.elim
theorem j_ow2 {h0_at : Int32} {h0_tokenStart : Int32} {v443 : Int32}  (h : J_R_isOwnWord_45_4 h0_at h0_tokenStart v443)  : v443.toInt ≤ 0 ∨ ¬ (h0_tokenStart.toInt + v443.toInt = h0_at.toInt) := by
  rcases h with p0 | ⟨z593, p0, p1, p2⟩ | h
  · omega
  · omega
  · exact h.elim
theorem j_ow3 {f_h0_tape_bytes : (Nat → Int32)} {h0_at : Int32} {h0_tape_length : Int32} {h0_tokenStart : Int32} {r525 : Int32} {v443 : Int32} {v556 : Int32} (h : J_R_isOwnWord_80_2 f_h0_tape_bytes h0_at h0_tape_length h0_tokenStart r525 v443 v556) {B : Int → Int} (c : cTB f_h0_tape_bytes h0_tape_length B) : ((¬ r525.toInt = 32 ∧ v443.toInt = -1 ∧ v556.toInt = -1) ∨ (¬ r525.toInt = 32 ∧ ¬ v443.toInt = -1 ∧ B (h0_tokenStart.toInt + v443.toInt) = r525.toInt ∧ v556.toInt = v443.toInt + 1) ∨ (¬ r525.toInt = 32 ∧ ¬ v443.toInt = -1 ∧ ¬ B (h0_tokenStart.toInt + v443.toInt) = r525.toInt ∧ v556.toInt = -1) ∨ (r525.toInt = 32 ∧ (v443.toInt ≤ 0 ∨ ¬ (h0_tokenStart.toInt + v443.toInt = h0_at.toInt)) ∧ v556.toInt = 0)) := by
  rcases h with ⟨p0, p1, e0⟩ | ⟨z566, r569, v576, p0, p1, p2, p3, p4, p5, p6, p7, e0⟩ | ⟨p0, p1, e0⟩ | h
  · omega
  · have k4 := c_at p4 c
    have k5 := j_ow1 p5
    have eB : B z566.toInt = B (h0_tokenStart.toInt + v443.toInt) := congrArg B (by omega)
    omega
  · have k1 := j_ow2 p1
    omega
  · exact h.elim
/-- where the search among the own words is -/
def owI (B : Int → Int) (a b m i : Int) : Prop := (i = 0 ∧ m = -1) ∨ ∃ n : Nat, n < 19 ∧ wst n + 1 ≤ i ∧ (n = 18 → i = 96) ∧ (n < 18 → i ≤ wst n + 1 + wln n) ∧ (∀ k, k < n → ¬ OW B a b k) ∧ ((m = i - (wst n + 1) ∧ ∀ j : Int, 0 ≤ j → j < m → B (a + j) = chZ 7 (wst n + 1 + j)) ∨ (m = -1 ∧ ∃ j : Int, 0 ≤ j ∧ j < i - (wst n + 1) ∧ ¬ B (a + j) = chZ 7 (wst n + 1 + j)))
theorem owI.st {B : Int → Int} {a b m i c m2 i2 : Int} (h : owI B a b m i) (h0 : 0 ≤ i ∧ i < 96) (hc : c = chZ 7 i) (hi : i2 = i + 1) (hs : (¬ c = 32 ∧ m = -1 ∧ m2 = -1) ∨ (¬ c = 32 ∧ ¬ m = -1 ∧ B (a + m) = c ∧ m2 = m + 1) ∨ (¬ c = 32 ∧ ¬ m = -1 ∧ ¬ B (a + m) = c ∧ m2 = -1) ∨ (c = 32 ∧ (m ≤ 0 ∨ ¬ (a + m = b)) ∧ m2 = 0)) : owI B a b m2 i2 := by
  rcases h with ⟨e, em⟩ | ⟨n, hn, g1, g2, g3, g4, g5⟩
  · have w0 := w_0
    rw [e, w0.2.1] at hc
    have w1 := w_tab 0 (by decide)
    exact .inr ⟨0, by decide, by omega, fun q => absurd q (by decide), fun _ => by omega, fun k hk => absurd hk (by omega), .inl ⟨by omega, fun j h1 h2 => absurd h2 (by omega)⟩⟩
  · have hn2 : n < 18 := by
      rcases (show n < 18 ∨ n = 18 by omega) with q | q
      · exact q
      · have := g2 q; omega
    have w1 := w_tab n hn2
    have g3' := g3 hn2
    by_cases q : i = wst n + 1 + wln n
    · rw [q, w1.2.2.2.2.2] at hc
      have nb : ¬ OW B a b n := by
        intro w
        rcases g5 with ⟨e1, e2⟩ | ⟨e1, j, j1, j2, j3⟩
        · have := w.1; omega
        · exact j3 (w.2 j j1 (by omega))
      clear g5
      refine .inr ⟨n + 1, by omega, by omega, fun q2 => ?_, fun q2 => by have := w_tab (n + 1) q2; omega, fun k hk => ?_, .inl ⟨by omega, fun j h1 h2 => absurd h2 (by omega)⟩⟩
      · have w18 := w_0.2.2; have e18 : n + 1 = 18 := by omega
        rw [e18] at w1; omega
      · rcases (show k < n ∨ k = n by omega) with r | r
        · exact g4 k r
        · rw [r]; exact nb
    · have cl := w_let' hn2 (j := i - (wst n + 1)) (by omega) (by omega)
      rw [show wst n + 1 + (i - (wst n + 1)) = i by omega, ← hc] at cl
      refine .inr ⟨n, hn, by omega, fun q2 => absurd q2 (by omega), fun _ => by omega, g4, ?_⟩
      rcases g5 with ⟨e1, e2⟩ | ⟨e1, j, j1, j2, j3⟩
      · have ec : c = chZ 7 (wst n + 1 + m) := by rw [hc]; exact congrArg _ (by omega)
        by_cases q2 : B (a + m) = c
        · refine .inl ⟨by omega, fun j h1 h2 => ?_⟩
          by_cases q3 : j = m
          · rw [q3, q2, ec]
          · exact e2 j h1 (by omega)
        · exact .inr ⟨by omega, m, by omega, by omega, fun q3 => q2 (q3.trans ec.symm)⟩
      · exact .inr ⟨by omega, j, j1, by omega, j3⟩
theorem owI.no {B : Int → Int} {a b m i : Int} (h : owI B a b m i) (hi : 96 ≤ i) : ∀ n, n < 18 → ¬ OW B a b n := by
  rcases h with ⟨e, em⟩ | ⟨n, hn, g1, g2, g3, g4, g5⟩
  · omega
  · intro k hk
    apply g4
    rcases (show n < 18 ∨ n = 18 by omega) with q | q
    · have := g3 q; have := w_tab n q; omega
    · omega
theorem owI.yes {B : Int → Int} {a b m i : Int} (h : owI B a b m i) (h0 : 0 ≤ i ∧ i < 96) (hc : chZ 7 i = 32) (hm : 0 < m) (he : a + m = b) : ∃ n, n < 18 ∧ OW B a b n := by
  rcases h with ⟨e, em⟩ | ⟨n, hn, g1, g2, g3, g4, g5⟩
  · omega
  · have hn2 : n < 18 := by
      rcases (show n < 18 ∨ n = 18 by omega) with q | q
      · exact q
      · have := g2 q; omega
    have w1 := w_tab n hn2
    have g3' := g3 hn2
    rcases g5 with ⟨e1, e2⟩ | ⟨e1, j, j1, j2, j3⟩
    · by_cases q : i = wst n + 1 + wln n
      · exact ⟨n, hn2, by omega, fun j h1 h2 => e2 j h1 (by omega)⟩
      · have cl := w_let' hn2 (j := i - (wst n + 1)) (by omega) (by omega)
        rw [show wst n + 1 + (i - (wst n + 1)) = i by omega] at cl
        omega
    · omega
theorem i_ow {f_h0_tape_bytes : (Nat → Int32)} {h0_at : Int32} {h0_tape_length : Int32} {h0_tokenStart : Int32} {v443 : Int32} {v444 : Int32} (h : I_R_isOwnWord_4_1 f_h0_tape_bytes h0_at h0_tape_length h0_tokenStart v443 v444) {B : Int → Int} (c : cTB f_h0_tape_bytes h0_tape_length B) : owI B h0_tokenStart.toInt h0_at.toInt v443.toInt v444.toInt ∧ 0 ≤ v444.toInt := by
  refine I_R_isOwnWord_4_1.ind (Q_ := fun v443 v444 => owI B h0_tokenStart.toInt h0_at.toInt v443.toInt v444.toInt ∧ 0 ≤ v444.toInt) ?_ ?_ h
  · have e0_ : (0 : Int32).toInt = 0 := by decide
    have em_ : (-1 : Int32).toInt = -1 := by decide
    exact ⟨.inl ⟨e0_, em_⟩, by omega⟩
  · intro v443 v444 r525 v556 z561 hp ih p0 p1 p2 p3 p4 p5
    have k1 := c_ch_7 p1
    have k2 := j_ow3 p2 c
    exact ⟨owI.st ih.1 ⟨ih.2, by omega⟩ k1 (by omega) k2, by omega⟩
theorem c_own {h0_at : Int32} {h0_tokenStart : Int32} {h0_tape_length : Int32} {f_h0_tape_bytes : (Nat → Int32)} {o_r : Int32} (h : S_R_isOwnWord h0_at h0_tokenStart h0_tape_length f_h0_tape_bytes o_r) {B : Int → Int} (c : cTB f_h0_tape_bytes h0_tape_length B) : ((o_r.toInt = 1 ∧ ∃ n, n < 18 ∧ OW B h0_tokenStart.toInt h0_at.toInt n) ∨ (o_r.toInt = 0 ∧ ∀ n, n < 18 → ¬ OW B h0_tokenStart.toInt h0_at.toInt n)) := by
  rcases h with ⟨v443, v444, p0, p1, p2, p3, p4, e0⟩ | ⟨v443, v444, r525, z593, p0, p1, p2, p3, p4, p5, p6, p7, p8, p9, e0⟩ | h
  · have k0 := i_ow p0 c
    exact .inr ⟨e0, k0.1.no (by omega)⟩
  · have k0 := i_ow p0 c
    have k5 := c_ch_7 p5
    exact .inl ⟨e0, k0.1.yes ⟨k0.2, by omega⟩ (by omega) (by omega) (by omega)⟩
  · exact h.elim
def sgn (B : Int → Int) (a b j : Int) : Int := if a + j < b then B (a + j) - 96 else 0
theorem shor {v w z c : Int32} (h : w = v <<< ((5 : Int32) &&& 31)) (e : z = w ||| c) (hv : 0 ≤ v.toInt ∧ v.toInt < 32768) (hc : 0 ≤ c.toInt ∧ c.toInt < 32) : z.toInt = 32 * v.toInt + c.toInt := by
  obtain ⟨h1, h2⟩ := z_nn hv.1
  obtain ⟨c1, c2⟩ := z_nn hc.1
  have hw : w.toBitVec.toNat = 32 * v.toBitVec.toNat := by
    rw [h, show ((5 : Int32) &&& 31) = 5 by decide, Int32.toBitVec_shiftLeft]
    rw [show ((5 : Int32).toBitVec.smod 32) = 5#32 by decide]
    rw [BitVec.shiftLeft_eq', BitVec.toNat_shiftLeft, Nat.shiftLeft_eq, Nat.mod_eq_of_lt]
    · rw [show (5#32).toNat = 5 by decide]; omega
    · rw [show (5#32).toNat = 5 by decide]; omega
  have hz : z.toBitVec.toNat = 32 * v.toBitVec.toNat + c.toBitVec.toNat := by
    rw [e, Int32.toBitVec_or, BitVec.toNat_or, hw]
    exact (Nat.two_pow_add_eq_or_of_lt (i := 5) (by omega) v.toBitVec.toNat).symm
  have := z_of hz (by omega)
  omega
theorem sgn_b {B : Int → Int} {a b j : Int} (h : isWd B a b) (hj : 0 ≤ j) : 0 ≤ sgn B a b j ∧ sgn B a b j < 32 := by
  unfold sgn
  split
  · have := h.2.1 (a + j) (by omega) (by omega); omega
  · omega
theorem j_nm1 {h0_fault : Int32} {h0_place : Int32} {h0_tokenStart : Int32} {r1 : Int32} {v12 : Int32} {v13 : Int32} (h : J_R_name_16_1 h0_fault h0_place h0_tokenStart r1 v12 v13)  : ((r1.toInt = 0 ∧ v12.toInt = h0_fault.toInt ∧ v13.toInt = h0_place.toInt) ∨ (¬ r1.toInt = 0 ∧ ((¬ h0_fault.toInt = 0 ∧ v12.toInt = h0_fault.toInt ∧ v13.toInt = h0_place.toInt) ∨ (h0_fault.toInt = 0 ∧ v12.toInt = 1 ∧ v13.toInt = h0_tokenStart.toInt)))) := by
  rcases h with ⟨p0, e0, e1⟩ | ⟨v348, v349, p0, p1, p2, p3, e0, e1⟩ | h
  · have e1_ : (1 : Int32).toInt = 1 := by decide
    omega
  · have i1_ : (1 : Int32).toInt = 1 := by decide
    have k3 := c_fail p3
    have e1_ : (1 : Int32).toInt = 1 := by decide
    omega
  · exact h.elim
theorem j_nm2 {h0_at : Int32} {h0_tokenStart : Int32} {v12 : Int32} {v13 : Int32} {z18 : Int32} {v32 : Int32} {v33 : Int32} (h : J_R_name_40_2 h0_at h0_tokenStart v12 v13 z18 v32 v33)  : ((h0_at.toInt ≤ z18.toInt ∧ v32.toInt = v12.toInt ∧ v33.toInt = v13.toInt) ∨ (z18.toInt < h0_at.toInt ∧ ((¬ v12.toInt = 0 ∧ v32.toInt = v12.toInt ∧ v33.toInt = v13.toInt) ∨ (v12.toInt = 0 ∧ v32.toInt = 1 ∧ v33.toInt = h0_tokenStart.toInt + 4)))) := by
  rcases h with ⟨p0, e0, e1⟩ | ⟨z335, v340, v341, p0, p1, p2, p3, p4, e0, e1⟩ | h
  · have e1_ : (1 : Int32).toInt = 1 := by decide
    omega
  · have i1_ : (1 : Int32).toInt = 1 := by decide
    have k4 := c_fail p4
    have e1_ : (1 : Int32).toInt = 1 := by decide
    omega
  · exact h.elim
theorem j_nm3 {f_h0_tape_bytes : (Nat → Int32)} {h0_at : Int32} {h0_tape_length : Int32} {h0_tokenStart : Int32} {v242 : Int32} {z293 : Int32} {v309 : Int32} (h : J_R_name_84_4 f_h0_tape_bytes h0_at h0_tape_length h0_tokenStart v242 z293 v309) {B : Int → Int} (c : cTB f_h0_tape_bytes h0_tape_length B) (hz : z293.toInt = h0_tokenStart.toInt + v242.toInt) : v309.toInt = sgn B h0_tokenStart.toInt h0_at.toInt v242.toInt := by
  rcases h with ⟨p0, e0⟩ | ⟨z322, r325, z328, z331, p0, p1, p2, p3, p4, p5, e0⟩ | h
  · unfold sgn; rw [if_neg (by omega)]; omega
  · have k3 := c_at p3 c
    have eB : B z322.toInt = B (h0_tokenStart.toInt + v242.toInt) := congrArg B (by omega)
    unfold sgn; rw [if_pos (by omega)]; omega
  · exact h.elim
theorem i_nm {f_h0_tape_bytes : (Nat → Int32)} {h0_at : Int32} {h0_tape_length : Int32} {h0_tokenStart : Int32} {v241 : Int32} {v242 : Int32} (h : I_R_name_44_3 f_h0_tape_bytes h0_at h0_tape_length h0_tokenStart v241 v242) {B : Int → Int} (c : cTB f_h0_tape_bytes h0_tape_length B) (w : isWd B h0_tokenStart.toInt h0_at.toInt) : ((v242.toInt = 0 ∧ v241.toInt = 0) ∨ (v242.toInt = 1 ∧ v241.toInt = sgn B h0_tokenStart.toInt h0_at.toInt 0) ∨ (v242.toInt = 2 ∧ v241.toInt = 32 * sgn B h0_tokenStart.toInt h0_at.toInt 0 + sgn B h0_tokenStart.toInt h0_at.toInt 1) ∨ (v242.toInt = 3 ∧ v241.toInt = 1024 * sgn B h0_tokenStart.toInt h0_at.toInt 0 + 32 * sgn B h0_tokenStart.toInt h0_at.toInt 1 + sgn B h0_tokenStart.toInt h0_at.toInt 2) ∨ (v242.toInt = 4 ∧ v241.toInt = 32768 * sgn B h0_tokenStart.toInt h0_at.toInt 0 + 1024 * sgn B h0_tokenStart.toInt h0_at.toInt 1 + 32 * sgn B h0_tokenStart.toInt h0_at.toInt 2 + sgn B h0_tokenStart.toInt h0_at.toInt 3)) := by
  refine I_R_name_44_3.ind (Q_ := fun v241 v242 => ((v242.toInt = 0 ∧ v241.toInt = 0) ∨ (v242.toInt = 1 ∧ v241.toInt = sgn B h0_tokenStart.toInt h0_at.toInt 0) ∨ (v242.toInt = 2 ∧ v241.toInt = 32 * sgn B h0_tokenStart.toInt h0_at.toInt 0 + sgn B h0_tokenStart.toInt h0_at.toInt 1) ∨ (v242.toInt = 3 ∧ v241.toInt = 1024 * sgn B h0_tokenStart.toInt h0_at.toInt 0 + 32 * sgn B h0_tokenStart.toInt h0_at.toInt 1 + sgn B h0_tokenStart.toInt h0_at.toInt 2) ∨ (v242.toInt = 4 ∧ v241.toInt = 32768 * sgn B h0_tokenStart.toInt h0_at.toInt 0 + 1024 * sgn B h0_tokenStart.toInt h0_at.toInt 1 + 32 * sgn B h0_tokenStart.toInt h0_at.toInt 2 + sgn B h0_tokenStart.toInt h0_at.toInt 3))) ?_ ?_ h
  · have e0_ : (0 : Int32).toInt = 0 := by decide
    exact .inl ⟨e0_, e0_⟩
  · intro v241 v242 z293 v309 z314 z316 z318 hp ih p0 p1 p2 p3 p4 p5 p6
    have kj := j_nm3 p2 c p1
    have b0 := sgn_b w (j := 0) (by decide)
    have b1 := sgn_b w (j := 1) (by decide)
    have b2 := sgn_b w (j := 2) (by decide)
    have b3 := sgn_b w (j := 3) (by decide)
    rcases ih with ⟨i1, i2⟩ | ⟨i1, i2⟩ | ⟨i1, i2⟩ | ⟨i1, i2⟩ | ⟨i1, i2⟩
    · rw [i1] at kj
      have q9 := shor p4 p5 (by omega) (by omega)
      omega
    · rw [i1] at kj
      have q9 := shor p4 p5 (by omega) (by omega)
      omega
    · rw [i1] at kj
      have q9 := shor p4 p5 (by omega) (by omega)
      omega
    · rw [i1] at kj
      have q9 := shor p4 p5 (by omega) (by omega)
      omega
    · omega
/-- what name() does to a fault -/
def NMR (B : Int → Int) (t a F P F2 P2 : Int) : Prop := (((∃ n, n < 18 ∧ OW B t a n) ∧ ((¬ F = 0 ∧ F2 = F ∧ P2 = P) ∨ (F = 0 ∧ F2 = 1 ∧ P2 = t))) ∨ ((∀ n, n < 18 → ¬ OW B t a n) ∧ ((a ≤ t + 4 ∧ F2 = F ∧ P2 = P) ∨ (t + 4 < a ∧ ((¬ F = 0 ∧ F2 = F ∧ P2 = P) ∨ (F = 0 ∧ F2 = 1 ∧ P2 = t + 4))))))
theorem c_name {h0_at : Int32} {h0_tokenStart : Int32} {h0_fault : Int32} {h0_place : Int32} {h0_tape_length : Int32} {f_h0_tape_bytes : (Nat → Int32)} {o_u_h0_fault : Int32} {o_u_h0_place : Int32} {o_r : Int32} (h : S_R_name h0_at h0_tokenStart h0_fault h0_place h0_tape_length f_h0_tape_bytes o_u_h0_fault o_u_h0_place o_r) {B : Int → Int} (c : cTB f_h0_tape_bytes h0_tape_length B) (w : isWd B h0_tokenStart.toInt h0_at.toInt) : NMR B (h0_tokenStart.toInt) (h0_at.toInt) (h0_fault.toInt) (h0_place.toInt) (o_u_h0_fault.toInt) (o_u_h0_place.toInt) ∧ (o_u_h0_fault.toInt = 0 → o_r.toInt = 32768 * sgn B h0_tokenStart.toInt h0_at.toInt 0 + 1024 * sgn B h0_tokenStart.toInt h0_at.toInt 1 + 32 * sgn B h0_tokenStart.toInt h0_at.toInt 2 + sgn B h0_tokenStart.toInt h0_at.toInt 3) := by
  rcases h with ⟨r1, v12, v13, z18, v32, v33, v241, v242, p0, p1, p2, p3, p4, p5, p6, p7, p8, p9, p10, e0, e1, e2⟩ | ⟨r1, v12, v13, z18, v32, v33, v241, v242, p0, p1, p2, p3, p4, p5, p6, p7, p8, p9, p10, e0, e1, e2⟩ | h
  · have k1 := c_own p1 c
    have k2 := j_nm1 p2
    have k5 := j_nm2 p5
    have ki := i_nm p7 c w
    refine ⟨?_, fun q => by omega⟩
    unfold NMR
    rcases k1 with ⟨o1, o2⟩ | ⟨o1, o2⟩
    · exact .inl ⟨o2, by omega⟩
    · exact .inr ⟨o2, by omega⟩
  · have k1 := c_own p1 c
    have k2 := j_nm1 p2
    have k5 := j_nm2 p5
    have ki := i_nm p7 c w
    refine ⟨?_, fun q => by omega⟩
    unfold NMR
    rcases k1 with ⟨o1, o2⟩ | ⟨o1, o2⟩
    · exact .inl ⟨o2, by omega⟩
    · exact .inr ⟨o2, by omega⟩
  · exact h.elim
theorem i_find {f_h0_into_name : (Nat → Int32)} {h0_into_count : Int32} {x1 : Int32} {v59 : Int32} (h : I_R_find_2_1 f_h0_into_name h0_into_count x1 v59)  : 1 ≤ v59.toInt ∧ ∀ f : Int, 1 ≤ f → f < v59.toInt → ¬ gG f_h0_into_name f = x1.toInt := by
  refine I_R_find_2_1.ind (Q_ := fun v59 => 1 ≤ v59.toInt ∧ ∀ f : Int, 1 ≤ f → f < v59.toInt → ¬ gG f_h0_into_name f = x1.toInt) ?_ ?_ h
  · have e1_ : (1 : Int32).toInt = 1 := by decide
    exact ⟨by omega, fun f h1 h2 => absurd h2 (by omega)⟩
  · intro v59 z75 z78 hp ih p0 p1 p2 p3
    refine ⟨by omega, fun f h1 h2 => ?_⟩
    by_cases e : f = v59.toInt
    · subst e; omega
    · exact ih.2 f h1 (by omega)
theorem c_find {x1 : Int32} {h0_into_count : Int32} {f_h0_into_name : (Nat → Int32)} {o_r : Int32} (h : S_R_find x1 h0_into_count f_h0_into_name o_r)  : ((o_r.toInt = -1 ∧ ∀ f : Int, 1 ≤ f → f < h0_into_count.toInt → ¬ gG f_h0_into_name f = x1.toInt) ∨ (1 ≤ o_r.toInt ∧ o_r.toInt < h0_into_count.toInt ∧ gG f_h0_into_name o_r.toInt = x1.toInt ∧ ∀ f : Int, 1 ≤ f → f < o_r.toInt → ¬ gG f_h0_into_name f = x1.toInt)) := by
  rcases h with ⟨v59, p0, p1, p2, e0⟩ | ⟨v59, z75, p0, p1, p2, p3, p4, e0⟩ | h
  · have k0 := i_find p0
    exact .inl ⟨e0, fun f h1 h2 => k0.2 f h1 (by omega)⟩
  · have k0 := i_find p0
    refine .inr ⟨by omega, by omega, ?_, fun f h1 h2 => k0.2 f h1 (by omega)⟩
    rw [e0]; omega
  · exact h.elim
