/-- the f-th name is what lies from a up to b -/
def NQ (B : Int → Int) (a b : Int) (rd : Nat → Int32) (f : Int) : Prop := ∀ i : Int, 0 ≤ i → i < 4 → gG rd (67 + 4 * f + i) = sgn B a b i
theorem j_nd1 {f_h0_read : (Nat → Int32)} {f_h0_tape : (Nat → Int32)} {h0_at : Int32} {h0_from : Int32} {v2774 : Int32} {v3490 : Int32} {v3491 : Int32}  (h : J_M_named_57_4 f_h0_read f_h0_tape h0_at h0_from v2774 v3490 v3491) {B : Int → Int} {sz_ : Int32} (c : rTB f_h0_tape sz_ B) (hf : 0 ≤ h0_from.toInt ∧ h0_at.toInt ≤ sz_.toInt) (hi : 0 ≤ v3491.toInt) : v3490.toInt = 0 ∨ ¬ gG f_h0_read (67 + 4 * v2774.toInt + v3491.toInt) = sgn B h0_from.toInt h0_at.toInt v3491.toInt := by
  rcases h with p0 | ⟨z3606, z3609, z3612, z3615, r3617, p0, p1, p2, p3, p4, p5, p6, p7⟩ | h
  · omega
  · have k9 := m_signAt p6 c ⟨by omega, hf.2⟩
    have g9 : gG f_h0_read z3612.toInt = gG f_h0_read (67 + 4 * v2774.toInt + v3491.toInt) := congrArg _ (by omega)
    omega
  · exact h.elim
theorem j_nd2 {f_h0_read : (Nat → Int32)} {f_h0_tape : (Nat → Int32)} {h0_at : Int32} {h0_from : Int32} {v2774 : Int32} {v3490 : Int32} {v3491 : Int32} {v3580 : Int32} (h : J_M_named_58_3 f_h0_read f_h0_tape h0_at h0_from v2774 v3490 v3491 v3580) {B : Int → Int} {sz_ : Int32} (c : rTB f_h0_tape sz_ B) (hf : 0 ≤ h0_from.toInt ∧ h0_at.toInt ≤ sz_.toInt) (hi : 0 ≤ v3491.toInt) : ((v3490.toInt = 0 ∨ ¬ gG f_h0_read (67 + 4 * v2774.toInt + v3491.toInt) = sgn B h0_from.toInt h0_at.toInt v3491.toInt) ∧ v3580.toInt = 0) ∨ (¬ v3490.toInt = 0 ∧ gG f_h0_read (67 + 4 * v2774.toInt + v3491.toInt) = sgn B h0_from.toInt h0_at.toInt v3491.toInt ∧ v3580.toInt = 1) := by
  rcases h with ⟨p0, e0⟩ | ⟨z3606, z3609, z3612, z3615, r3617, p0, p1, p2, p3, p4, p5, p6, p7, e0⟩ | h
  · have k0 := j_nd1 p0 c hf hi
    omega
  · have k9 := m_signAt p6 c ⟨by omega, hf.2⟩
    have g9 : gG f_h0_read z3612.toInt = gG f_h0_read (67 + 4 * v2774.toInt + v3491.toInt) := congrArg _ (by omega)
    omega
  · exact h.elim
theorem i_nd2 {f_h0_read : (Nat → Int32)} {f_h0_tape : (Nat → Int32)} {h0_at : Int32} {h0_from : Int32} {v2774 : Int32} {v3490 : Int32} {v3491 : Int32} (h : I_M_named_23_2 f_h0_read f_h0_tape h0_at h0_from v2774 v3490 v3491) {B : Int → Int} {sz_ : Int32} (c : rTB f_h0_tape sz_ B) (hf : 0 ≤ h0_from.toInt ∧ h0_at.toInt ≤ sz_.toInt) : 0 ≤ v3491.toInt ∧ ((v3490.toInt = 1 ∧ ∀ j : Int, 0 ≤ j → j < v3491.toInt → gG f_h0_read (67 + 4 * v2774.toInt + j) = sgn B h0_from.toInt h0_at.toInt j) ∨ (v3490.toInt = 0 ∧ ∃ j : Int, 0 ≤ j ∧ j < v3491.toInt ∧ ¬ gG f_h0_read (67 + 4 * v2774.toInt + j) = sgn B h0_from.toInt h0_at.toInt j)) := by
  refine I_M_named_23_2.ind (Q_ := fun v3490 v3491 => 0 ≤ v3491.toInt ∧ ((v3490.toInt = 1 ∧ ∀ j : Int, 0 ≤ j → j < v3491.toInt → gG f_h0_read (67 + 4 * v2774.toInt + j) = sgn B h0_from.toInt h0_at.toInt j) ∨ (v3490.toInt = 0 ∧ ∃ j : Int, 0 ≤ j ∧ j < v3491.toInt ∧ ¬ gG f_h0_read (67 + 4 * v2774.toInt + j) = sgn B h0_from.toInt h0_at.toInt j))) ?_ ?_ h
  · have e0_ : (0 : Int32).toInt = 0 := by decide
    have e1_ : (1 : Int32).toInt = 1 := by decide
    exact ⟨by omega, .inl ⟨e1_, fun j h1 h2 => absurd h2 (by omega)⟩⟩
  · intro v3490 v3491 v3580 z3584 hp ih p0 p1 p2 p3
    have kj := j_nd2 p1 c hf ih.1
    refine ⟨by omega, ?_⟩
    rcases ih.2 with ⟨q1, q2⟩ | ⟨q1, j, j1, j2, j3⟩
    · rcases kj with ⟨r1, r2⟩ | ⟨r1, r2, r3⟩
      · exact .inr ⟨by omega, v3491.toInt, ih.1, by omega, by omega⟩
      · refine .inl ⟨by omega, fun j h1 h2 => ?_⟩
        by_cases e : j = v3491.toInt
        · rw [e]; exact r2
        · exact q2 j h1 (by omega)
    · exact .inr ⟨by omega, j, j1, by omega, j3⟩
theorem i_nd1 {f_h0_read : (Nat → Int32)} {f_h0_tape : (Nat → Int32)} {h0_at : Int32} {h0_from : Int32} {h0_read_3 : Int32} {h0_wrong : Int32} {v2774 : Int32} (h : I_M_named_2_1 f_h0_read f_h0_tape h0_at h0_from h0_read_3 h0_wrong v2774) {B : Int → Int} {sz_ : Int32} (c : rTB f_h0_tape sz_ B) (hf : 0 ≤ h0_from.toInt ∧ h0_at.toInt ≤ sz_.toInt) : 1 ≤ v2774.toInt ∧ ∀ f : Int, 1 ≤ f → f < v2774.toInt → ¬ NQ B h0_from.toInt h0_at.toInt f_h0_read f := by
  refine I_M_named_2_1.ind (Q_ := fun v2774 => 1 ≤ v2774.toInt ∧ ∀ f : Int, 1 ≤ f → f < v2774.toInt → ¬ NQ B h0_from.toInt h0_at.toInt f_h0_read f) ?_ ?_ h
  · have e1_ : (1 : Int32).toInt = 1 := by decide
    exact ⟨by omega, fun f h1 h2 => absurd h2 (by omega)⟩
  · intro v2774 r3198 v3490 v3491 z3561 hp ih p0 p1 p2 p3 p4 p5 p6 p7 p8 p9 p10
    have k3 := m_goesWell p3
    have kj := i_nd2 p5 c hf
    refine ⟨by omega, fun f h1 h2 => ?_⟩
    by_cases e : f = v2774.toInt
    · subst e; intro w
      rcases kj.2 with ⟨q1, q2⟩ | ⟨q1, j, j1, j2, j3⟩
      · omega
      · exact j3 (w j j1 (by omega))
    · exact ih.2 f h1 (by omega)
theorem m_named {h0_at : Int32} {h0_from : Int32} {h0_wrong : Int32} {f_h0_read : (Nat → Int32)} {h0_read_3 : Int32} {f_h0_tape : (Nat → Int32)} {o_r : Int32} (h : S_M_named h0_at h0_from h0_wrong f_h0_read h0_read_3 f_h0_tape o_r) {B : Int → Int} {sz_ : Int32} (c : rTB f_h0_tape sz_ B) (hf : 0 ≤ h0_from.toInt ∧ h0_at.toInt ≤ sz_.toInt) : (¬ h0_wrong.toInt = 0 ∧ o_r.toInt = -1) ∨ (o_r.toInt = -1 ∧ ∀ f : Int, 1 ≤ f → f < h0_read_3.toInt → ¬ NQ B h0_from.toInt h0_at.toInt f_h0_read f) ∨ (1 ≤ o_r.toInt ∧ o_r.toInt < h0_read_3.toInt ∧ NQ B h0_from.toInt h0_at.toInt f_h0_read o_r.toInt ∧ ∀ f : Int, 1 ≤ f → f < o_r.toInt → ¬ NQ B h0_from.toInt h0_at.toInt f_h0_read f) := by
  rcases h with ⟨v2774, p0, p1, p2, e0⟩ | ⟨v2774, r3198, p0, p1, p2, p3, p4, p5, p6, e0⟩ | ⟨v2774, r3198, v3490, v3491, p0, p1, p2, p3, p4, p5, p6, p7, p8, p9, p10, p11, e0⟩ | h
  · have ki := i_nd1 p0 c hf
    exact .inr (.inl ⟨e0, fun f h1 h2 => ki.2 f h1 (by omega)⟩)
  · have k5 := m_goesWell p5
    exact .inl ⟨by omega, e0⟩
  · have k5 := m_goesWell p5
    have ki := i_nd1 p0 c hf
    have kj := i_nd2 p7 c hf
    have ef := xie e0
    subst ef
    refine .inr (.inr ⟨by omega, by omega, ?_, fun f h1 h2 => ki.2 f h1 h2⟩)
    rcases kj.2 with ⟨q1, q2⟩ | ⟨q1, _⟩
    · exact fun j h1 h2 => q2 j h1 (by omega)
    · omega
  · exact h.elim
