theorem m_ends {h0_size : Int32} {h0_at : Int32} {h0_wrong : Int32} {h0_wrongAt : Int32} {f_h0_tape : (Nat → Int32)} {o_u_h0_at : Int32} {o_u_h0_wrong : Int32} {o_u_h0_wrongAt : Int32} (h : S_M_endsWell h0_size h0_at h0_wrong h0_wrongAt f_h0_tape o_u_h0_at o_u_h0_wrong o_u_h0_wrongAt) {B : Int → Int} (c : rTB f_h0_tape h0_size B) : (¬ h0_wrong.toInt = 0 ∧ o_u_h0_at.toInt = h0_at.toInt ∧ o_u_h0_wrong.toInt = h0_wrong.toInt ∧ o_u_h0_wrongAt.toInt = h0_wrongAt.toInt) ∨ (h0_wrong.toInt = 0 ∧ ∃ s : Int, isSk B h0_at.toInt s ∧ ((B s = 59 ∧ o_u_h0_at.toInt = s + 1 ∧ o_u_h0_wrong.toInt = 0 ∧ o_u_h0_wrongAt.toInt = h0_wrongAt.toInt) ∨ (¬ B s = 59 ∧ o_u_h0_wrong.toInt = 1 ∧ o_u_h0_wrongAt.toInt = s))) := by
  rcases h with ⟨r1, v8, r6, v17, v18, p0, p1, p2, p3, p4, p5, p6, p7, p8, p9, p10, p11, p12, e0, e1, e2⟩ | ⟨r1, v8, r6, z22, p0, p1, p2, p3, p4, p5, p6, p7, p8, p9, p10, e0, e1, e2⟩ | ⟨r1, p0, p1, p2, p3, e0, e1, e2⟩ | h
  · have k2 := m_goesWell p2
    have k8 := m_here p8 c
    have i1_ : (1 : Int32).toInt = 1 := by decide
    have k12 := m_faults p12
    have e1_ : (1 : Int32).toInt = 1 := by decide
    refine .inr ⟨by omega, v8.toInt, k8.1, by omega⟩
  · have k2 := m_goesWell p2
    have k8 := m_here p8 c
    have e1_ : (1 : Int32).toInt = 1 := by decide
    refine .inr ⟨by omega, v8.toInt, k8.1, by omega⟩
  · have k2 := m_goesWell p2
    exact .inl (by omega)
  · exact h.elim
theorem m_signAt {x1 : Int32} {h0_at : Int32} {h0_from : Int32} {f_h0_tape : (Nat → Int32)} {o_r : Int32} (h : S_M_signAt x1 h0_at h0_from f_h0_tape o_r) {B : Int → Int} {sz_ : Int32} (c : rTB f_h0_tape sz_ B) (hf : 0 ≤ h0_from.toInt + x1.toInt ∧ h0_at.toInt ≤ sz_.toInt) : o_r.toInt = sgn B h0_from.toInt h0_at.toInt x1.toInt := by
  rcases h with ⟨z1, p0, p1, e0⟩ | ⟨z1, z5, z8, z11, p0, p1, p2, p3, p4, p5, e0⟩ | h
  · unfold sgn; rw [if_neg (by omega)]; omega
  · have g1 := c.2 z5.toInt (by omega) (by omega)
    have g2 : B z5.toInt = B (h0_from.toInt + x1.toInt) := congrArg B (by omega)
    unfold sgn; rw [if_pos (by omega)]; omega
  · exact h.elim
