theorem b10 {r : Int} {P : Prop} (k : (r = 1 ∧ P) ∨ (r = 0 ∧ ¬ P)) (h : r = 0) : ¬ P := by
  rcases k with ⟨k1, _⟩ | ⟨_, k2⟩
  · exact absurd (h.symm.trans k1) (by decide)
  · exact k2
theorem b11 {r : Int} {P : Prop} (k : (r = 1 ∧ P) ∨ (r = 0 ∧ ¬ P)) (h : ¬ r = 0) : P := by
  rcases k with ⟨_, k2⟩ | ⟨k1, _⟩
  · exact k2
  · exact absurd k1 h
theorem m_byteAt {x1 : Int32} {h0_size : Int32} {f_h0_tape : (Nat → Int32)} {o_r : Int32} (h : S_M_byteAt x1 h0_size f_h0_tape o_r) {B : Int → Int} (c : rTB f_h0_tape h0_size B) : o_r.toInt = B x1.toInt := by
  rcases h with ⟨p0, e0⟩ | ⟨p0, p1, e0⟩ | ⟨z3, p0, p1, p2, p3, e0⟩ | h
  · rw [e0, c.1.2.2.1 _ p0]
  · rw [e0, c.1.2.2.2.1 _ p1]
  · have q := c.2 x1.toInt (by omega) (by omega)
    omega
  · exact h.elim
theorem m_isSmall {x1 : Int32} {h0_size : Int32} {f_h0_tape : (Nat → Int32)} {o_r : Int32} (h : S_M_isSmall x1 h0_size f_h0_tape o_r) {B : Int → Int} (c : rTB f_h0_tape h0_size B) : ((o_r.toInt = 1 ∧ (97 ≤ B x1.toInt ∧ B x1.toInt ≤ 122)) ∨ (o_r.toInt = 0 ∧ ¬ (97 ≤ B x1.toInt ∧ B x1.toInt ≤ 122))) := by
  rcases h with ⟨r1, p0, p1, p2, p3, e0⟩ | ⟨r1, r7, p0, p1, p2, p3, p4, p5, p6, p7, e0⟩ | ⟨r1, r7, p0, p1, p2, p3, p4, p5, p6, p7, e0⟩ | h
  · have k2 := m_byteAt p2 c
    omega
  · have k2 := m_byteAt p2 c
    have k6 := m_byteAt p6 c
    omega
  · have k2 := m_byteAt p2 c
    have k6 := m_byteAt p6 c
    omega
  · exact h.elim
theorem m_isDigit {x1 : Int32} {h0_size : Int32} {f_h0_tape : (Nat → Int32)} {o_r : Int32} (h : S_M_isDigit x1 h0_size f_h0_tape o_r) {B : Int → Int} (c : rTB f_h0_tape h0_size B) : ((o_r.toInt = 1 ∧ (48 ≤ B x1.toInt ∧ B x1.toInt ≤ 57)) ∨ (o_r.toInt = 0 ∧ ¬ (48 ≤ B x1.toInt ∧ B x1.toInt ≤ 57))) := by
  rcases h with ⟨r1, p0, p1, p2, p3, e0⟩ | ⟨r1, r7, p0, p1, p2, p3, p4, p5, p6, p7, e0⟩ | ⟨r1, r7, p0, p1, p2, p3, p4, p5, p6, p7, e0⟩ | h
  · have k2 := m_byteAt p2 c
    omega
  · have k2 := m_byteAt p2 c
    have k6 := m_byteAt p6 c
    omega
  · have k2 := m_byteAt p2 c
    have k6 := m_byteAt p6 c
    omega
  · exact h.elim
theorem m_isIn {x1 : Int32} {x2 : Int32} {x3 : Int32} {o_r : Int32} (h : S_M_isIn x1 x2 x3 o_r)  : ((o_r.toInt = 1 ∧ x2.toInt ≤ x1.toInt ∧ x1.toInt ≤ x3.toInt) ∨ (o_r.toInt = 0 ∧ ¬ (x2.toInt ≤ x1.toInt ∧ x1.toInt ≤ x3.toInt))) := by
  rcases h with ⟨p0, e0⟩ | ⟨p0, p1, e0⟩ | ⟨p0, p1, e0⟩ | h
  · omega
  · omega
  · omega
  · exact h.elim
theorem m_lesser {x1 : Int32} {x2 : Int32} {o_r : Int32} (h : S_M_lesser x1 x2 o_r)  : ((o_r.toInt = x1.toInt ∧ x1.toInt ≤ x2.toInt) ∨ (o_r.toInt = x2.toInt ∧ x2.toInt ≤ x1.toInt)) := by
  rcases h with ⟨p0, e0⟩ | ⟨p0, e0⟩ | h
  · omega
  · omega
  · exact h.elim
theorem m_greater {x1 : Int32} {x2 : Int32} {o_r : Int32} (h : S_M_greater x1 x2 o_r)  : ((o_r.toInt = x1.toInt ∧ x2.toInt ≤ x1.toInt) ∨ (o_r.toInt = x2.toInt ∧ x1.toInt ≤ x2.toInt)) := by
  rcases h with ⟨p0, e0⟩ | ⟨p0, e0⟩ | h
  · omega
  · omega
  · exact h.elim
theorem m_faults {x1 : Int32} {x2 : Int32} {h0_wrong : Int32} {h0_wrongAt : Int32} {o_u_h0_wrong : Int32} {o_u_h0_wrongAt : Int32} (h : S_M_faults x1 x2 h0_wrong h0_wrongAt o_u_h0_wrong o_u_h0_wrongAt)  : ((¬ h0_wrong.toInt = 0 ∧ o_u_h0_wrong.toInt = h0_wrong.toInt ∧ o_u_h0_wrongAt.toInt = h0_wrongAt.toInt) ∨ (h0_wrong.toInt = 0 ∧ o_u_h0_wrong.toInt = x1.toInt ∧ o_u_h0_wrongAt.toInt = x2.toInt)) := by
  rcases h with ⟨p0, e0, e1⟩ | ⟨p0, e0, e1⟩ | h
  · omega
  · omega
  · exact h.elim
theorem m_goesWell {h0_wrong : Int32} {o_r : Int32} (h : S_M_goesWell h0_wrong o_r)  : ((o_r.toInt = 1 ∧ h0_wrong.toInt = 0) ∨ (o_r.toInt = 0 ∧ ¬ h0_wrong.toInt = 0)) := by
  rcases h with ⟨p0, e0⟩ | ⟨p0, e0⟩ | h
  · omega
  · omega
  · exact h.elim
theorem i_here {f_h0_tape : (Nat → Int32)} {h0_at : Int32} {h0_size : Int32} {v49 : Int32} (h : I_M_here_0_1 f_h0_tape h0_at h0_size v49) {B : Int → Int} (c : rTB f_h0_tape h0_size B) : h0_at.toInt ≤ v49.toInt ∧ ∀ p, h0_at.toInt ≤ p → p < v49.toInt → (B p = 32 ∨ B p = 10) := by
  refine I_M_here_0_1.ind (Q_ := fun v49 => h0_at.toInt ≤ v49.toInt ∧ ∀ p, h0_at.toInt ≤ p → p < v49.toInt → (B p = 32 ∨ B p = 10)) ?_ ?_ ?_ h
  · exact ⟨Int.le_refl _, fun p h1 h2 => absurd h2 (by omega)⟩
  · intro v49 r81 z87 hp ih p0 p1 p2 p3 p4
    have k2 := m_byteAt p2 c
    refine ⟨by omega, fun p h1 h2 => ?_⟩
    by_cases e : p = v49.toInt
    · subst e; omega
    · exact ih.2 p h1 (by omega)
  · intro v49 r81 r90 z101 hp ih p0 p1 p2 p3 p4 p5 p6 p7 p8
    have k2 := m_byteAt p2 c
    have k6 := m_byteAt p6 c
    refine ⟨by omega, fun p h1 h2 => ?_⟩
    by_cases e : p = v49.toInt
    · subst e; omega
    · exact ih.2 p h1 (by omega)
theorem m_here {h0_size : Int32} {h0_at : Int32} {f_h0_tape : (Nat → Int32)} {o_u_h0_at : Int32} {o_r : Int32} (h : S_M_here h0_size h0_at f_h0_tape o_u_h0_at o_r) {B : Int → Int} (c : rTB f_h0_tape h0_size B) : isSk B h0_at.toInt o_u_h0_at.toInt ∧ o_r.toInt = B o_u_h0_at.toInt := by
  rcases h with ⟨v49, r81, r90, r96, p0, p1, p2, p3, p4, p5, p6, p7, p8, p9, p10, p11, p12, e0, e1⟩ | h
  · have k0 := i_here p0 c
    have k4 := m_byteAt p4 c
    have k8 := m_byteAt p8 c
    have k12 := m_byteAt p12 c
    refine ⟨?_, ?_⟩
    · rw [e0]; exact ⟨k0.1, k0.2, by omega⟩
    · rw [e1, k12]; exact congrArg B e0.symm
  · exact h.elim
theorem i_mword {f_h0_tape : (Nat → Int32)} {h0_size : Int32} {v8 : Int32} {v76 : Int32} (h : I_M_word_68_1 f_h0_tape h0_size v8 v76) {B : Int → Int} (c : rTB f_h0_tape h0_size B) : v8.toInt ≤ v76.toInt ∧ ∀ p, v8.toInt ≤ p → p < v76.toInt → (97 ≤ B p ∧ B p ≤ 122) := by
  refine I_M_word_68_1.ind (Q_ := fun v76 => v8.toInt ≤ v76.toInt ∧ ∀ p, v8.toInt ≤ p → p < v76.toInt → (97 ≤ B p ∧ B p ≤ 122)) ?_ ?_ h
  · exact ⟨Int.le_refl _, fun p h1 h2 => absurd h2 (by omega)⟩
  · intro v76 r98 z106 hp ih p0 p1 p2 p3 p4
    have k2 := m_isSmall p2 c
    refine ⟨by omega, fun p h1 h2 => ?_⟩
    by_cases e : p = v76.toInt
    · subst e; omega
    · exact ih.2 p h1 (by omega)
theorem m_word {h0_size : Int32} {h0_at : Int32} {h0_from : Int32} {h0_wrong : Int32} {h0_wrongAt : Int32} {f_h0_tape : (Nat → Int32)} {o_u_h0_at : Int32} {o_u_h0_from : Int32} {o_u_h0_wrong : Int32} {o_u_h0_wrongAt : Int32} (h : S_M_word h0_size h0_at h0_from h0_wrong h0_wrongAt f_h0_tape o_u_h0_at o_u_h0_from o_u_h0_wrong o_u_h0_wrongAt) {B : Int → Int} (c : rTB f_h0_tape h0_size B) : (¬ h0_wrong.toInt = 0 ∧ o_u_h0_at.toInt = h0_at.toInt ∧ o_u_h0_from.toInt = h0_from.toInt ∧ o_u_h0_wrong.toInt = h0_wrong.toInt ∧ o_u_h0_wrongAt.toInt = h0_wrongAt.toInt) ∨ (h0_wrong.toInt = 0 ∧ isSk B h0_at.toInt o_u_h0_from.toInt ∧ ((¬ (97 ≤ B o_u_h0_from.toInt ∧ B o_u_h0_from.toInt ≤ 122) ∧ o_u_h0_wrong.toInt = 1 ∧ o_u_h0_wrongAt.toInt = o_u_h0_from.toInt) ∨ ((97 ≤ B o_u_h0_from.toInt ∧ B o_u_h0_from.toInt ≤ 122) ∧ ((97 ≤ B (o_u_h0_from.toInt - 1) ∧ B (o_u_h0_from.toInt - 1) ≤ 122) ∨ (48 ≤ B (o_u_h0_from.toInt - 1) ∧ B (o_u_h0_from.toInt - 1) ≤ 57)) ∧ o_u_h0_wrong.toInt = 1 ∧ o_u_h0_wrongAt.toInt = o_u_h0_from.toInt) ∨ ((97 ≤ B o_u_h0_from.toInt ∧ B o_u_h0_from.toInt ≤ 122) ∧ ¬ ((97 ≤ B (o_u_h0_from.toInt - 1) ∧ B (o_u_h0_from.toInt - 1) ≤ 122) ∨ (48 ≤ B (o_u_h0_from.toInt - 1) ∧ B (o_u_h0_from.toInt - 1) ≤ 57)) ∧ isWd B o_u_h0_from.toInt o_u_h0_at.toInt ∧ o_u_h0_wrong.toInt = 0 ∧ o_u_h0_wrongAt.toInt = h0_wrongAt.toInt))) := by
  rcases h with ⟨r1, v8, r6, r14, v22, v23, p0, p1, p2, p3, p4, p5, p6, p7, p8, p9, p10, p11, p12, p13, p14, p15, e0, e1, e2, e3⟩ | ⟨r1, v8, r6, r14, z27, r30, v39, v40, p0, p1, p2, p3, p4, p5, p6, p7, p8, p9, p10, p11, p12, p13, p14, p15, p16, p17, p18, p19, p20, e0, e1, e2, e3⟩ | ⟨r1, v8, r6, r14, z27, r30, z44, r47, v76, r98, p0, p1, p2, p3, p4, p5, p6, p7, p8, p9, p10, p11, p12, p13, p14, p15, p16, p17, p18, p19, p20, p21, p22, p23, p24, p25, p26, p27, p28, e0, e1, e2, e3⟩ | ⟨r1, v8, r6, r14, z27, r30, z44, r47, v111, v112, p0, p1, p2, p3, p4, p5, p6, p7, p8, p9, p10, p11, p12, p13, p14, p15, p16, p17, p18, p19, p20, p21, p22, p23, p24, p25, e0, e1, e2, e3⟩ | ⟨r1, p0, p1, p2, p3, e0, e1, e2, e3⟩ | h
  · have k2 := m_goesWell p2
    have k8 := m_here p8 c
    have k11 := m_isSmall p11 c
    have i1_ : (1 : Int32).toInt = 1 := by decide
    have k15 := m_faults p15
    have eF := xie e1
    subst eF
    refine .inr ⟨by omega, k8.1, ?_⟩
    exact .inl (by omega)
  · have k2 := m_goesWell p2
    have k8 := m_here p8 c
    have k11 := m_isSmall p11 c
    have k16 := m_isSmall p16 c
    have i1_ : (1 : Int32).toInt = 1 := by decide
    have k20 := m_faults p20
    have eF := xie e1
    subst eF
    refine .inr ⟨by omega, k8.1, ?_⟩
    have ez27 : B z27.toInt = B (o_u_h0_from.toInt - 1) := congrArg B (by omega)
    exact .inr (.inl (by omega))
  · have k2 := m_goesWell p2
    have k8 := m_here p8 c
    have k11 := m_isSmall p11 c
    have k16 := m_isSmall p16 c
    have k21 := m_isDigit p21 c
    have k23 := i_mword p23 c
    have k27 := m_isSmall p27 c
    have eF := xie e1
    subst eF
    refine .inr ⟨by omega, k8.1, ?_⟩
    have ez27 : B z27.toInt = B (o_u_h0_from.toInt - 1) := congrArg B (by omega)
    have ez44 : B z44.toInt = B (o_u_h0_from.toInt - 1) := congrArg B (by omega)
    refine .inr (.inr ⟨by omega, by omega, ?_, by omega, by omega⟩)
    rw [e0]; exact ⟨k23.1, k23.2, by omega⟩
  · have k2 := m_goesWell p2
    have k8 := m_here p8 c
    have k11 := m_isSmall p11 c
    have k16 := m_isSmall p16 c
    have k21 := m_isDigit p21 c
    have i1_ : (1 : Int32).toInt = 1 := by decide
    have k25 := m_faults p25
    have eF := xie e1
    subst eF
    refine .inr ⟨by omega, k8.1, ?_⟩
    have ez27 : B z27.toInt = B (o_u_h0_from.toInt - 1) := congrArg B (by omega)
    have ez44 : B z44.toInt = B (o_u_h0_from.toInt - 1) := congrArg B (by omega)
    exact .inr (.inl (by omega))
  · have k2 := m_goesWell p2
    exact .inl (by omega)
  · exact h.elim
