theorem j_mn1 {v1568 : Int32} {v1569 : Int32} {v1570 : Int32} {z1792 : Int32} {v1803 : Int32} {v1804 : Int32} (h : J_M_number_112_5 v1568 v1569 v1570 z1792 v1803 v1804)  : ((¬ z1792.toInt = 2 ∧ v1803.toInt = v1569.toInt ∧ v1804.toInt = v1570.toInt) ∨ (z1792.toInt = 2 ∧ ((¬ v1569.toInt = 0 ∧ v1803.toInt = v1569.toInt ∧ v1804.toInt = v1570.toInt) ∨ (v1569.toInt = 0 ∧ v1803.toInt = 1 ∧ v1804.toInt = v1568.toInt)))) := by
  rcases h with ⟨p0, e0, e1⟩ | ⟨v1828, v1829, p0, p1, p2, p3, e0, e1⟩ | h
  · have e1_ : (1 : Int32).toInt = 1 := by decide
    have e2_ : (2 : Int32).toInt = 2 := by decide
    omega
  · have i1_ : (1 : Int32).toInt = 1 := by decide
    have k3 := m_faults p3
    have e1_ : (1 : Int32).toInt = 1 := by decide
    have e2_ : (2 : Int32).toInt = 2 := by decide
    omega
  · exact h.elim
theorem j_mn2 {f_h0_tape : (Nat → Int32)} {h0_size : Int32} {r14 : Int32} {v8 : Int32}  (h : J_M_number_59_1 f_h0_tape h0_size r14 v8) {B : Int → Int} (c : rTB f_h0_tape h0_size B) : r14.toInt = 0 ∨ ((97 ≤ B (v8.toInt - 1) ∧ B (v8.toInt - 1) ≤ 122) ∨ (48 ≤ B (v8.toInt - 1) ∧ B (v8.toInt - 1) ≤ 57)) := by
  rcases h with p0 | ⟨z922, r925, p0, p1, p2, p3, p4, p5⟩ | ⟨z922, r925, z931, r934, p0, p1, p2, p3, p4, p5, p6, p7, p8, p9, p10⟩ | h
  · omega
  · have k4 := m_isSmall p4 c
    have ez922 : B z922.toInt = B (v8.toInt - 1) := congrArg B (by omega)
    omega
  · have k4 := m_isSmall p4 c
    have k9 := m_isDigit p9 c
    have ez922 : B z922.toInt = B (v8.toInt - 1) := congrArg B (by omega)
    have ez931 : B z931.toInt = B (v8.toInt - 1) := congrArg B (by omega)
    omega
  · exact h.elim
theorem j_mn3 {r1701 : Int32} {v1569 : Int32}  (h : J_M_number_142_3 r1701 v1569)  : r1701.toInt = 0 ∨ ¬ v1569.toInt = 0 := by
  rcases h with p0 | ⟨r1787, p0, p1, p2, p3, p4⟩ | h
  · omega
  · have k3 := m_goesWell p3
    omega
  · exact h.elim
theorem j_mn4 {r1752 : Int32} {v1569 : Int32} {v1570 : Int32} {v8 : Int32} {v1765 : Int32} {v1766 : Int32} (h : J_M_number_160_4 r1752 v1569 v1570 v8 v1765 v1766)  : ((¬ r1752.toInt = 0 ∧ v1765.toInt = v1569.toInt ∧ v1766.toInt = v1570.toInt) ∨ (r1752.toInt = 0 ∧ ((¬ v1569.toInt = 0 ∧ v1765.toInt = v1569.toInt ∧ v1766.toInt = v1570.toInt) ∨ (v1569.toInt = 0 ∧ v1765.toInt = 2 ∧ v1766.toInt = v8.toInt)))) := by
  rcases h with ⟨p0, e0, e1⟩ | ⟨v1781, v1782, p0, p1, p2, p3, e0, e1⟩ | h
  · have e1_ : (1 : Int32).toInt = 1 := by decide
    have e2_ : (2 : Int32).toInt = 2 := by decide
    omega
  · have i2_ : (2 : Int32).toInt = 2 := by decide
    have k3 := m_faults p3
    have e1_ : (1 : Int32).toInt = 1 := by decide
    have e2_ : (2 : Int32).toInt = 2 := by decide
    omega
  · exact h.elim
theorem i_mnum {f_h0_tape : (Nat → Int32)} {h0_size : Int32} {h0_wrong : Int32} {h0_wrongAt : Int32} {v8 : Int32} {v1567 : Int32} {v1568 : Int32} {v1569 : Int32} {v1570 : Int32} (h : I_M_number_72_2 f_h0_tape h0_size h0_wrong h0_wrongAt v8 v1567 v1568 v1569 v1570) {B : Int → Int} (c : rTB f_h0_tape h0_size B) (hw : h0_wrong.toInt = 0) : ((v1568.toInt = v8.toInt ∧ v1567.toInt = 0 ∧ v1569.toInt = 0 ∧ v1570.toInt = h0_wrongAt.toInt) ∨ (v1568.toInt = v8.toInt + 1 ∧ (48 ≤ B v8.toInt ∧ B v8.toInt ≤ 57) ∧ v1567.toInt = B v8.toInt - 48 ∧ v1569.toInt = 0 ∧ v1570.toInt = h0_wrongAt.toInt) ∨ (v1568.toInt = v8.toInt + 2 ∧ (48 ≤ B v8.toInt ∧ B v8.toInt ≤ 57) ∧ (48 ≤ B (v8.toInt + 1) ∧ B (v8.toInt + 1) ≤ 57) ∧ v1567.toInt = 10 * (B v8.toInt - 48) + (B (v8.toInt + 1) - 48) ∧ v1569.toInt = 0 ∧ v1570.toInt = h0_wrongAt.toInt) ∨ ((48 ≤ B v8.toInt ∧ B v8.toInt ≤ 57) ∧ (48 ≤ B (v8.toInt + 1) ∧ B (v8.toInt + 1) ≤ 57) ∧ (48 ≤ B (v8.toInt + 2) ∧ B (v8.toInt + 2) ≤ 57) ∧ v1569.toInt = 1 ∧ v1570.toInt = v8.toInt + 2)) := by
  refine I_M_number_72_2.ind (Q_ := fun v1567 v1568 v1569 v1570 => ((v1568.toInt = v8.toInt ∧ v1567.toInt = 0 ∧ v1569.toInt = 0 ∧ v1570.toInt = h0_wrongAt.toInt) ∨ (v1568.toInt = v8.toInt + 1 ∧ (48 ≤ B v8.toInt ∧ B v8.toInt ≤ 57) ∧ v1567.toInt = B v8.toInt - 48 ∧ v1569.toInt = 0 ∧ v1570.toInt = h0_wrongAt.toInt) ∨ (v1568.toInt = v8.toInt + 2 ∧ (48 ≤ B v8.toInt ∧ B v8.toInt ≤ 57) ∧ (48 ≤ B (v8.toInt + 1) ∧ B (v8.toInt + 1) ≤ 57) ∧ v1567.toInt = 10 * (B v8.toInt - 48) + (B (v8.toInt + 1) - 48) ∧ v1569.toInt = 0 ∧ v1570.toInt = h0_wrongAt.toInt) ∨ ((48 ≤ B v8.toInt ∧ B v8.toInt ≤ 57) ∧ (48 ≤ B (v8.toInt + 1) ∧ B (v8.toInt + 1) ≤ 57) ∧ (48 ≤ B (v8.toInt + 2) ∧ B (v8.toInt + 2) ≤ 57) ∧ v1569.toInt = 1 ∧ v1570.toInt = v8.toInt + 2))) ?_ ?_ h
  · have e0_ : (0 : Int32).toInt = 0 := by decide
    exact .inl ⟨rfl, e0_, hw, rfl⟩
  · intro v1567 v1568 v1569 v1570 r1701 r1787 z1792 v1803 v1804 z1810 r1812 z1817 z1819 z1822 hp ih p0 p1 p2 p3 p4 p5 p6 p7 p8 p9 p10 p11 p12 p13 p14 p15 p16 p17 p18
    have k2 := m_isDigit p2 c
    have k6 := m_goesWell p6
    have k9 := j_mn1 p9
    have k14 := m_byteAt p14 c
    have dg := b11 k2 p3
    have wz := b11 k6 p7
    have bb := k14
    clear k2 k6 k14 p1 p5 p13 p17
    rcases ih with ⟨i1, i2, i3, i4⟩ | ⟨i1, i2, i3, i4, i5⟩ | ⟨i1, i2, i3, i4, i5, i6⟩ | ⟨i1, i2, i3, i4, i5⟩
    · skip
      have ww : v1803.toInt = v1569.toInt ∧ v1804.toInt = v1570.toInt := by
        rcases k9 with ⟨_, h1, h2⟩ | ⟨h0, _⟩
        · exact ⟨h1, h2⟩
        · exfalso; clear dg; omega
      clear k9
      have eB : B v1568.toInt = B (v8.toInt) := congrArg B i1
      rw [eB] at dg bb
      have q1 := zm p11 (show (10 : Int32).toInt = 10 by decide) (rfl : v1567.toInt = _) (by omega)
      have q2 := za p15 q1 rfl (by omega)
      have q3 := zs p16 q2 (show (48 : Int32).toInt = 48 by decide) (by omega)
      exact .inr (.inl ⟨by omega, dg, by omega, by omega, by omega⟩)
    · skip
      have ww : v1803.toInt = v1569.toInt ∧ v1804.toInt = v1570.toInt := by
        rcases k9 with ⟨_, h1, h2⟩ | ⟨h0, _⟩
        · exact ⟨h1, h2⟩
        · exfalso; clear dg; omega
      clear k9
      have eB : B v1568.toInt = B (v8.toInt + 1) := congrArg B i1
      rw [eB] at dg bb
      have q1 := zm p11 (show (10 : Int32).toInt = 10 by decide) (rfl : v1567.toInt = _) (by omega)
      have q2 := za p15 q1 rfl (by omega)
      have q3 := zs p16 q2 (show (48 : Int32).toInt = 48 by decide) (by omega)
      exact .inr (.inr (.inl ⟨by omega, i2, dg, by omega, by omega, by omega⟩))
    · skip
      have eB : B v1568.toInt = B (v8.toInt + 2) := congrArg B i1
      rw [eB] at dg bb
      refine .inr (.inr (.inr ⟨i2, i3, dg, ?_⟩))
      rcases k9 with ⟨h0, _⟩ | ⟨_, ⟨h1, _⟩ | ⟨_, h2, h3⟩⟩
      · exfalso; clear dg i2 i3; omega
      · exact absurd wz h1
      · exact ⟨h2.trans (by decide), by omega⟩
    · exact absurd (i4.symm.trans wz) (by decide)
theorem mnum_q {f v w wa ri W2 WA2 r x1 x2 WA : Int} (kn : (ri = 1 ∧ x1 ≤ v ∧ v ≤ x2) ∨ (ri = 0 ∧ ¬ (x1 ≤ v ∧ v ≤ x2))) (kf : (¬ ri = 0 ∧ W2 = w ∧ WA2 = wa) ∨ (ri = 0 ∧ ((¬ w = 0 ∧ W2 = w ∧ WA2 = wa) ∨ (w = 0 ∧ W2 = 2 ∧ WA2 = f)))) (kr : (W2 = 0 ∧ r = v) ∨ (¬ W2 = 0 ∧ r = 0)) (hw : w = 0) (hwa : wa = WA) : (x1 ≤ v ∧ v ≤ x2 ∧ W2 = 0 ∧ WA2 = WA ∧ r = v) ∨ (¬ (x1 ≤ v ∧ v ≤ x2) ∧ W2 = 2 ∧ WA2 = f) := by
  subst hw hwa
  rcases kn with ⟨n1, n2, n3⟩ | ⟨n1, n2⟩
  · rcases kf with ⟨f1, f2, f3⟩ | ⟨f1, _⟩
    · rcases kr with ⟨q1, q2⟩ | ⟨q1, q2⟩
      · exact .inl ⟨n2, n3, f2, f3, q2⟩
      · exact absurd f2 q1
    · omega
  · rcases kf with ⟨f1, _⟩ | ⟨_, ⟨f1, _⟩ | ⟨_, f2, f3⟩⟩
    · exact absurd n1 f1
    · exact absurd rfl f1
    · exact .inr ⟨n2, f2, f3⟩
theorem mnum_p {f a v w wa rd ri W2 WA2 r x1 x2 WA b0 b1 b2 ba : Int} (ki : (a = f ∧ v = 0 ∧ w = 0 ∧ wa = WA ∧ ba = b0) ∨ (a = f + 1 ∧ (48 ≤ b0 ∧ b0 ≤ 57) ∧ v = b0 - 48 ∧ w = 0 ∧ wa = WA ∧ ba = b1) ∨ (a = f + 2 ∧ (48 ≤ b0 ∧ b0 ≤ 57) ∧ (48 ≤ b1 ∧ b1 ≤ 57) ∧ v = 10 * (b0 - 48) + (b1 - 48) ∧ w = 0 ∧ wa = WA ∧ ba = b2) ∨ ((48 ≤ b0 ∧ b0 ≤ 57) ∧ (48 ≤ b1 ∧ b1 ≤ 57) ∧ (48 ≤ b2 ∧ b2 ≤ 57) ∧ w = 1 ∧ wa = f + 2)) (kd : (rd = 1 ∧ (48 ≤ ba ∧ ba ≤ 57)) ∨ (rd = 0 ∧ ¬ (48 ≤ ba ∧ ba ≤ 57))) (kx : rd = 0 ∨ ¬ w = 0) (kn : (ri = 1 ∧ x1 ≤ v ∧ v ≤ x2) ∨ (ri = 0 ∧ ¬ (x1 ≤ v ∧ v ≤ x2))) (kf : (¬ ri = 0 ∧ W2 = w ∧ WA2 = wa) ∨ (ri = 0 ∧ ((¬ w = 0 ∧ W2 = w ∧ WA2 = wa) ∨ (w = 0 ∧ W2 = 2 ∧ WA2 = f)))) (kr : (W2 = 0 ∧ r = v) ∨ (¬ W2 = 0 ∧ r = 0)) (k0 : (48 ≤ b0 ∧ b0 ≤ 57)) : ((48 ≤ b0 ∧ b0 ≤ 57) ∧ (48 ≤ b1 ∧ b1 ≤ 57) ∧ (48 ≤ b2 ∧ b2 ≤ 57) ∧ W2 = 1 ∧ WA2 = f + 2) ∨ ((48 ≤ b0 ∧ b0 ≤ 57) ∧ ¬ (48 ≤ b1 ∧ b1 ≤ 57) ∧ a = f + 1 ∧ ((x1 ≤ (b0 - 48) ∧ (b0 - 48) ≤ x2 ∧ W2 = 0 ∧ WA2 = WA ∧ r = (b0 - 48)) ∨ (¬ (x1 ≤ (b0 - 48) ∧ (b0 - 48) ≤ x2) ∧ W2 = 2 ∧ WA2 = f))) ∨ ((48 ≤ b0 ∧ b0 ≤ 57) ∧ (48 ≤ b1 ∧ b1 ≤ 57) ∧ ¬ (48 ≤ b2 ∧ b2 ≤ 57) ∧ a = f + 2 ∧ ((x1 ≤ (10 * (b0 - 48) + (b1 - 48)) ∧ (10 * (b0 - 48) + (b1 - 48)) ≤ x2 ∧ W2 = 0 ∧ WA2 = WA ∧ r = (10 * (b0 - 48) + (b1 - 48))) ∨ (¬ (x1 ≤ (10 * (b0 - 48) + (b1 - 48)) ∧ (10 * (b0 - 48) + (b1 - 48)) ≤ x2) ∧ W2 = 2 ∧ WA2 = f))) := by
  have nd : w = 0 → ¬ (48 ≤ ba ∧ ba ≤ 57) := fun q => by
    rcases kx with z | z
    · rcases kd with ⟨d1, _⟩ | ⟨_, d2⟩
      · rw [d1] at z; exact absurd z (by decide)
      · exact d2
    · exact absurd q z
  rcases ki with ⟨i1, i2, i3, i4, i5⟩ | ⟨i1, i2, i3, i4, i5, i6⟩ | ⟨i1, i2, i3, i4, i5, i6, i7⟩ | ⟨i1, i2, i3, i4, i5⟩
  · exact absurd k0 (i5 ▸ nd i3)
  · have q := mnum_q kn kf kr i4 i5
    subst i3 i6
    exact .inr (.inl ⟨k0, nd i4, i1, q⟩)
  · have q := mnum_q kn kf kr i5 i6
    subst i4 i7
    exact .inr (.inr ⟨k0, i3, nd i5, i1, q⟩)
  · refine .inl ⟨i1, i2, i3, ?_⟩
    subst i4 i5
    rcases kf with ⟨_, f2, f3⟩ | ⟨_, ⟨_, f2, f3⟩ | ⟨f1, _⟩⟩
    · exact ⟨f2, f3⟩
    · exact ⟨f2, f3⟩
    · exact absurd f1 (by decide)
theorem m_num {x1 : Int32} {x2 : Int32} {h0_size : Int32} {h0_at : Int32} {h0_from : Int32} {h0_wrong : Int32} {h0_wrongAt : Int32} {f_h0_tape : (Nat → Int32)} {o_u_h0_at : Int32} {o_u_h0_from : Int32} {o_u_h0_wrong : Int32} {o_u_h0_wrongAt : Int32} {o_r : Int32} (h : S_M_number x1 x2 h0_size h0_at h0_from h0_wrong h0_wrongAt f_h0_tape o_u_h0_at o_u_h0_from o_u_h0_wrong o_u_h0_wrongAt o_r) {B : Int → Int} (c : rTB f_h0_tape h0_size B) : (¬ h0_wrong.toInt = 0 ∧ o_u_h0_at.toInt = h0_at.toInt ∧ o_u_h0_from.toInt = h0_from.toInt ∧ o_u_h0_wrong.toInt = h0_wrong.toInt ∧ o_u_h0_wrongAt.toInt = h0_wrongAt.toInt) ∧ o_r.toInt = 0 ∨ (h0_wrong.toInt = 0 ∧ isSk B h0_at.toInt o_u_h0_from.toInt ∧ ((¬ (48 ≤ B o_u_h0_from.toInt ∧ B o_u_h0_from.toInt ≤ 57) ∧ o_u_h0_wrong.toInt = 1 ∧ o_u_h0_wrongAt.toInt = o_u_h0_from.toInt) ∨ ((48 ≤ B o_u_h0_from.toInt ∧ B o_u_h0_from.toInt ≤ 57) ∧ ((97 ≤ B (o_u_h0_from.toInt - 1) ∧ B (o_u_h0_from.toInt - 1) ≤ 122) ∨ (48 ≤ B (o_u_h0_from.toInt - 1) ∧ B (o_u_h0_from.toInt - 1) ≤ 57)) ∧ o_u_h0_wrong.toInt = 1 ∧ o_u_h0_wrongAt.toInt = o_u_h0_from.toInt) ∨ ((48 ≤ B o_u_h0_from.toInt ∧ B o_u_h0_from.toInt ≤ 57) ∧ ¬ ((97 ≤ B (o_u_h0_from.toInt - 1) ∧ B (o_u_h0_from.toInt - 1) ≤ 122) ∨ (48 ≤ B (o_u_h0_from.toInt - 1) ∧ B (o_u_h0_from.toInt - 1) ≤ 57)) ∧ (48 ≤ B (o_u_h0_from.toInt + 1) ∧ B (o_u_h0_from.toInt + 1) ≤ 57) ∧ (48 ≤ B (o_u_h0_from.toInt + 2) ∧ B (o_u_h0_from.toInt + 2) ≤ 57) ∧ o_u_h0_wrong.toInt = 1 ∧ o_u_h0_wrongAt.toInt = o_u_h0_from.toInt + 2) ∨ ((48 ≤ B o_u_h0_from.toInt ∧ B o_u_h0_from.toInt ≤ 57) ∧ ¬ ((97 ≤ B (o_u_h0_from.toInt - 1) ∧ B (o_u_h0_from.toInt - 1) ≤ 122) ∨ (48 ≤ B (o_u_h0_from.toInt - 1) ∧ B (o_u_h0_from.toInt - 1) ≤ 57)) ∧ ¬ (48 ≤ B (o_u_h0_from.toInt + 1) ∧ B (o_u_h0_from.toInt + 1) ≤ 57) ∧ o_u_h0_at.toInt = o_u_h0_from.toInt + 1 ∧ ((x1.toInt ≤ (B o_u_h0_from.toInt - 48) ∧ (B o_u_h0_from.toInt - 48) ≤ x2.toInt ∧ o_u_h0_wrong.toInt = 0 ∧ o_u_h0_wrongAt.toInt = h0_wrongAt.toInt ∧ o_r.toInt = (B o_u_h0_from.toInt - 48)) ∨ (¬ (x1.toInt ≤ (B o_u_h0_from.toInt - 48) ∧ (B o_u_h0_from.toInt - 48) ≤ x2.toInt) ∧ o_u_h0_wrong.toInt = 2 ∧ o_u_h0_wrongAt.toInt = o_u_h0_from.toInt))) ∨ ((48 ≤ B o_u_h0_from.toInt ∧ B o_u_h0_from.toInt ≤ 57) ∧ ¬ ((97 ≤ B (o_u_h0_from.toInt - 1) ∧ B (o_u_h0_from.toInt - 1) ≤ 122) ∨ (48 ≤ B (o_u_h0_from.toInt - 1) ∧ B (o_u_h0_from.toInt - 1) ≤ 57)) ∧ (48 ≤ B (o_u_h0_from.toInt + 1) ∧ B (o_u_h0_from.toInt + 1) ≤ 57) ∧ ¬ (48 ≤ B (o_u_h0_from.toInt + 2) ∧ B (o_u_h0_from.toInt + 2) ≤ 57) ∧ o_u_h0_at.toInt = o_u_h0_from.toInt + 2 ∧ ((x1.toInt ≤ (10 * (B o_u_h0_from.toInt - 48) + (B (o_u_h0_from.toInt + 1) - 48)) ∧ (10 * (B o_u_h0_from.toInt - 48) + (B (o_u_h0_from.toInt + 1) - 48)) ≤ x2.toInt ∧ o_u_h0_wrong.toInt = 0 ∧ o_u_h0_wrongAt.toInt = h0_wrongAt.toInt ∧ o_r.toInt = (10 * (B o_u_h0_from.toInt - 48) + (B (o_u_h0_from.toInt + 1) - 48))) ∨ (¬ (x1.toInt ≤ (10 * (B o_u_h0_from.toInt - 48) + (B (o_u_h0_from.toInt + 1) - 48)) ∧ (10 * (B o_u_h0_from.toInt - 48) + (B (o_u_h0_from.toInt + 1) - 48)) ≤ x2.toInt) ∧ o_u_h0_wrong.toInt = 2 ∧ o_u_h0_wrongAt.toInt = o_u_h0_from.toInt))))) := by
  rcases h with ⟨r1, v8, r6, r14, v916, v917, p0, p1, p2, p3, p4, p5, p6, p7, p8, p9, p10, p11, p12, p13, p14, p15, e0, e1, e2, e3, e4⟩ | ⟨r1, v8, r6, r14, z922, r925, z931, r934, v1567, v1568, v1569, v1570, r1701, r1752, v1765, v1766, r1773, p0, p1, p2, p3, p4, p5, p6, p7, p8, p9, p10, p11, p12, p13, p14, p15, p16, p17, p18, p19, p20, p21, p22, p23, p24, p25, p26, p27, p28, p29, p30, p31, p32, p33, p34, p35, p36, p37, p38, e0, e1, e2, e3, e4⟩ | ⟨r1, v8, r6, r14, z922, r925, z931, r934, v1567, v1568, v1569, v1570, r1701, r1752, v1765, v1766, r1773, p0, p1, p2, p3, p4, p5, p6, p7, p8, p9, p10, p11, p12, p13, p14, p15, p16, p17, p18, p19, p20, p21, p22, p23, p24, p25, p26, p27, p28, p29, p30, p31, p32, p33, p34, p35, p36, p37, p38, e0, e1, e2, e3, e4⟩ | ⟨r1, p0, p1, p2, p3, e0, e1, e2, e3, e4⟩ | h
  · have k2 := m_goesWell p2
    have k8 := m_here p8 c
    have k11 := m_isDigit p11 c
    have k12 := j_mn2 p12 c
    have i1_ : (1 : Int32).toInt = 1 := by decide
    have k15 := m_faults p15
    have eF := xie e1
    subst eF
    have w0 : h0_wrong.toInt = 0 := b11 k2 p3
    have w3 := k15.resolve_left (fun q => q.1 w0)
    have w2 : o_u_h0_wrong.toInt = 1 ∧ o_u_h0_wrongAt.toInt = o_u_h0_from.toInt := ⟨e2.trans (w3.2.1.trans i1_), e3.trans w3.2.2⟩
    rcases k11 with ⟨q1, q2⟩ | ⟨q1, q2⟩
    · rcases k12 with q3 | q3
      · exact absurd (q3.symm.trans q1) (by decide)
      · exact .inr ⟨w0, k8.1, .inr (.inl ⟨q2, q3, w2.1, w2.2⟩)⟩
    · exact .inr ⟨w0, k8.1, .inl ⟨q2, w2.1, w2.2⟩⟩
  · have k2 := m_goesWell p2
    have k8 := m_here p8 c
    have k11 := m_isDigit p11 c
    have k16 := m_isSmall p16 c
    have k21 := m_isDigit p21 c
    have k28 := m_isDigit p28 c
    have k29 := j_mn3 p29
    have k31 := m_isIn p31
    have k32 := j_mn4 p32
    have k37 := m_goesWell p37
    have eF := xie e1
    subst eF
    have ez922 : B z922.toInt = B (o_u_h0_from.toInt - 1) := congrArg B p13
    have ez931 : B z931.toInt = B (o_u_h0_from.toInt - 1) := congrArg B p18
    have w0 : h0_wrong.toInt = 0 := b11 k2 p3
    have n1 := b10 k16 p17
    rw [ez922] at n1
    have n2 := b10 k21 p22
    rw [ez931] at n2
    have nal : ¬ ((97 ≤ B (o_u_h0_from.toInt - 1) ∧ B (o_u_h0_from.toInt - 1) ≤ 122) ∨ (48 ≤ B (o_u_h0_from.toInt - 1) ∧ B (o_u_h0_from.toInt - 1) ≤ 57)) := fun q => q.elim n1 n2
    have kd0 : (48 ≤ B o_u_h0_from.toInt ∧ B o_u_h0_from.toInt ≤ 57) := b11 k11 p12
    have ki := i_mnum p23 c w0
    have kr : (o_u_h0_wrong.toInt = 0 ∧ o_r.toInt = v1567.toInt) ∨ (¬ o_u_h0_wrong.toInt = 0 ∧ o_r.toInt = 0) := .inr ⟨fun q => b10 k37 p38 (e2.symm.trans q), e4⟩
    have ki2 : (v1568.toInt = o_u_h0_from.toInt ∧ v1567.toInt = 0 ∧ v1569.toInt = 0 ∧ v1570.toInt = h0_wrongAt.toInt ∧ B v1568.toInt = B o_u_h0_from.toInt) ∨ (v1568.toInt = o_u_h0_from.toInt + 1 ∧ (48 ≤ B o_u_h0_from.toInt ∧ B o_u_h0_from.toInt ≤ 57) ∧ v1567.toInt = B o_u_h0_from.toInt - 48 ∧ v1569.toInt = 0 ∧ v1570.toInt = h0_wrongAt.toInt ∧ B v1568.toInt = B (o_u_h0_from.toInt + 1)) ∨ (v1568.toInt = o_u_h0_from.toInt + 2 ∧ (48 ≤ B o_u_h0_from.toInt ∧ B o_u_h0_from.toInt ≤ 57) ∧ (48 ≤ B (o_u_h0_from.toInt + 1) ∧ B (o_u_h0_from.toInt + 1) ≤ 57) ∧ v1567.toInt = 10 * (B o_u_h0_from.toInt - 48) + (B (o_u_h0_from.toInt + 1) - 48) ∧ v1569.toInt = 0 ∧ v1570.toInt = h0_wrongAt.toInt ∧ B v1568.toInt = B (o_u_h0_from.toInt + 2)) ∨ ((48 ≤ B o_u_h0_from.toInt ∧ B o_u_h0_from.toInt ≤ 57) ∧ (48 ≤ B (o_u_h0_from.toInt + 1) ∧ B (o_u_h0_from.toInt + 1) ≤ 57) ∧ (48 ≤ B (o_u_h0_from.toInt + 2) ∧ B (o_u_h0_from.toInt + 2) ≤ 57) ∧ v1569.toInt = 1 ∧ v1570.toInt = o_u_h0_from.toInt + 2) := by
      rcases ki with ⟨i1, i2, i3, i4⟩ | ⟨i1, i2, i3, i4, i5⟩ | ⟨i1, i2, i3, i4, i5, i6⟩ | i
      · exact .inl ⟨i1, i2, i3, i4, congrArg B i1⟩
      · exact .inr (.inl ⟨i1, i2, i3, i4, i5, congrArg B i1⟩)
      · exact .inr (.inr (.inl ⟨i1, i2, i3, i4, i5, i6, congrArg B i1⟩))
      · exact .inr (.inr (.inr i))
    rw [← e2, ← e3] at k32
    have m9 := mnum_p ki2 k28 k29 k31 k32 kr kd0
    refine .inr ⟨w0, k8.1, ?_⟩
    rw [← e0] at m9
    rcases m9 with ⟨m1, m2, m3, m4, m5⟩ | ⟨m1, m2, m3, m4⟩ | ⟨m1, m2, m3, m4, m5⟩
    · exact .inr (.inr (.inl ⟨m1, nal, m2, m3, m4, m5⟩))
    · exact .inr (.inr (.inr (.inl ⟨m1, nal, m2, m3, m4⟩)))
    · exact .inr (.inr (.inr (.inr ⟨m1, nal, m2, m3, m4, m5⟩)))
  · have k2 := m_goesWell p2
    have k8 := m_here p8 c
    have k11 := m_isDigit p11 c
    have k16 := m_isSmall p16 c
    have k21 := m_isDigit p21 c
    have k28 := m_isDigit p28 c
    have k29 := j_mn3 p29
    have k31 := m_isIn p31
    have k32 := j_mn4 p32
    have k37 := m_goesWell p37
    have eF := xie e1
    subst eF
    have ez922 : B z922.toInt = B (o_u_h0_from.toInt - 1) := congrArg B p13
    have ez931 : B z931.toInt = B (o_u_h0_from.toInt - 1) := congrArg B p18
    have w0 : h0_wrong.toInt = 0 := b11 k2 p3
    have n1 := b10 k16 p17
    rw [ez922] at n1
    have n2 := b10 k21 p22
    rw [ez931] at n2
    have nal : ¬ ((97 ≤ B (o_u_h0_from.toInt - 1) ∧ B (o_u_h0_from.toInt - 1) ≤ 122) ∨ (48 ≤ B (o_u_h0_from.toInt - 1) ∧ B (o_u_h0_from.toInt - 1) ≤ 57)) := fun q => q.elim n1 n2
    have kd0 : (48 ≤ B o_u_h0_from.toInt ∧ B o_u_h0_from.toInt ≤ 57) := b11 k11 p12
    have ki := i_mnum p23 c w0
    have kr : (o_u_h0_wrong.toInt = 0 ∧ o_r.toInt = v1567.toInt) ∨ (¬ o_u_h0_wrong.toInt = 0 ∧ o_r.toInt = 0) := .inl ⟨e2.trans (b11 k37 p38), e4⟩
    have ki2 : (v1568.toInt = o_u_h0_from.toInt ∧ v1567.toInt = 0 ∧ v1569.toInt = 0 ∧ v1570.toInt = h0_wrongAt.toInt ∧ B v1568.toInt = B o_u_h0_from.toInt) ∨ (v1568.toInt = o_u_h0_from.toInt + 1 ∧ (48 ≤ B o_u_h0_from.toInt ∧ B o_u_h0_from.toInt ≤ 57) ∧ v1567.toInt = B o_u_h0_from.toInt - 48 ∧ v1569.toInt = 0 ∧ v1570.toInt = h0_wrongAt.toInt ∧ B v1568.toInt = B (o_u_h0_from.toInt + 1)) ∨ (v1568.toInt = o_u_h0_from.toInt + 2 ∧ (48 ≤ B o_u_h0_from.toInt ∧ B o_u_h0_from.toInt ≤ 57) ∧ (48 ≤ B (o_u_h0_from.toInt + 1) ∧ B (o_u_h0_from.toInt + 1) ≤ 57) ∧ v1567.toInt = 10 * (B o_u_h0_from.toInt - 48) + (B (o_u_h0_from.toInt + 1) - 48) ∧ v1569.toInt = 0 ∧ v1570.toInt = h0_wrongAt.toInt ∧ B v1568.toInt = B (o_u_h0_from.toInt + 2)) ∨ ((48 ≤ B o_u_h0_from.toInt ∧ B o_u_h0_from.toInt ≤ 57) ∧ (48 ≤ B (o_u_h0_from.toInt + 1) ∧ B (o_u_h0_from.toInt + 1) ≤ 57) ∧ (48 ≤ B (o_u_h0_from.toInt + 2) ∧ B (o_u_h0_from.toInt + 2) ≤ 57) ∧ v1569.toInt = 1 ∧ v1570.toInt = o_u_h0_from.toInt + 2) := by
      rcases ki with ⟨i1, i2, i3, i4⟩ | ⟨i1, i2, i3, i4, i5⟩ | ⟨i1, i2, i3, i4, i5, i6⟩ | i
      · exact .inl ⟨i1, i2, i3, i4, congrArg B i1⟩
      · exact .inr (.inl ⟨i1, i2, i3, i4, i5, congrArg B i1⟩)
      · exact .inr (.inr (.inl ⟨i1, i2, i3, i4, i5, i6, congrArg B i1⟩))
      · exact .inr (.inr (.inr i))
    rw [← e2, ← e3] at k32
    have m9 := mnum_p ki2 k28 k29 k31 k32 kr kd0
    refine .inr ⟨w0, k8.1, ?_⟩
    rw [← e0] at m9
    rcases m9 with ⟨m1, m2, m3, m4, m5⟩ | ⟨m1, m2, m3, m4⟩ | ⟨m1, m2, m3, m4, m5⟩
    · exact .inr (.inr (.inl ⟨m1, nal, m2, m3, m4, m5⟩))
    · exact .inr (.inr (.inr (.inl ⟨m1, nal, m2, m3, m4⟩)))
    · exact .inr (.inr (.inr (.inr ⟨m1, nal, m2, m3, m4, m5⟩)))
  · have k2 := m_goesWell p2
    exact .inl (by omega)
  · exact h.elim
