theorem j_cw1 {r13 : Int32} {z5 : Int32} {v16 : Int32} (h : J_R_checkWidth_52_1 r13 z5 v16)  : ((v16.toInt = 1 ∧ z5.toInt ≤ r13.toInt) ∨ (v16.toInt = 0 ∧ r13.toInt < z5.toInt)) := by
  rcases h with ⟨p0, e0⟩ | ⟨p0, e0⟩ | h
  · omega
  · omega
  · exact h.elim
theorem j_cw2 {r332 : Int32} {v336 : Int32} (h : J_R_checkWidth_81_4 r332 v336)  : ((v336.toInt = 0 ∧ ¬ r332.toInt = 0) ∨ (v336.toInt = 1 ∧ r332.toInt = 0)) := by
  rcases h with ⟨p0, e0⟩ | ⟨p0, e0⟩ | h
  · omega
  · omega
  · exact h.elim
theorem j_cw3 {v263 : Int32} {v264 : Int32} {x1 : Int32}  (h : J_R_checkWidth_88_3 v263 v264 x1)  : v263.toInt = 0 ∨ x1.toInt ≤ v264.toInt := by
  rcases h with p0 | ⟨p0, p1⟩ | h
  · omega
  · omega
  · exact h.elim
theorem i_cw {f_h0_into_from : (Nat → Int32)} {f_h0_into_parent : (Nat → Int32)} {f_h0_into_side : (Nat → Int32)} {f_h0_into_width : (Nat → Int32)} {v16 : Int32} {x1 : Int32} {v263 : Int32} {v264 : Int32} (h : I_R_checkWidth_55_2 f_h0_into_from f_h0_into_parent f_h0_into_side f_h0_into_width v16 x1 v263 v264) (hb : ∀ g : Int, 1 ≤ g → g ≤ x1.toInt → 0 ≤ gG f_h0_into_from g ∧ gG f_h0_into_from g ≤ 59 ∧ 1 ≤ gG f_h0_into_width g ∧ gG f_h0_into_width g ≤ 60) (hx : 1 ≤ x1.toInt) (h16 : v16.toInt = 0 ∨ v16.toInt = 1) : 1 ≤ v264.toInt ∧ ((v263.toInt = 1 ∧ v16.toInt = 1 ∧ ∀ p : Int, 1 ≤ p → p < v264.toInt → ¬ SHR f_h0_into_parent f_h0_into_side f_h0_into_from f_h0_into_width (gG f_h0_into_parent x1.toInt) (gG f_h0_into_side x1.toInt) (gG f_h0_into_from x1.toInt) (gG f_h0_into_width x1.toInt) p) ∨ (v263.toInt = 0 ∧ (v16.toInt = 0 ∨ ∃ p : Int, 1 ≤ p ∧ p < x1.toInt ∧ SHR f_h0_into_parent f_h0_into_side f_h0_into_from f_h0_into_width (gG f_h0_into_parent x1.toInt) (gG f_h0_into_side x1.toInt) (gG f_h0_into_from x1.toInt) (gG f_h0_into_width x1.toInt) p))) := by
  refine I_R_checkWidth_55_2.ind (Q_ := fun v263 v264 => 1 ≤ v264.toInt ∧ ((v263.toInt = 1 ∧ v16.toInt = 1 ∧ ∀ p : Int, 1 ≤ p → p < v264.toInt → ¬ SHR f_h0_into_parent f_h0_into_side f_h0_into_from f_h0_into_width (gG f_h0_into_parent x1.toInt) (gG f_h0_into_side x1.toInt) (gG f_h0_into_from x1.toInt) (gG f_h0_into_width x1.toInt) p) ∨ (v263.toInt = 0 ∧ (v16.toInt = 0 ∨ ∃ p : Int, 1 ≤ p ∧ p < x1.toInt ∧ SHR f_h0_into_parent f_h0_into_side f_h0_into_from f_h0_into_width (gG f_h0_into_parent x1.toInt) (gG f_h0_into_side x1.toInt) (gG f_h0_into_from x1.toInt) (gG f_h0_into_width x1.toInt) p)))) ?_ ?_ h
  · have e1_ : (1 : Int32).toInt = 1 := by decide
    refine ⟨by omega, ?_⟩
    rcases h16 with q | q
    · exact .inr ⟨q, .inl q⟩
    · exact .inl ⟨q, q, fun p h1 h2 => absurd h2 (by omega)⟩
  · intro v263 v264 r332 v336 z341 hp ih p0 p1 p2 p3 p4 p5 p6
    have k4 := j_cw2 p4
    have k9 := c_shares p3 (hb _ hx (by omega)) (hb _ (by omega) (by omega))
    obtain ⟨ih1, ih2⟩ := ih
    rcases ih2 with ⟨i1, i2, i3⟩ | ⟨i1, i2⟩
    · refine ⟨by omega, ?_⟩
      rcases k9 with ⟨w1, w2⟩ | ⟨w1, w2⟩
      · exact .inr ⟨by omega, .inr ⟨_, ih1, by omega, w2⟩⟩
      · refine .inl ⟨by omega, i2, fun p h1 h2 => ?_⟩
        by_cases e : p = v264.toInt
        · rw [e]; exact w2
        · exact i3 p h1 (by omega)
    · exfalso; clear i2; omega
theorem c_check {x1 : Int32} {h0_tokenStart : Int32} {h0_fault : Int32} {h0_place : Int32} {f_h0_into_from : (Nat → Int32)} {f_h0_into_width : (Nat → Int32)} {f_h0_into_parent : (Nat → Int32)} {f_h0_into_side : (Nat → Int32)} {f_h0_into_height : (Nat → Int32)} {o_u_h0_fault : Int32} {o_u_h0_place : Int32} (h : S_R_checkWidth x1 h0_tokenStart h0_fault h0_place f_h0_into_from f_h0_into_width f_h0_into_parent f_h0_into_side f_h0_into_height o_u_h0_fault o_u_h0_place) (hb : ∀ g : Int, 1 ≤ g → g ≤ x1.toInt → 0 ≤ gG f_h0_into_from g ∧ gG f_h0_into_from g ≤ 59 ∧ 1 ≤ gG f_h0_into_width g ∧ gG f_h0_into_width g ≤ 60) (hx : 1 ≤ x1.toInt) : ∃ L : Int, ((((gG f_h0_into_side (gG f_h0_into_parent x1.toInt) = 0 ∨ gG f_h0_into_side (gG f_h0_into_parent x1.toInt) = 2) ↔ (gG f_h0_into_side x1.toInt = 0 ∨ gG f_h0_into_side x1.toInt = 2)) ∧ L = gG f_h0_into_width (gG f_h0_into_parent x1.toInt)) ∨ (¬ ((gG f_h0_into_side (gG f_h0_into_parent x1.toInt) = 0 ∨ gG f_h0_into_side (gG f_h0_into_parent x1.toInt) = 2) ↔ (gG f_h0_into_side x1.toInt = 0 ∨ gG f_h0_into_side x1.toInt = 2)) ∧ L = gG f_h0_into_height (gG f_h0_into_parent x1.toInt))) ∧ (((L < gG f_h0_into_from x1.toInt + gG f_h0_into_width x1.toInt ∨ ∃ p : Int, 1 ≤ p ∧ p < x1.toInt ∧ SHR f_h0_into_parent f_h0_into_side f_h0_into_from f_h0_into_width (gG f_h0_into_parent x1.toInt) (gG f_h0_into_side x1.toInt) (gG f_h0_into_from x1.toInt) (gG f_h0_into_width x1.toInt) p) ∧ ((¬ h0_fault.toInt = 0 ∧ o_u_h0_fault.toInt = h0_fault.toInt ∧ o_u_h0_place.toInt = h0_place.toInt) ∨ (h0_fault.toInt = 0 ∧ o_u_h0_fault.toInt = 4 ∧ o_u_h0_place.toInt = h0_tokenStart.toInt))) ∨ (gG f_h0_into_from x1.toInt + gG f_h0_into_width x1.toInt ≤ L ∧ (∀ p : Int, 1 ≤ p → p < x1.toInt → ¬ SHR f_h0_into_parent f_h0_into_side f_h0_into_from f_h0_into_width (gG f_h0_into_parent x1.toInt) (gG f_h0_into_side x1.toInt) (gG f_h0_into_from x1.toInt) (gG f_h0_into_width x1.toInt) p) ∧ o_u_h0_fault.toInt = h0_fault.toInt ∧ o_u_h0_place.toInt = h0_place.toInt)) := by
  rcases h with ⟨z1, z3, z5, z7, z10, r13, v16, v263, v264, p0, p1, p2, p3, p4, p5, p6, p7, p8, p9, p10, p11, p12, p13, p14, e0, e1⟩ | ⟨z1, z3, z5, z7, z10, r13, v16, v263, v264, v325, v326, p0, p1, p2, p3, p4, p5, p6, p7, p8, p9, p10, p11, p12, p13, p14, p15, p16, p17, e0, e1⟩ | h
  · have k7 := c_sideLen p7
    have k8 := j_cw1 p8
    have k13 := j_cw3 p13
    have az := za p2 rfl rfl (by have := hb _ hx (Int.le_refl _); omega)
    have ki := i_cw p10 hb hx (by omega)
    have ep : z7.toInt = gG f_h0_into_parent x1.toInt := by omega
    have es : z10.toInt = gG f_h0_into_side x1.toInt := by omega
    rw [ep, es] at k7
    have e4_ : (4 : Int32).toInt = 4 := by decide
    refine ⟨_, k7, ?_⟩
    obtain ⟨ki1, ki2⟩ := ki
    rcases ki2 with ⟨i1, i2, i3⟩ | ⟨i1, i2⟩
    · exact .inr ⟨by omega, fun p h1 h2 => i3 p h1 (by omega), by omega⟩
    · exfalso; clear i2; omega
  · have k7 := c_sideLen p7
    have k8 := j_cw1 p8
    have k13 := j_cw3 p13
    have i4_ : (4 : Int32).toInt = 4 := by decide
    have k17 := c_fail p17
    have az := za p2 rfl rfl (by have := hb _ hx (Int.le_refl _); omega)
    have ki := i_cw p10 hb hx (by omega)
    have ep : z7.toInt = gG f_h0_into_parent x1.toInt := by omega
    have es : z10.toInt = gG f_h0_into_side x1.toInt := by omega
    rw [ep, es] at k7
    have e4_ : (4 : Int32).toInt = 4 := by decide
    refine ⟨_, k7, ?_⟩
    obtain ⟨ki1, ki2⟩ := ki
    rcases ki2 with ⟨i1, i2, i3⟩ | ⟨i1, i2⟩
    · exfalso; clear i3; omega
    · rcases i2 with i2 | ⟨p, q1, q2, q3⟩
      · exact .inl ⟨.inl (by omega), by omega⟩
      · exact .inl ⟨.inr ⟨p, q1, q2, q3⟩, by omega⟩
  · exact h.elim
theorem j_mw {f_h0_read : (Nat → Int32)} {r1 : Int32} {v4 : Int32} {v739 : Int32} {v740 : Int32} {v741 : Int32} {x2 : Int32} {x3 : Int32} {z23 : Int32} {z864 : Int32} {v906 : Int32} {v907 : Int32} (h : J_M_readsWidth_150_3 f_h0_read r1 v4 v739 v740 v741 x2 x3 z23 z864 v906 v907) {X_ : Int} (hv : 1 ≤ r1.toInt ∧ r1.toInt ≤ 60 ∧ 0 ≤ z23.toInt ∧ z23.toInt ≤ 59) (hb : ∀ g : Int, 1 ≤ g → g < X_ → 0 ≤ gG f_h0_read (31 + g) ∧ gG f_h0_read (31 + g) ≤ 59 ∧ 1 ≤ gG f_h0_read (40 + g) ∧ gG f_h0_read (40 + g) ≤ 60) (ho : 1 ≤ v739.toInt ∧ v739.toInt < X_) (hp : z864.toInt = gG f_h0_read (13 + v739.toInt)) : (((gG f_h0_read (13 + v739.toInt) = x2.toInt ∧ gG f_h0_read (22 + v739.toInt) = x3.toInt ∧ z23.toInt < gG f_h0_read (31 + v739.toInt) + gG f_h0_read (40 + v739.toInt) ∧ gG f_h0_read (31 + v739.toInt) < z23.toInt + r1.toInt) ∧ ((¬ v740.toInt = 0 ∧ v906.toInt = v740.toInt ∧ v907.toInt = v741.toInt) ∨ (v740.toInt = 0 ∧ v906.toInt = 4 ∧ v907.toInt = v4.toInt))) ∨ (¬ (gG f_h0_read (13 + v739.toInt) = x2.toInt ∧ gG f_h0_read (22 + v739.toInt) = x3.toInt ∧ z23.toInt < gG f_h0_read (31 + v739.toInt) + gG f_h0_read (40 + v739.toInt) ∧ gG f_h0_read (31 + v739.toInt) < z23.toInt + r1.toInt) ∧ v906.toInt = v740.toInt ∧ v907.toInt = v741.toInt)) := by
  rcases h with ⟨p0, e0, e1⟩ | ⟨z917, z920, z924, z926, z929, z931, z934, z936, r938, z940, z943, r945, p0, p1, p2, p3, p4, p5, p6, p7, p8, p9, p10, p11, p12, p13, p14, p15, e0, e1⟩ | ⟨z917, z920, z924, z926, z929, z931, z934, z936, r938, z940, z943, r945, v950, v951, p0, p1, p2, p3, p4, p5, p6, p7, p8, p9, p10, p11, p12, p13, p14, p15, p16, p17, p18, e0, e1⟩ | ⟨z917, z920, p0, p1, p2, p3, p4, e0, e1⟩ | h
  · have hg := hb _ ho.1 ho.2
    have e4_ : (4 : Int32).toInt = 4 := by decide
    omega
  · have k11 := m_lesser p11
    have k14 := m_greater p14
    have hg := hb _ ho.1 ho.2
    have e4_ : (4 : Int32).toInt = 4 := by decide
    have g2 : gG f_h0_read z917.toInt = gG f_h0_read (22 + v739.toInt) := congrArg _ (by omega)
    have g7 : gG f_h0_read z926.toInt = gG f_h0_read (31 + v739.toInt) := congrArg _ (by omega)
    have g9 : gG f_h0_read z931.toInt = gG f_h0_read (40 + v739.toInt) := congrArg _ (by omega)
    have g13 : gG f_h0_read z940.toInt = gG f_h0_read (31 + v739.toInt) := congrArg _ (by omega)
    have a5 := za p5 rfl rfl (by omega)
    have a10 := za p10 rfl rfl (by omega)
    omega
  · have k11 := m_lesser p11
    have k14 := m_greater p14
    have i4_ : (4 : Int32).toInt = 4 := by decide
    have k18 := m_faults p18
    have hg := hb _ ho.1 ho.2
    have e4_ : (4 : Int32).toInt = 4 := by decide
    have g2 : gG f_h0_read z917.toInt = gG f_h0_read (22 + v739.toInt) := congrArg _ (by omega)
    have g7 : gG f_h0_read z926.toInt = gG f_h0_read (31 + v739.toInt) := congrArg _ (by omega)
    have g9 : gG f_h0_read z931.toInt = gG f_h0_read (40 + v739.toInt) := congrArg _ (by omega)
    have g13 : gG f_h0_read z940.toInt = gG f_h0_read (31 + v739.toInt) := congrArg _ (by omega)
    have a5 := za p5 rfl rfl (by omega)
    have a10 := za p10 rfl rfl (by omega)
    omega
  · have hg := hb _ ho.1 ho.2
    have e4_ : (4 : Int32).toInt = 4 := by decide
    have g2 : gG f_h0_read z917.toInt = gG f_h0_read (22 + v739.toInt) := congrArg _ (by omega)
    omega
  · exact h.elim
theorem i_mw {f_h0_read : (Nat → Int32)} {r1 : Int32} {v37 : Int32} {v38 : Int32} {v4 : Int32} {x1 : Int32} {x2 : Int32} {x3 : Int32} {z23 : Int32} {v739 : Int32} {v740 : Int32} {v741 : Int32} (h : I_M_readsWidth_57_2 f_h0_read r1 v37 v38 v4 x1 x2 x3 z23 v739 v740 v741) (hv : 1 ≤ r1.toInt ∧ r1.toInt ≤ 60 ∧ 0 ≤ z23.toInt ∧ z23.toInt ≤ 59) (hb : ∀ g : Int, 1 ≤ g → g < x1.toInt → 0 ≤ gG f_h0_read (31 + g) ∧ gG f_h0_read (31 + g) ≤ 59 ∧ 1 ≤ gG f_h0_read (40 + g) ∧ gG f_h0_read (40 + g) ≤ 60) : 1 ≤ v739.toInt ∧ (((∀ p : Int, 1 ≤ p → p < v739.toInt → ¬ (gG f_h0_read (13 + p) = x2.toInt ∧ gG f_h0_read (22 + p) = x3.toInt ∧ z23.toInt < gG f_h0_read (31 + p) + gG f_h0_read (40 + p) ∧ gG f_h0_read (31 + p) < z23.toInt + r1.toInt)) ∧ v740.toInt = v37.toInt ∧ v741.toInt = v38.toInt) ∨ ((∃ p : Int, 1 ≤ p ∧ p < x1.toInt ∧ (gG f_h0_read (13 + p) = x2.toInt ∧ gG f_h0_read (22 + p) = x3.toInt ∧ z23.toInt < gG f_h0_read (31 + p) + gG f_h0_read (40 + p) ∧ gG f_h0_read (31 + p) < z23.toInt + r1.toInt)) ∧ ((v37.toInt = 0 ∧ v740.toInt = 4 ∧ v741.toInt = v4.toInt) ∨ (¬ v37.toInt = 0 ∧ v740.toInt = v37.toInt ∧ v741.toInt = v38.toInt)))) := by
  refine I_M_readsWidth_57_2.ind (Q_ := fun v739 v740 v741 => 1 ≤ v739.toInt ∧ (((∀ p : Int, 1 ≤ p → p < v739.toInt → ¬ (gG f_h0_read (13 + p) = x2.toInt ∧ gG f_h0_read (22 + p) = x3.toInt ∧ z23.toInt < gG f_h0_read (31 + p) + gG f_h0_read (40 + p) ∧ gG f_h0_read (31 + p) < z23.toInt + r1.toInt)) ∧ v740.toInt = v37.toInt ∧ v741.toInt = v38.toInt) ∨ ((∃ p : Int, 1 ≤ p ∧ p < x1.toInt ∧ (gG f_h0_read (13 + p) = x2.toInt ∧ gG f_h0_read (22 + p) = x3.toInt ∧ z23.toInt < gG f_h0_read (31 + p) + gG f_h0_read (40 + p) ∧ gG f_h0_read (31 + p) < z23.toInt + r1.toInt)) ∧ ((v37.toInt = 0 ∧ v740.toInt = 4 ∧ v741.toInt = v4.toInt) ∨ (¬ v37.toInt = 0 ∧ v740.toInt = v37.toInt ∧ v741.toInt = v38.toInt))))) ?_ ?_ h
  · have e1_ : (1 : Int32).toInt = 1 := by decide
    exact ⟨by omega, .inl ⟨fun p h1 h2 => absurd h2 (by omega), rfl, rfl⟩⟩
  · intro v739 v740 v741 z861 z864 v906 v907 z913 hp ih p0 p1 p2 p3 p4 p5 p6
    have eg : gG f_h0_read z861.toInt = gG f_h0_read (13 + v739.toInt) := congrArg _ (by omega)
    have kj := j_mw (X_ := x1.toInt) p4 hv hb ⟨ih.1, by omega⟩ (by omega)
    obtain ⟨ih1, ih2⟩ := ih
    refine ⟨by clear ih2; omega, ?_⟩
    rcases kj with ⟨w1, w2⟩ | ⟨w1, w2, w3⟩
    · refine .inr ⟨⟨_, ih1, by clear ih2; omega, w1⟩, ?_⟩
      rcases ih2 with ⟨i1, i2, i3⟩ | ⟨i1, i2⟩
      · clear i1; omega
      · clear i1; omega
    · rcases ih2 with ⟨i1, i2, i3⟩ | ⟨i1, i2⟩
      · refine .inl ⟨fun p h1 h2 => ?_, by omega, by omega⟩
        by_cases e : p = v739.toInt
        · rw [e]; exact w1
        · exact i1 p h1 (by omega)
      · exact .inr ⟨i1, by clear i1; omega⟩
theorem j_mw1 {r27 : Int32} {v4 : Int32} {v5 : Int32} {v6 : Int32} {z25 : Int32} {v37 : Int32} {v38 : Int32} (h : J_M_readsWidth_54_1 r27 v4 v5 v6 z25 v37 v38)  : ((z25.toInt ≤ r27.toInt ∧ v37.toInt = v5.toInt ∧ v38.toInt = v6.toInt) ∨ (r27.toInt < z25.toInt ∧ ((¬ v5.toInt = 0 ∧ v37.toInt = v5.toInt ∧ v38.toInt = v6.toInt) ∨ (v5.toInt = 0 ∧ v37.toInt = 4 ∧ v38.toInt = v4.toInt)))) := by
  rcases h with ⟨p0, e0, e1⟩ | ⟨v958, v959, p0, p1, p2, p3, e0, e1⟩ | h
  · have e4_ : (4 : Int32).toInt = 4 := by decide
    omega
  · have i4_ : (4 : Int32).toInt = 4 := by decide
    have k3 := m_faults p3
    have e4_ : (4 : Int32).toInt = 4 := by decide
    omega
  · exact h.elim
