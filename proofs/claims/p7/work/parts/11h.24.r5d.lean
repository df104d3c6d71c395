/-- flange o shares some of the side with the one from fr on, so wide, on the side s of p -/
def SHR (par sid frm wid : Nat → Int32) (p s fr w o : Int) : Prop := gG par o = p ∧ gG sid o = s ∧ fr < gG frm o + gG wid o ∧ gG frm o < fr + w
theorem c_shares {x1 : Int32} {x2 : Int32} {f_h0_parent : (Nat → Int32)} {f_h0_side : (Nat → Int32)} {f_h0_from : (Nat → Int32)} {f_h0_width : (Nat → Int32)} {o_r : Int32} (h : S_P_sharesSide x1 x2 f_h0_parent f_h0_side f_h0_from f_h0_width o_r) (hb1 : 0 ≤ gG f_h0_from x1.toInt ∧ gG f_h0_from x1.toInt ≤ 59 ∧ 1 ≤ gG f_h0_width x1.toInt ∧ gG f_h0_width x1.toInt ≤ 60) (hb2 : 0 ≤ gG f_h0_from x2.toInt ∧ gG f_h0_from x2.toInt ≤ 59 ∧ 1 ≤ gG f_h0_width x2.toInt ∧ gG f_h0_width x2.toInt ≤ 60) : ((o_r.toInt = 1 ∧ SHR f_h0_parent f_h0_side f_h0_from f_h0_width (gG f_h0_parent x1.toInt) (gG f_h0_side x1.toInt) (gG f_h0_from x1.toInt) (gG f_h0_width x1.toInt) x2.toInt) ∨ (o_r.toInt = 0 ∧ ¬ SHR f_h0_parent f_h0_side f_h0_from f_h0_width (gG f_h0_parent x1.toInt) (gG f_h0_side x1.toInt) (gG f_h0_from x1.toInt) (gG f_h0_width x1.toInt) x2.toInt)) := by
  rcases h with ⟨z1, z4, p0, p1, p2, p3, p4, e0⟩ | ⟨z1, z4, z8, z11, p0, p1, p2, p3, p4, p5, p6, p7, p8, p9, e0⟩ | ⟨z1, z4, z8, z11, z15, z17, z19, z21, p0, p1, p2, p3, p4, p5, p6, p7, p8, p9, p10, p11, p12, p13, p14, e0⟩ | ⟨z1, z4, z8, z11, z15, z17, z19, z21, z24, z26, z28, z30, p0, p1, p2, p3, p4, p5, p6, p7, p8, p9, p10, p11, p12, p13, p14, p15, p16, p17, p18, p19, e0⟩ | ⟨z1, z4, z8, z11, z15, z17, z19, z21, z24, z26, z28, z30, p0, p1, p2, p3, p4, p5, p6, p7, p8, p9, p10, p11, p12, p13, p14, p15, p16, p17, p18, p19, e0⟩ | h
  · exact .inr ⟨e0, fun w => by obtain ⟨w1, w2, w3, w4⟩ := w; omega⟩
  · exact .inr ⟨e0, fun w => by obtain ⟨w1, w2, w3, w4⟩ := w; omega⟩
  · have a13 := za p13 rfl rfl (by omega)
    exact .inr ⟨e0, fun w => by obtain ⟨w1, w2, w3, w4⟩ := w; omega⟩
  · have a13 := za p13 rfl rfl (by omega)
    have a18 := za p18 rfl rfl (by omega)
    exact .inr ⟨e0, fun w => by obtain ⟨w1, w2, w3, w4⟩ := w; omega⟩
  · have a13 := za p13 rfl rfl (by omega)
    have a18 := za p18 rfl rfl (by omega)
    exact .inl ⟨e0, by omega, by omega, by omega, by omega⟩
  · exact h.elim
theorem c_runs {x1 : Int32} {o_r : Int32} (h : S_P_runsAlongX x1 o_r)  : ((o_r.toInt = 1 ∧ (x1.toInt = 0 ∨ x1.toInt = 2)) ∨ (o_r.toInt = 0 ∧ ¬ (x1.toInt = 0 ∨ x1.toInt = 2))) := by
  rcases h with ⟨p0, e0⟩ | ⟨p0, p1, e0⟩ | ⟨p0, p1, e0⟩ | h
  · omega
  · omega
  · omega
  · exact h.elim
theorem c_sizeX {x1 : Int32} {f_h0_side : (Nat → Int32)} {f_h0_height : (Nat → Int32)} {f_h0_width : (Nat → Int32)} {o_r : Int32} (h : S_P_sizeX x1 f_h0_side f_h0_height f_h0_width o_r)  : (((gG f_h0_side x1.toInt = 0 ∨ gG f_h0_side x1.toInt = 2) ∧ o_r.toInt = gG f_h0_width x1.toInt) ∨ (¬ (gG f_h0_side x1.toInt = 0 ∨ gG f_h0_side x1.toInt = 2) ∧ o_r.toInt = gG f_h0_height x1.toInt)) := by
  rcases h with ⟨z1, r4, z8, p0, p1, p2, p3, p4, p5, e0⟩ | ⟨z1, r4, z10, p0, p1, p2, p3, p4, p5, e0⟩ | h
  · have k3 := c_runs p3
    omega
  · have k3 := c_runs p3
    omega
  · exact h.elim
theorem c_sizeY {x1 : Int32} {f_h0_side : (Nat → Int32)} {f_h0_width : (Nat → Int32)} {f_h0_height : (Nat → Int32)} {o_r : Int32} (h : S_P_sizeY x1 f_h0_side f_h0_width f_h0_height o_r)  : (((gG f_h0_side x1.toInt = 0 ∨ gG f_h0_side x1.toInt = 2) ∧ o_r.toInt = gG f_h0_height x1.toInt) ∨ (¬ (gG f_h0_side x1.toInt = 0 ∨ gG f_h0_side x1.toInt = 2) ∧ o_r.toInt = gG f_h0_width x1.toInt)) := by
  rcases h with ⟨z1, r4, z8, p0, p1, p2, p3, p4, p5, e0⟩ | ⟨z1, r4, z10, p0, p1, p2, p3, p4, p5, e0⟩ | h
  · have k3 := c_runs p3
    omega
  · have k3 := c_runs p3
    omega
  · exact h.elim
theorem c_sideLen {x1 : Int32} {x2 : Int32} {f_h0_side : (Nat → Int32)} {f_h0_width : (Nat → Int32)} {f_h0_height : (Nat → Int32)} {o_r : Int32} (h : S_P_sideLength x1 x2 f_h0_side f_h0_width f_h0_height o_r)  : ((((gG f_h0_side x1.toInt = 0 ∨ gG f_h0_side x1.toInt = 2) ↔ (x2.toInt = 0 ∨ x2.toInt = 2)) ∧ o_r.toInt = gG f_h0_width x1.toInt) ∨ (¬ ((gG f_h0_side x1.toInt = 0 ∨ gG f_h0_side x1.toInt = 2) ↔ (x2.toInt = 0 ∨ x2.toInt = 2)) ∧ o_r.toInt = gG f_h0_height x1.toInt)) := by
  rcases h with ⟨r1, r5, p0, p1, p2, p3, e0⟩ | ⟨r1, r7, p0, p1, p2, p3, e0⟩ | h
  · have k1 := c_runs p1
    have k3 := c_sizeY p3
    omega
  · have k1 := c_runs p1
    have k3 := c_sizeX p3
    omega
  · exact h.elim
theorem j_mso11 {z1 : Int32} {v4 : Int32} (h : J_M_sideOf_11_1 z1 v4)  : ((z1.toInt = 0 ∧ v4.toInt = 1) ∨ (¬ z1.toInt = 0 ∧ v4.toInt = 0)) := by
  rcases h with ⟨p0, e0⟩ | ⟨p0, e0⟩ | h
  · omega
  · omega
  · exact h.elim
theorem j_mso47 {z15 : Int32} {v19 : Int32} (h : J_M_sideOf_47_2 z15 v19)  : ((z15.toInt = 0 ∧ v19.toInt = 1) ∨ (¬ z15.toInt = 0 ∧ v19.toInt = 0)) := by
  rcases h with ⟨p0, e0⟩ | ⟨p0, e0⟩ | h
  · omega
  · omega
  · exact h.elim
theorem zrm2 {x : Int32} (h : 0 ≤ x.toInt ∧ x.toInt ≤ 3) : ((x - x / 2 * 2 : Int32).toInt = 0 ∧ (x.toInt = 0 ∨ x.toInt = 2)) ∨ (¬ (x - x / 2 * 2 : Int32).toInt = 0 ∧ ¬ (x.toInt = 0 ∨ x.toInt = 2)) := by
  rcases (show x.toInt = (0 : Int32).toInt ∨ x.toInt = (1 : Int32).toInt ∨ x.toInt = (2 : Int32).toInt ∨ x.toInt = (3 : Int32).toInt by
    have e0 : (0 : Int32).toInt = 0 := by decide
    have e1 : (1 : Int32).toInt = 1 := by decide
    have e2 : (2 : Int32).toInt = 2 := by decide
    have e3 : (3 : Int32).toInt = 3 := by decide
    omega) with q | q | q | q <;> (rw [xie q]; decide)
theorem m_sideOf {x2 : Int32} {x3 : Int32} {f_y1 : (Nat → Int32)} {o_r : Int32} (h : S_M_sideOf x2 x3 f_y1 o_r) (hx3 : 0 ≤ x3.toInt ∧ x3.toInt ≤ 3) : (x2.toInt = 0 ∧ (((x3.toInt = 0 ∨ x3.toInt = 2) ∧ o_r.toInt = gG f_y1 1) ∨ (¬ (x3.toInt = 0 ∨ x3.toInt = 2) ∧ o_r.toInt = gG f_y1 2))) ∨ (¬ x2.toInt = 0 ∧ ((((gG f_y1 (22 + x2.toInt) = 0 ∨ gG f_y1 (22 + x2.toInt) = 2) ↔ (x3.toInt = 0 ∨ x3.toInt = 2)) ∧ o_r.toInt = gG f_y1 (40 + x2.toInt)) ∨ (¬ ((gG f_y1 (22 + x2.toInt) = 0 ∨ gG f_y1 (22 + x2.toInt) = 2) ↔ (x3.toInt = 0 ∨ x3.toInt = 2)) ∧ o_r.toInt = gG f_y1 (49 + x2.toInt)))) := by
  rcases h with ⟨z1, v4, z9, z12, z15, v19, z24, z27, p0, p1, p2, p3, p4, p5, p6, p7, p8, p9, p10, p11, p12, e0⟩ | ⟨z1, v4, z9, z12, z15, v19, z29, z32, p0, p1, p2, p3, p4, p5, p6, p7, p8, p9, p10, p11, p12, e0⟩ | ⟨z1, v4, z36, p0, p1, p2, p3, p4, p5, e0⟩ | ⟨z1, v4, z38, p0, p1, p2, p3, p4, p5, e0⟩ | h
  · have k1 := j_mso11 p1
    have k8 := j_mso47 p8
    have z1_ := zrm2 (x := x3) hx3
    rw [← p0] at z1_
    have g5 : gG f_y1 z9.toInt = gG f_y1 (22 + x2.toInt) := congrArg _ (by omega)
    have g12 : gG f_y1 z24.toInt = gG f_y1 (49 + x2.toInt) := congrArg _ (by omega)
    omega
  · have k1 := j_mso11 p1
    have k8 := j_mso47 p8
    have z1_ := zrm2 (x := x3) hx3
    rw [← p0] at z1_
    have g5 : gG f_y1 z9.toInt = gG f_y1 (22 + x2.toInt) := congrArg _ (by omega)
    have g12 : gG f_y1 z29.toInt = gG f_y1 (40 + x2.toInt) := congrArg _ (by omega)
    omega
  · have k1 := j_mso11 p1
    have z1_ := zrm2 (x := x3) hx3
    rw [← p0] at z1_
    omega
  · have k1 := j_mso11 p1
    have z1_ := zrm2 (x := x3) hx3
    rw [← p0] at z1_
    omega
  · exact h.elim
