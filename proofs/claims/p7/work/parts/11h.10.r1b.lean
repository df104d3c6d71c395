theorem i_num {f_h0_tape_bytes : (Nat → Int32)} {h0_tape_length : Int32} {v3 : Int32} {v4 : Int32} {v764 : Int32} {v765 : Int32} (h : I_R_number_6_1 f_h0_tape_bytes h0_tape_length v3 v4 v764 v765) {B : Int → Int} (c : cTB f_h0_tape_bytes h0_tape_length B) (s0 : v4.toInt = v3.toInt) : ((v765.toInt = v4.toInt ∧ v764.toInt = 0) ∨ (v765.toInt = v4.toInt + 1 ∧ (48 ≤ B v4.toInt ∧ B v4.toInt ≤ 57) ∧ v764.toInt = B v4.toInt - 48) ∨ (v765.toInt = v4.toInt + 2 ∧ (48 ≤ B v4.toInt ∧ B v4.toInt ≤ 57) ∧ (48 ≤ B (v4.toInt + 1) ∧ B (v4.toInt + 1) ≤ 57) ∧ v764.toInt = 10 * (B v4.toInt - 48) + (B (v4.toInt + 1) - 48))) := by
  refine I_R_number_6_1.ind (Q_ := fun v764 v765 => ((v765.toInt = v4.toInt ∧ v764.toInt = 0) ∨ (v765.toInt = v4.toInt + 1 ∧ (48 ≤ B v4.toInt ∧ B v4.toInt ≤ 57) ∧ v764.toInt = B v4.toInt - 48) ∨ (v765.toInt = v4.toInt + 2 ∧ (48 ≤ B v4.toInt ∧ B v4.toInt ≤ 57) ∧ (48 ≤ B (v4.toInt + 1) ∧ B (v4.toInt + 1) ≤ 57) ∧ v764.toInt = 10 * (B v4.toInt - 48) + (B (v4.toInt + 1) - 48)))) ?_ ?_ h
  · have e0_ : (0 : Int32).toInt = 0 := by decide
    exact .inl ⟨by omega, e0_⟩
  · intro v764 v765 z1063 r1067 r1070 z1074 r1076 z1079 z1081 z1084 hp ih p0 p1 p2 p3 p4 p5 p6 p7 p8 p9 p10 p11 p12 p13 p14
    have k4 := c_at p4 c
    have k6 := c_isDigit p6
    have k10 := c_at p10 c
    rcases ih with ⟨i1, i2⟩ | ⟨i1, i2, i3⟩ | ⟨i1, i2, i3, i4⟩
    · skip
      have eB : B v765.toInt = B (v4.toInt) := congrArg B (by omega)
      have q1 := zm p8 (show (10 : Int32).toInt = 10 by decide) (rfl : v764.toInt = _) (by omega)
      have q2 := za p11 q1 rfl (by omega)
      have q3 := zs p12 q2 (show (48 : Int32).toInt = 48 by decide) (by omega)
      omega
    · skip
      have eB : B v765.toInt = B (v4.toInt + 1) := congrArg B (by omega)
      have q1 := zm p8 (show (10 : Int32).toInt = 10 by decide) (rfl : v764.toInt = _) (by omega)
      have q2 := za p11 q1 rfl (by omega)
      have q3 := zs p12 q2 (show (48 : Int32).toInt = 48 by decide) (by omega)
      omega
    · omega
theorem j_num1 {f_h0_tape_bytes : (Nat → Int32)} {h0_tape_length : Int32} {v4 : Int32} {v765 : Int32}  (h : J_R_number_83_2 f_h0_tape_bytes h0_tape_length v4 v765) {B : Int → Int} (c : cTB f_h0_tape_bytes h0_tape_length B) : v4.toInt + 2 ≤ v765.toInt ∨ ¬ (48 ≤ B v765.toInt ∧ B v765.toInt ≤ 57) := by
  rcases h with p0 | ⟨z1063, p0, p1, p2⟩ | ⟨z1063, r1067, r1070, p0, p1, p2, p3, p4, p5, p6, p7⟩ | h
  · have b0 := c.1.2.2.2.1 _ p0
    omega
  · omega
  · have k4 := c_at p4 c
    have k6 := c_isDigit p6
    omega
  · exact h.elim
theorem j_num2 {h0_fault : Int32} {h0_place : Int32} {h0_tokenEnd : Int32} {v4 : Int32} {v957 : Int32} {v958 : Int32} (h : J_R_number_103_3 h0_fault h0_place h0_tokenEnd v4 v957 v958)  : ((v4.toInt = h0_tokenEnd.toInt ∧ ((¬ h0_fault.toInt = 0 ∧ v957.toInt = h0_fault.toInt ∧ v958.toInt = h0_place.toInt) ∨ (h0_fault.toInt = 0 ∧ v957.toInt = 1 ∧ v958.toInt = v4.toInt))) ∨ (¬ (v4.toInt = h0_tokenEnd.toInt) ∧ v957.toInt = h0_fault.toInt ∧ v958.toInt = h0_place.toInt)) := by
  rcases h with ⟨p0, e0, e1⟩ | ⟨v1057, v1058, p0, p1, p2, p3, e0, e1⟩ | h
  · have e1_ : (1 : Int32).toInt = 1 := by decide
    have e2_ : (2 : Int32).toInt = 2 := by decide
    omega
  · have i1_ : (1 : Int32).toInt = 1 := by decide
    have k3 := c_fail p3
    have e1_ : (1 : Int32).toInt = 1 := by decide
    have e2_ : (2 : Int32).toInt = 2 := by decide
    omega
  · exact h.elim
theorem j_num3 {f_h0_tape_bytes : (Nat → Int32)} {h0_tape_length : Int32} {v4 : Int32} {v765 : Int32}  (h : J_R_number_131_7 f_h0_tape_bytes h0_tape_length v4 v765) {B : Int → Int} (c : cTB f_h0_tape_bytes h0_tape_length B) : v765.toInt = v4.toInt ∨ (48 ≤ B v765.toInt ∧ B v765.toInt ≤ 57) := by
  rcases h with p0 | ⟨r1047, r1050, p0, p1, p2, p3, p4, p5⟩ | h
  · omega
  · have k2 := c_at p2 c
    have k4 := c_isDigit p4
    omega
  · exact h.elim
theorem j_num4 {f_h0_tape_bytes : (Nat → Int32)} {h0_tape_length : Int32} {v4 : Int32} {v765 : Int32} {v957 : Int32} {v958 : Int32} {v985 : Int32} {v986 : Int32} (h : J_R_number_140_4 f_h0_tape_bytes h0_tape_length v4 v765 v957 v958 v985 v986) {B : Int → Int} (c : cTB f_h0_tape_bytes h0_tape_length B) : (((v765.toInt = v4.toInt ∨ (48 ≤ B v765.toInt ∧ B v765.toInt ≤ 57)) ∧ ((¬ v957.toInt = 0 ∧ v985.toInt = v957.toInt ∧ v986.toInt = v958.toInt) ∨ (v957.toInt = 0 ∧ v985.toInt = 1 ∧ v986.toInt = v765.toInt))) ∨ (¬ (v765.toInt = v4.toInt ∨ (48 ≤ B v765.toInt ∧ B v765.toInt ≤ 57)) ∧ v985.toInt = v957.toInt ∧ v986.toInt = v958.toInt)) := by
  rcases h with ⟨v1041, v1042, p0, p1, p2, p3, e0, e1⟩ | ⟨r1047, r1050, p0, p1, p2, p3, p4, p5, e0, e1⟩ | h
  · have k0 := j_num3 p0 c
    have i1_ : (1 : Int32).toInt = 1 := by decide
    have k3 := c_fail p3
    have e1_ : (1 : Int32).toInt = 1 := by decide
    have e2_ : (2 : Int32).toInt = 2 := by decide
    omega
  · have k2 := c_at p2 c
    have k4 := c_isDigit p4
    have e1_ : (1 : Int32).toInt = 1 := by decide
    have e2_ : (2 : Int32).toInt = 2 := by decide
    omega
  · exact h.elim
theorem j_num5 {v764 : Int32} {x1 : Int32} {x2 : Int32}  (h : J_R_number_150_6 v764 x1 x2)  : v764.toInt < x1.toInt ∨ x2.toInt < v764.toInt := by
  rcases h with p0 | ⟨p0, p1⟩ | h
  · omega
  · omega
  · exact h.elim
theorem j_num6 {v4 : Int32} {v764 : Int32} {v985 : Int32} {v986 : Int32} {x1 : Int32} {x2 : Int32} {v1007 : Int32} {v1008 : Int32} (h : J_R_number_159_5 v4 v764 v985 v986 x1 x2 v1007 v1008)  : (((v764.toInt < x1.toInt ∨ x2.toInt < v764.toInt) ∧ ((¬ v985.toInt = 0 ∧ v1007.toInt = v985.toInt ∧ v1008.toInt = v986.toInt) ∨ (v985.toInt = 0 ∧ v1007.toInt = 2 ∧ v1008.toInt = v4.toInt))) ∨ (¬ (v764.toInt < x1.toInt ∨ x2.toInt < v764.toInt) ∧ v1007.toInt = v985.toInt ∧ v1008.toInt = v986.toInt)) := by
  rcases h with ⟨v1021, v1022, p0, p1, p2, p3, e0, e1⟩ | ⟨p0, p1, e0, e1⟩ | h
  · have k0 := j_num5 p0
    have i2_ : (2 : Int32).toInt = 2 := by decide
    have k3 := c_fail p3
    have e1_ : (1 : Int32).toInt = 1 := by decide
    have e2_ : (2 : Int32).toInt = 2 := by decide
    omega
  · have e1_ : (1 : Int32).toInt = 1 := by decide
    have e2_ : (2 : Int32).toInt = 2 := by decide
    omega
  · exact h.elim
theorem c_num {x1 : Int32} {x2 : Int32} {h0_at : Int32} {h0_tokenEnd : Int32} {h0_fault : Int32} {h0_place : Int32} {h0_tape_length : Int32} {f_h0_tape_bytes : (Nat → Int32)} {o_u_h0_at : Int32} {o_u_h0_tokenStart : Int32} {o_u_h0_tokenEnd : Int32} {o_u_h0_fault : Int32} {o_u_h0_place : Int32} {o_r : Int32} (h : S_R_number x1 x2 h0_at h0_tokenEnd h0_fault h0_place h0_tape_length f_h0_tape_bytes o_u_h0_at o_u_h0_tokenStart o_u_h0_tokenEnd o_u_h0_fault o_u_h0_place o_r) {B : Int → Int} (c : cTB f_h0_tape_bytes h0_tape_length B) : isSk B h0_at.toInt o_u_h0_tokenStart.toInt ∧ o_u_h0_tokenEnd.toInt = o_u_h0_at.toInt ∧ ((o_u_h0_at.toInt = o_u_h0_tokenStart.toInt ∧ o_r.toInt = 0 ∧ ¬ (48 ≤ B o_u_h0_tokenStart.toInt ∧ B o_u_h0_tokenStart.toInt ≤ 57)) ∨ (o_u_h0_at.toInt = o_u_h0_tokenStart.toInt + 1 ∧ (48 ≤ B o_u_h0_tokenStart.toInt ∧ B o_u_h0_tokenStart.toInt ≤ 57) ∧ ¬ (48 ≤ B (o_u_h0_tokenStart.toInt + 1) ∧ B (o_u_h0_tokenStart.toInt + 1) ≤ 57) ∧ o_r.toInt = B o_u_h0_tokenStart.toInt - 48) ∨ (o_u_h0_at.toInt = o_u_h0_tokenStart.toInt + 2 ∧ (48 ≤ B o_u_h0_tokenStart.toInt ∧ B o_u_h0_tokenStart.toInt ≤ 57) ∧ (48 ≤ B (o_u_h0_tokenStart.toInt + 1) ∧ B (o_u_h0_tokenStart.toInt + 1) ≤ 57) ∧ o_r.toInt = 10 * (B o_u_h0_tokenStart.toInt - 48) + (B (o_u_h0_tokenStart.toInt + 1) - 48))) ∧ ((¬ h0_fault.toInt = 0 ∧ o_u_h0_fault.toInt = h0_fault.toInt ∧ o_u_h0_place.toInt = h0_place.toInt) ∨ (h0_fault.toInt = 0 ∧ ((o_u_h0_tokenStart.toInt = h0_tokenEnd.toInt ∧ o_u_h0_fault.toInt = 1 ∧ o_u_h0_place.toInt = o_u_h0_tokenStart.toInt) ∨ (¬ o_u_h0_tokenStart.toInt = h0_tokenEnd.toInt ∧ (o_u_h0_at.toInt = o_u_h0_tokenStart.toInt ∨ (48 ≤ B o_u_h0_at.toInt ∧ B o_u_h0_at.toInt ≤ 57)) ∧ o_u_h0_fault.toInt = 1 ∧ o_u_h0_place.toInt = o_u_h0_at.toInt) ∨ (¬ o_u_h0_tokenStart.toInt = h0_tokenEnd.toInt ∧ ¬ (o_u_h0_at.toInt = o_u_h0_tokenStart.toInt ∨ (48 ≤ B o_u_h0_at.toInt ∧ B o_u_h0_at.toInt ≤ 57)) ∧ (o_r.toInt < x1.toInt ∨ x2.toInt < o_r.toInt) ∧ o_u_h0_fault.toInt = 2 ∧ o_u_h0_place.toInt = o_u_h0_tokenStart.toInt) ∨ (¬ o_u_h0_tokenStart.toInt = h0_tokenEnd.toInt ∧ ¬ (o_u_h0_at.toInt = o_u_h0_tokenStart.toInt ∨ (48 ≤ B o_u_h0_at.toInt ∧ B o_u_h0_at.toInt ≤ 57)) ∧ ¬ (o_r.toInt < x1.toInt ∨ x2.toInt < o_r.toInt) ∧ o_u_h0_fault.toInt = 0 ∧ o_u_h0_place.toInt = h0_place.toInt)))) := by
  rcases h with ⟨v3, v4, v764, v765, v957, v958, v985, v986, v1007, v1008, p0, p1, p2, p3, p4, p5, p6, p7, p8, p9, p10, p11, p12, e0, e1, e2, e3, e4, e5⟩ | h
  · have k2 := c_skip p2 c
    have k5 := j_num1 p5 c
    have k6 := j_num2 p6
    have k8 := j_num4 p8 c
    have k10 := j_num6 p10
    have k3 := i_num p3 c k2.2
    have eA := xie e0
    have eT := xie e1
    have eR := xie e5
    subst eA eT eR
    refine ⟨?_, e2.trans rfl, ?_, ?_⟩
    · rw [k2.2]; exact k2.1
    · clear k6 k8 k10
      clear p12
      rcases k3 with ⟨i1, i2⟩ | ⟨i1, i2, i3⟩ | ⟨i1, i2, i3, i4⟩
      · have eB : B o_u_h0_at.toInt = B o_u_h0_tokenStart.toInt := congrArg B (by omega)
        omega
      · have eB : B o_u_h0_at.toInt = B (o_u_h0_tokenStart.toInt + 1) := congrArg B (by omega)
        omega
      · omega
    · have h9 := num_f k6 k8 k10
      rw [e3, e4]
      exact h9
  · exact h.elim
