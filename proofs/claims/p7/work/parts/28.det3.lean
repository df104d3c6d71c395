theorem oN {v : Int32} (h : 0 ≤ v.toInt) : ∃ n : Nat, v = Int32.ofNat n ∧ v.toInt = n := by
  have r := zr v
  refine ⟨v.toInt.toNat, i32e ?_, by omega⟩
  rw [Int32.toInt_ofNat_of_lt (by omega)]; omega
def bitf (v : Int32) : Int32 := (v &&& (1 : Int32)) + ((v >>> (1 : Int32)) &&& (1 : Int32)) + ((v >>> (2 : Int32)) &&& (1 : Int32)) + ((v >>> (3 : Int32)) &&& (1 : Int32)) + ((v >>> (4 : Int32)) &&& (1 : Int32)) + ((v >>> (5 : Int32)) &&& (1 : Int32)) + ((v >>> (6 : Int32)) &&& (1 : Int32)) + ((v >>> (7 : Int32)) &&& (1 : Int32))
theorem bitf_n : ∀ n, n < 256 → ¬ ((Int32.ofNat n).toInt = 0) → bitf (Int32.ofNat n) = 1 + bitf (Int32.ofNat n &&& (Int32.ofNat n - (1 : Int32))) ∧ 0 ≤ (Int32.ofNat n &&& (Int32.ofNat n - (1 : Int32))).toInt ∧ (Int32.ofNat n &&& (Int32.ofNat n - (1 : Int32))).toInt ≤ 255 := by decide +kernel
theorem shl8n : ∀ n, n < 9 → 1 ≤ ((1 : Int32) <<< (Int32.ofNat n &&& 31)).toInt ∧ ((1 : Int32) <<< (Int32.ofNat n &&& 31)).toInt ≤ 256 ∧ ((1 : Int32) <<< (Int32.ofNat n &&& 31) - 1).toInt = 2 ^ n - 1 := by decide +kernel
theorem shl8 {t : Int32} (h : 0 ≤ t.toInt ∧ t.toInt ≤ 8) : 1 ≤ ((1 : Int32) <<< (t &&& 31)).toInt ∧ ((1 : Int32) <<< (t &&& 31)).toInt ≤ 256 := by
  obtain ⟨n, rfl, e⟩ := oN h.1
  have := shl8n n (by omega); exact ⟨this.1, this.2.1⟩
theorem u_bits {x a b : Int32} (hx : 0 ≤ x.toInt ∧ x.toInt ≤ 255) (h : I_bits_4_1 x a b) : (0 ≤ b.toInt ∧ b.toInt ≤ 255) ∧ a + bitf b = bitf x := by
  refine I_bits_4_1.ind (Q_ := fun a b => (0 ≤ b.toInt ∧ b.toInt ≤ 255) ∧ a + bitf b = bitf x) ?_ ?_ h
  · exact ⟨hx, by simp⟩
  · intro a b z w y hp ih g e1 e2 e3
    subst e1 e2 e3
    obtain ⟨n, rfl, e⟩ := oN ih.1.1
    have q := bitf_n n (by omega) g
    refine ⟨q.2, ?_⟩
    rw [← ih.2, q.1, Int32.add_assoc]
theorem d_bits {x r r' : Int32} (h : S_bits x r) (h' : S_bits x r') (hx : 0 ≤ x.toInt ∧ x.toInt ≤ 255) : r = r' := by
  have key : ∀ r, S_bits x r → r = bitf x := by
    intro r h
    rcases h with ⟨a, b, i, hb, e, rfl⟩ | h
    · have u := u_bits hx i
      have e0 : b = 0 := i32e e
      rw [← u.2, e0, show bitf 0 = 0 by decide]; simp
    · exact h.elim
  rw [key r h, key r' h']

theorem u_width1 {f_h0_told : (Nat → Int32)} {h0_told_4 : Int32} {x1 : Int32}  (h4 : 0 ≤ h0_told_4.toInt ∧ h0_told_4.toInt ≤ 8) {v162 : Int32} {v163 : Int32} (h : I_widthOf_4_1 f_h0_told h0_told_4 x1 v162 v163) : 0 ≤ v163.toInt ∧ v163.toInt ≤ h0_told_4.toInt := by
  refine I_widthOf_4_1.ind (Q_ := fun v162 v163 => 0 ≤ v163.toInt ∧ v163.toInt ≤ h0_told_4.toInt) ?_ ?_ ?_ h
  · have e0_ : (0 : Int32).toInt = 0 := by decide
    have e1_ : (1 : Int32).toInt = 1 := by decide
    have em_ : (-1 : Int32).toInt = -1 := by decide
    omega
  · intro v162 v163 r194 z199 z202 hp ih p0_0 p1_0 p1_1 p2_0 p3_0 p4_0
    have e_ : z202.toInt = v163.toInt + 1 := za p4_0 rfl (show (1 : Int32).toInt = 1 by decide) (by omega)
    omega
  · intro v162 v163 r194 z205 z208 z210 z212 hp ih p0_0 p1_0 p1_1 p2_0 p3_0 p4_0 p5_0 p6_0
    have e_ : z212.toInt = v163.toInt + 1 := za p6_0 rfl (show (1 : Int32).toInt = 1 by decide) (by omega)
    omega
theorem d_width1 {f_h0_told : (Nat → Int32)} {h0_told_4 : Int32} {x1 : Int32}   (h4 : 0 ≤ h0_told_4.toInt ∧ h0_told_4.toInt ≤ 8) {v162 : Int32} {v163 : Int32} (h : I_widthOf_4_1 f_h0_told h0_told_4 x1 v162 v163) : ∀ (v162' : Int32) (v163' : Int32), I_widthOf_4_1 f_h0_told h0_told_4 x1 v162' v163' → v163 = v163' → v162 = v162' := by
  refine I_widthOf_4_1.ind (Q_ := fun v162 v163 => ∀ (v162' : Int32) (v163' : Int32), I_widthOf_4_1 f_h0_told h0_told_4 x1 v162' v163' → v163 = v163' → v162 = v162') ?_ ?_ ?_ h
  · intro v162'' v163'' h' ev
    rcases I_widthOf_4_1.inv h' with ⟨rfl, rfl⟩ | ⟨v162', v163', r194', z199', z202', hp', q0_0, q1_0, q1_1, q2_0, q3_0, q4_0, rfl, rfl⟩ | ⟨v162', v163', r194', z205', z208', z210', z212', hp', q0_0, q1_0, q1_1, q2_0, q3_0, q4_0, q5_0, q6_0, rfl, rfl⟩
    · skip
      rfl
    · skip
      have u_ := u_width1 h4 hp'
      have e_ := za q4_0 rfl (show (1 : Int32).toInt = 1 by decide) (by omega)
      have ee_ := congrArg Int32.toInt ev
      have e0_ : (0 : Int32).toInt = 0 := by decide
      have e1_ : (1 : Int32).toInt = 1 := by decide
      have em_ : (-1 : Int32).toInt = -1 := by decide
      exfalso; omega
    · skip
      have u_ := u_width1 h4 hp'
      have e_ := za q6_0 rfl (show (1 : Int32).toInt = 1 by decide) (by omega)
      have ee_ := congrArg Int32.toInt ev
      have e0_ : (0 : Int32).toInt = 0 := by decide
      have e1_ : (1 : Int32).toInt = 1 := by decide
      have em_ : (-1 : Int32).toInt = -1 := by decide
      exfalso; omega
  · intro v162 v163 r194 z199 z202 hp ih p0_0 p1_0 p1_1 p2_0 p3_0 p4_0 v162'' v163'' h' ev
    rcases I_widthOf_4_1.inv h' with ⟨rfl, rfl⟩ | ⟨v162', v163', r194', z199', z202', hp', q0_0, q1_0, q1_1, q2_0, q3_0, q4_0, rfl, rfl⟩ | ⟨v162', v163', r194', z205', z208', z210', z212', hp', q0_0, q1_0, q1_1, q2_0, q3_0, q4_0, q5_0, q6_0, rfl, rfl⟩
    · skip
      have u_ := u_width1 h4 hp
      have e_ := za p4_0 rfl (show (1 : Int32).toInt = 1 by decide) (by omega)
      have ee_ := congrArg Int32.toInt ev
      have e0_ : (0 : Int32).toInt = 0 := by decide
      have e1_ : (1 : Int32).toInt = 1 := by decide
      have em_ : (-1 : Int32).toInt = -1 := by decide
      exfalso; omega
    · skip
      have ev2 : v163 = v163' := i32c (p4_0.symm.trans (ev.trans q4_0))
      have hi := ih _ _ hp' ev2
      subst ev2
      have u_ := u_width1 h4 hp
      have he0 := hi
      subst he0
      subst p3_0
      subst p4_0
      subst q3_0
      subst q4_0
      obtain rfl := d_isOf p1_1 q1_1
      rfl
    · skip
      have ev2 : v163 = v163' := i32c (p4_0.symm.trans (ev.trans q6_0))
      have hi := ih _ _ hp' ev2
      subst ev2
      have u_ := u_width1 h4 hp
      have he0 := hi
      subst he0
      subst p3_0
      subst p4_0
      subst q3_0
      subst q4_0
      subst q5_0
      subst q6_0
      obtain rfl := d_isOf p1_1 q1_1
      exact absurd p2_0 q2_0
  · intro v162 v163 r194 z205 z208 z210 z212 hp ih p0_0 p1_0 p1_1 p2_0 p3_0 p4_0 p5_0 p6_0 v162'' v163'' h' ev
    rcases I_widthOf_4_1.inv h' with ⟨rfl, rfl⟩ | ⟨v162', v163', r194', z199', z202', hp', q0_0, q1_0, q1_1, q2_0, q3_0, q4_0, rfl, rfl⟩ | ⟨v162', v163', r194', z205', z208', z210', z212', hp', q0_0, q1_0, q1_1, q2_0, q3_0, q4_0, q5_0, q6_0, rfl, rfl⟩
    · skip
      have u_ := u_width1 h4 hp
      have e_ := za p6_0 rfl (show (1 : Int32).toInt = 1 by decide) (by omega)
      have ee_ := congrArg Int32.toInt ev
      have e0_ : (0 : Int32).toInt = 0 := by decide
      have e1_ : (1 : Int32).toInt = 1 := by decide
      have em_ : (-1 : Int32).toInt = -1 := by decide
      exfalso; omega
    · skip
      have ev2 : v163 = v163' := i32c (p6_0.symm.trans (ev.trans q4_0))
      have hi := ih _ _ hp' ev2
      subst ev2
      have u_ := u_width1 h4 hp
      have he0 := hi
      subst he0
      subst p3_0
      subst p4_0
      subst p5_0
      subst p6_0
      subst q3_0
      subst q4_0
      obtain rfl := d_isOf p1_1 q1_1
      exact absurd q2_0 p2_0
    · skip
      have ev2 : v163 = v163' := i32c (p6_0.symm.trans (ev.trans q6_0))
      have hi := ih _ _ hp' ev2
      subst ev2
      have u_ := u_width1 h4 hp
      have he0 := hi
      subst he0
      subst p3_0
      subst p4_0
      subst p5_0
      subst p6_0
      subst q3_0
      subst q4_0
      subst q5_0
      subst q6_0
      obtain rfl := d_isOf p1_1 q1_1
      rfl
theorem d_widthOf {x1 : Int32} {f_h0_told : (Nat → Int32)} {h0_told_4 : Int32}  {o_r : Int32} {o_r' : Int32} (h : S_widthOf x1 f_h0_told h0_told_4 o_r) (h' : S_widthOf x1 f_h0_told h0_told_4 o_r')  (h4 : 0 ≤ h0_told_4.toInt ∧ h0_told_4.toInt ≤ 8) : o_r = o_r' := by
  rcases h with ⟨v162, v163, p0_0, p0_1, p1_0, rfl⟩ | h
  · rcases h' with ⟨v162', v163', q0_0, q0_1, q1_0, rfl⟩ | h'
    · skip
      have u1 := u_width1 h4 p0_0
      have u2 := u_width1 h4 q0_0
      have ev : v163 = v163' := i32e (by omega)
      subst ev
      obtain rfl := d_width1 h4 p0_0 _ _ q0_0 rfl
      rfl
    · exact h'.elim
  · exact h.elim
theorem u_tools1 {f_h0_told : (Nat → Int32)} {h0_told_4 : Int32} {x1 : Int32}  (h4 : 0 ≤ h0_told_4.toInt ∧ h0_told_4.toInt ≤ 8) {v218 : Int32} {v219 : Int32} (h : I_toolsOf_4_1 f_h0_told h0_told_4 x1 v218 v219) : 1 ≤ v219.toInt ∧ v219.toInt ≤ ((1 : Int32) <<< (h0_told_4 &&& 31)).toInt ∧ -1 ≤ v218.toInt ∧ v218.toInt ≤ 255 := by
  refine I_toolsOf_4_1.ind (Q_ := fun v218 v219 => 1 ≤ v219.toInt ∧ v219.toInt ≤ ((1 : Int32) <<< (h0_told_4 &&& 31)).toInt ∧ -1 ≤ v218.toInt ∧ v218.toInt ≤ 255) ?_ ?_ ?_ ?_ ?_ h
  · have e0_ : (0 : Int32).toInt = 0 := by decide
    have e1_ : (1 : Int32).toInt = 1 := by decide
    have em_ : (-1 : Int32).toInt = -1 := by decide
    have z_ := shl8 h4
    omega
  · intro v218 v219 z259 r263 z265 z268 z271 hp ih p0_0 p1_0 p2_0 p3_0 p4_0 p5_0 p6_0
    have z_ := shl8 h4
    subst p0_0
    have e_ : z271.toInt = v219.toInt + 1 := za p6_0 rfl (show (1 : Int32).toInt = 1 by decide) (by omega)
    omega
  · intro v218 v219 z259 r263 z265 z268 z275 hp ih p0_0 p1_0 p2_0 p3_0 p4_0 p5_0 p6_0 p7_0
    have z_ := shl8 h4
    subst p0_0
    have e_ : z275.toInt = v219.toInt + 1 := za p7_0 rfl (show (1 : Int32).toInt = 1 by decide) (by omega)
    omega
  · intro v218 v219 z259 r263 z265 z268 r278 r280 z283 hp ih p0_0 p1_0 p2_0 p3_0 p4_0 p5_0 p6_0 p7_0 p8_0 p9_0 p10_0
    have z_ := shl8 h4
    subst p0_0
    have e_ : z283.toInt = v219.toInt + 1 := za p10_0 rfl (show (1 : Int32).toInt = 1 by decide) (by omega)
    omega
  · intro v218 v219 z259 r263 z265 z268 r278 r280 z286 hp ih p0_0 p1_0 p2_0 p3_0 p4_0 p5_0 p6_0 p7_0 p8_0 p9_0 p10_0
    have z_ := shl8 h4
    subst p0_0
    have e_ : z286.toInt = v219.toInt + 1 := za p10_0 rfl (show (1 : Int32).toInt = 1 by decide) (by omega)
    omega
theorem d_tools1 {f_h0_told : (Nat → Int32)} {h0_told_4 : Int32} {x1 : Int32}   (h4 : 0 ≤ h0_told_4.toInt ∧ h0_told_4.toInt ≤ 8) {v218 : Int32} {v219 : Int32} (h : I_toolsOf_4_1 f_h0_told h0_told_4 x1 v218 v219) : ∀ (v218' : Int32) (v219' : Int32), I_toolsOf_4_1 f_h0_told h0_told_4 x1 v218' v219' → v219 = v219' → v218 = v218' := by
  refine I_toolsOf_4_1.ind (Q_ := fun v218 v219 => ∀ (v218' : Int32) (v219' : Int32), I_toolsOf_4_1 f_h0_told h0_told_4 x1 v218' v219' → v219 = v219' → v218 = v218') ?_ ?_ ?_ ?_ ?_ h
  · intro v218'' v219'' h' ev
    rcases I_toolsOf_4_1.inv h' with ⟨rfl, rfl⟩ | ⟨v218', v219', z259', r263', z265', z268', z271', hp', q0_0, q1_0, q2_0, q3_0, q4_0, q5_0, q6_0, rfl, rfl⟩ | ⟨v218', v219', z259', r263', z265', z268', z275', hp', q0_0, q1_0, q2_0, q3_0, q4_0, q5_0, q6_0, q7_0, rfl, rfl⟩ | ⟨v218', v219', z259', r263', z265', z268', r278', r280', z283', hp', q0_0, q1_0, q2_0, q3_0, q4_0, q5_0, q6_0, q7_0, q8_0, q9_0, q10_0, rfl, rfl⟩ | ⟨v218', v219', z259', r263', z265', z268', r278', r280', z286', hp', q0_0, q1_0, q2_0, q3_0, q4_0, q5_0, q6_0, q7_0, q8_0, q9_0, q10_0, rfl, rfl⟩
    · skip
      rfl
    · skip
      have z_ := shl8 h4
      subst q0_0
      have u_ := u_tools1 h4 hp'
      have e_ := za q6_0 rfl (show (1 : Int32).toInt = 1 by decide) (by omega)
      have ee_ := congrArg Int32.toInt ev
      have e0_ : (0 : Int32).toInt = 0 := by decide
      have e1_ : (1 : Int32).toInt = 1 := by decide
      have em_ : (-1 : Int32).toInt = -1 := by decide
      exfalso; omega
    · skip
      have z_ := shl8 h4
      subst q0_0
      have u_ := u_tools1 h4 hp'
      have e_ := za q7_0 rfl (show (1 : Int32).toInt = 1 by decide) (by omega)
      have ee_ := congrArg Int32.toInt ev
      have e0_ : (0 : Int32).toInt = 0 := by decide
      have e1_ : (1 : Int32).toInt = 1 := by decide
      have em_ : (-1 : Int32).toInt = -1 := by decide
      exfalso; omega
    · skip
      have z_ := shl8 h4
      subst q0_0
      have u_ := u_tools1 h4 hp'
      have e_ := za q10_0 rfl (show (1 : Int32).toInt = 1 by decide) (by omega)
      have ee_ := congrArg Int32.toInt ev
      have e0_ : (0 : Int32).toInt = 0 := by decide
      have e1_ : (1 : Int32).toInt = 1 := by decide
      have em_ : (-1 : Int32).toInt = -1 := by decide
      exfalso; omega
    · skip
      have z_ := shl8 h4
      subst q0_0
      have u_ := u_tools1 h4 hp'
      have e_ := za q10_0 rfl (show (1 : Int32).toInt = 1 by decide) (by omega)
      have ee_ := congrArg Int32.toInt ev
      have e0_ : (0 : Int32).toInt = 0 := by decide
      have e1_ : (1 : Int32).toInt = 1 := by decide
      have em_ : (-1 : Int32).toInt = -1 := by decide
      exfalso; omega
  · intro v218 v219 z259 r263 z265 z268 z271 hp ih p0_0 p1_0 p2_0 p3_0 p4_0 p5_0 p6_0 v218'' v219'' h' ev
    rcases I_toolsOf_4_1.inv h' with ⟨rfl, rfl⟩ | ⟨v218', v219', z259', r263', z265', z268', z271', hp', q0_0, q1_0, q2_0, q3_0, q4_0, q5_0, q6_0, rfl, rfl⟩ | ⟨v218', v219', z259', r263', z265', z268', z275', hp', q0_0, q1_0, q2_0, q3_0, q4_0, q5_0, q6_0, q7_0, rfl, rfl⟩ | ⟨v218', v219', z259', r263', z265', z268', r278', r280', z283', hp', q0_0, q1_0, q2_0, q3_0, q4_0, q5_0, q6_0, q7_0, q8_0, q9_0, q10_0, rfl, rfl⟩ | ⟨v218', v219', z259', r263', z265', z268', r278', r280', z286', hp', q0_0, q1_0, q2_0, q3_0, q4_0, q5_0, q6_0, q7_0, q8_0, q9_0, q10_0, rfl, rfl⟩
    · skip
      have z_ := shl8 h4
      subst p0_0
      have u_ := u_tools1 h4 hp
      have e_ := za p6_0 rfl (show (1 : Int32).toInt = 1 by decide) (by omega)
      have ee_ := congrArg Int32.toInt ev
      have e0_ : (0 : Int32).toInt = 0 := by decide
      have e1_ : (1 : Int32).toInt = 1 := by decide
      have em_ : (-1 : Int32).toInt = -1 := by decide
      exfalso; omega
    · skip
      have ev2 : v219 = v219' := i32c (p6_0.symm.trans (ev.trans q6_0))
      have hi := ih _ _ hp' ev2
      subst ev2
      have u_ := u_tools1 h4 hp
      have z_ := shl8 h4
      have he0 := hi
      subst he0
      subst p0_0
      subst p3_0
      subst p4_0
      subst p6_0
      subst q0_0
      subst q3_0
      subst q4_0
      subst q6_0
      obtain rfl := d_widthOf p2_0 q2_0 h4
      rfl
    · skip
      have ev2 : v219 = v219' := i32c (p6_0.symm.trans (ev.trans q7_0))
      have hi := ih _ _ hp' ev2
      subst ev2
      have u_ := u_tools1 h4 hp
      have z_ := shl8 h4
      have he0 := hi
      subst he0
      subst p0_0
      subst p3_0
      subst p4_0
      subst p6_0
      subst q0_0
      subst q3_0
      subst q4_0
      subst q7_0
      obtain rfl := d_widthOf p2_0 q2_0 h4
      exact absurd q5_0 p5_0
    · skip
      have ev2 : v219 = v219' := i32c (p6_0.symm.trans (ev.trans q10_0))
      have hi := ih _ _ hp' ev2
      subst ev2
      have u_ := u_tools1 h4 hp
      have z_ := shl8 h4
      have he0 := hi
      subst he0
      subst p0_0
      subst p3_0
      subst p4_0
      subst p6_0
      subst q0_0
      subst q3_0
      subst q4_0
      subst q10_0
      obtain rfl := d_widthOf p2_0 q2_0 h4
      exact absurd q5_0 p5_0
    · skip
      have ev2 : v219 = v219' := i32c (p6_0.symm.trans (ev.trans q10_0))
      have hi := ih _ _ hp' ev2
      subst ev2
      have u_ := u_tools1 h4 hp
      have z_ := shl8 h4
      have he0 := hi
      subst he0
      subst p0_0
      subst p3_0
      subst p4_0
      subst p6_0
      subst q0_0
      subst q3_0
      subst q4_0
      subst q10_0
      obtain rfl := d_widthOf p2_0 q2_0 h4
      exact absurd q5_0 p5_0
  · intro v218 v219 z259 r263 z265 z268 z275 hp ih p0_0 p1_0 p2_0 p3_0 p4_0 p5_0 p6_0 p7_0 v218'' v219'' h' ev
    rcases I_toolsOf_4_1.inv h' with ⟨rfl, rfl⟩ | ⟨v218', v219', z259', r263', z265', z268', z271', hp', q0_0, q1_0, q2_0, q3_0, q4_0, q5_0, q6_0, rfl, rfl⟩ | ⟨v218', v219', z259', r263', z265', z268', z275', hp', q0_0, q1_0, q2_0, q3_0, q4_0, q5_0, q6_0, q7_0, rfl, rfl⟩ | ⟨v218', v219', z259', r263', z265', z268', r278', r280', z283', hp', q0_0, q1_0, q2_0, q3_0, q4_0, q5_0, q6_0, q7_0, q8_0, q9_0, q10_0, rfl, rfl⟩ | ⟨v218', v219', z259', r263', z265', z268', r278', r280', z286', hp', q0_0, q1_0, q2_0, q3_0, q4_0, q5_0, q6_0, q7_0, q8_0, q9_0, q10_0, rfl, rfl⟩
    · skip
      have z_ := shl8 h4
      subst p0_0
      have u_ := u_tools1 h4 hp
      have e_ := za p7_0 rfl (show (1 : Int32).toInt = 1 by decide) (by omega)
      have ee_ := congrArg Int32.toInt ev
      have e0_ : (0 : Int32).toInt = 0 := by decide
      have e1_ : (1 : Int32).toInt = 1 := by decide
      have em_ : (-1 : Int32).toInt = -1 := by decide
      exfalso; omega
    · skip
      have ev2 : v219 = v219' := i32c (p7_0.symm.trans (ev.trans q6_0))
      have hi := ih _ _ hp' ev2
      subst ev2
      have u_ := u_tools1 h4 hp
      have z_ := shl8 h4
      have he0 := hi
      subst he0
      subst p0_0
      subst p3_0
      subst p4_0
      subst p7_0
      subst q0_0
      subst q3_0
      subst q4_0
      subst q6_0
      obtain rfl := d_widthOf p2_0 q2_0 h4
      exact absurd p5_0 q5_0
    · skip
      have ev2 : v219 = v219' := i32c (p7_0.symm.trans (ev.trans q7_0))
      have hi := ih _ _ hp' ev2
      subst ev2
      have u_ := u_tools1 h4 hp
      have z_ := shl8 h4
      have he0 := hi
      subst he0
      subst p0_0
      subst p3_0
      subst p4_0
      subst p7_0
      subst q0_0
      subst q3_0
      subst q4_0
      subst q7_0
      obtain rfl := d_widthOf p2_0 q2_0 h4
      rfl
    · skip
      have ev2 : v219 = v219' := i32c (p7_0.symm.trans (ev.trans q10_0))
      have hi := ih _ _ hp' ev2
      subst ev2
      have u_ := u_tools1 h4 hp
      have z_ := shl8 h4
      have he0 := hi
      subst he0
      subst p0_0
      subst p3_0
      subst p4_0
      subst p7_0
      subst q0_0
      subst q3_0
      subst q4_0
      subst q10_0
      obtain rfl := d_widthOf p2_0 q2_0 h4
      exact absurd p6_0 q6_0
    · skip
      have ev2 : v219 = v219' := i32c (p7_0.symm.trans (ev.trans q10_0))
      have hi := ih _ _ hp' ev2
      subst ev2
      have u_ := u_tools1 h4 hp
      have z_ := shl8 h4
      have he0 := hi
      subst he0
      subst p0_0
      subst p3_0
      subst p4_0
      subst p7_0
      subst q0_0
      subst q3_0
      subst q4_0
      subst q10_0
      obtain rfl := d_widthOf p2_0 q2_0 h4
      exact absurd p6_0 q6_0
  · intro v218 v219 z259 r263 z265 z268 r278 r280 z283 hp ih p0_0 p1_0 p2_0 p3_0 p4_0 p5_0 p6_0 p7_0 p8_0 p9_0 p10_0 v218'' v219'' h' ev
    rcases I_toolsOf_4_1.inv h' with ⟨rfl, rfl⟩ | ⟨v218', v219', z259', r263', z265', z268', z271', hp', q0_0, q1_0, q2_0, q3_0, q4_0, q5_0, q6_0, rfl, rfl⟩ | ⟨v218', v219', z259', r263', z265', z268', z275', hp', q0_0, q1_0, q2_0, q3_0, q4_0, q5_0, q6_0, q7_0, rfl, rfl⟩ | ⟨v218', v219', z259', r263', z265', z268', r278', r280', z283', hp', q0_0, q1_0, q2_0, q3_0, q4_0, q5_0, q6_0, q7_0, q8_0, q9_0, q10_0, rfl, rfl⟩ | ⟨v218', v219', z259', r263', z265', z268', r278', r280', z286', hp', q0_0, q1_0, q2_0, q3_0, q4_0, q5_0, q6_0, q7_0, q8_0, q9_0, q10_0, rfl, rfl⟩
    · skip
      have z_ := shl8 h4
      subst p0_0
      have u_ := u_tools1 h4 hp
      have e_ := za p10_0 rfl (show (1 : Int32).toInt = 1 by decide) (by omega)
      have ee_ := congrArg Int32.toInt ev
      have e0_ : (0 : Int32).toInt = 0 := by decide
      have e1_ : (1 : Int32).toInt = 1 := by decide
      have em_ : (-1 : Int32).toInt = -1 := by decide
      exfalso; omega
    · skip
      have ev2 : v219 = v219' := i32c (p10_0.symm.trans (ev.trans q6_0))
      have hi := ih _ _ hp' ev2
      subst ev2
      have u_ := u_tools1 h4 hp
      have z_ := shl8 h4
      have he0 := hi
      subst he0
      subst p0_0
      subst p3_0
      subst p4_0
      subst p10_0
      subst q0_0
      subst q3_0
      subst q4_0
      subst q6_0
      obtain rfl := d_widthOf p2_0 q2_0 h4
      exact absurd p5_0 q5_0
    · skip
      have ev2 : v219 = v219' := i32c (p10_0.symm.trans (ev.trans q7_0))
      have hi := ih _ _ hp' ev2
      subst ev2
      have u_ := u_tools1 h4 hp
      have z_ := shl8 h4
      have he0 := hi
      subst he0
      subst p0_0
      subst p3_0
      subst p4_0
      subst p10_0
      subst q0_0
      subst q3_0
      subst q4_0
      subst q7_0
      obtain rfl := d_widthOf p2_0 q2_0 h4
      exact absurd q6_0 p6_0
    · skip
      have ev2 : v219 = v219' := i32c (p10_0.symm.trans (ev.trans q10_0))
      have hi := ih _ _ hp' ev2
      subst ev2
      have u_ := u_tools1 h4 hp
      have z_ := shl8 h4
      have he0 := hi
      subst he0
      subst p0_0
      subst p3_0
      subst p4_0
      subst p10_0
      subst q0_0
      subst q3_0
      subst q4_0
      subst q10_0
      obtain rfl := d_widthOf p2_0 q2_0 h4
      obtain rfl := d_bits p7_0 q7_0 (by omega)
      obtain rfl := d_bits p8_0 q8_0 (by omega)
      rfl
    · skip
      have ev2 : v219 = v219' := i32c (p10_0.symm.trans (ev.trans q10_0))
      have hi := ih _ _ hp' ev2
      subst ev2
      have u_ := u_tools1 h4 hp
      have z_ := shl8 h4
      have he0 := hi
      subst he0
      subst p0_0
      subst p3_0
      subst p4_0
      subst p10_0
      subst q0_0
      subst q3_0
      subst q4_0
      subst q10_0
      obtain rfl := d_widthOf p2_0 q2_0 h4
      obtain rfl := d_bits p7_0 q7_0 (by omega)
      obtain rfl := d_bits p8_0 q8_0 (by omega)
      exact absurd p9_0 q9_0
  · intro v218 v219 z259 r263 z265 z268 r278 r280 z286 hp ih p0_0 p1_0 p2_0 p3_0 p4_0 p5_0 p6_0 p7_0 p8_0 p9_0 p10_0 v218'' v219'' h' ev
    rcases I_toolsOf_4_1.inv h' with ⟨rfl, rfl⟩ | ⟨v218', v219', z259', r263', z265', z268', z271', hp', q0_0, q1_0, q2_0, q3_0, q4_0, q5_0, q6_0, rfl, rfl⟩ | ⟨v218', v219', z259', r263', z265', z268', z275', hp', q0_0, q1_0, q2_0, q3_0, q4_0, q5_0, q6_0, q7_0, rfl, rfl⟩ | ⟨v218', v219', z259', r263', z265', z268', r278', r280', z283', hp', q0_0, q1_0, q2_0, q3_0, q4_0, q5_0, q6_0, q7_0, q8_0, q9_0, q10_0, rfl, rfl⟩ | ⟨v218', v219', z259', r263', z265', z268', r278', r280', z286', hp', q0_0, q1_0, q2_0, q3_0, q4_0, q5_0, q6_0, q7_0, q8_0, q9_0, q10_0, rfl, rfl⟩
    · skip
      have z_ := shl8 h4
      subst p0_0
      have u_ := u_tools1 h4 hp
      have e_ := za p10_0 rfl (show (1 : Int32).toInt = 1 by decide) (by omega)
      have ee_ := congrArg Int32.toInt ev
      have e0_ : (0 : Int32).toInt = 0 := by decide
      have e1_ : (1 : Int32).toInt = 1 := by decide
      have em_ : (-1 : Int32).toInt = -1 := by decide
      exfalso; omega
    · skip
      have ev2 : v219 = v219' := i32c (p10_0.symm.trans (ev.trans q6_0))
      have hi := ih _ _ hp' ev2
      subst ev2
      have u_ := u_tools1 h4 hp
      have z_ := shl8 h4
      have he0 := hi
      subst he0
      subst p0_0
      subst p3_0
      subst p4_0
      subst p10_0
      subst q0_0
      subst q3_0
      subst q4_0
      subst q6_0
      obtain rfl := d_widthOf p2_0 q2_0 h4
      exact absurd p5_0 q5_0
    · skip
      have ev2 : v219 = v219' := i32c (p10_0.symm.trans (ev.trans q7_0))
      have hi := ih _ _ hp' ev2
      subst ev2
      have u_ := u_tools1 h4 hp
      have z_ := shl8 h4
      have he0 := hi
      subst he0
      subst p0_0
      subst p3_0
      subst p4_0
      subst p10_0
      subst q0_0
      subst q3_0
      subst q4_0
      subst q7_0
      obtain rfl := d_widthOf p2_0 q2_0 h4
      exact absurd q6_0 p6_0
    · skip
      have ev2 : v219 = v219' := i32c (p10_0.symm.trans (ev.trans q10_0))
      have hi := ih _ _ hp' ev2
      subst ev2
      have u_ := u_tools1 h4 hp
      have z_ := shl8 h4
      have he0 := hi
      subst he0
      subst p0_0
      subst p3_0
      subst p4_0
      subst p10_0
      subst q0_0
      subst q3_0
      subst q4_0
      subst q10_0
      obtain rfl := d_widthOf p2_0 q2_0 h4
      obtain rfl := d_bits p7_0 q7_0 (by omega)
      obtain rfl := d_bits p8_0 q8_0 (by omega)
      exact absurd q9_0 p9_0
    · skip
      have ev2 : v219 = v219' := i32c (p10_0.symm.trans (ev.trans q10_0))
      have hi := ih _ _ hp' ev2
      subst ev2
      have u_ := u_tools1 h4 hp
      have z_ := shl8 h4
      have he0 := hi
      subst he0
      subst p0_0
      subst p3_0
      subst p4_0
      subst p10_0
      subst q0_0
      subst q3_0
      subst q4_0
      subst q10_0
      obtain rfl := d_widthOf p2_0 q2_0 h4
      obtain rfl := d_bits p7_0 q7_0 (by omega)
      obtain rfl := d_bits p8_0 q8_0 (by omega)
      rfl
theorem d_toolsOf {x1 : Int32} {f_h0_told : (Nat → Int32)} {h0_told_4 : Int32}  {o_r : Int32} {o_r' : Int32} (h : S_toolsOf x1 f_h0_told h0_told_4 o_r) (h' : S_toolsOf x1 f_h0_told h0_told_4 o_r')  (h4 : 0 ≤ h0_told_4.toInt ∧ h0_told_4.toInt ≤ 8) : o_r = o_r' := by
  rcases h with ⟨v218, v219, z259, p0_0, p0_1, p0_2, rfl, p2_0, rfl⟩ | h
  · rcases h' with ⟨v218', v219', z259', q0_0, q0_1, q0_2, rfl, q2_0, rfl⟩ | h'
    · skip
      have z_ := shl8 h4
      have u1 := u_tools1 h4 p0_0
      have u2 := u_tools1 h4 q0_0
      have ev : v219 = v219' := i32e (by omega)
      subst ev
      obtain rfl := d_tools1 h4 p0_0 _ _ q0_0 rfl
      rfl
    · exact h'.elim
  · exact h.elim
theorem d_bendMany {h0_hasPart : Int32} {h0_told_3 : Int32}  {o_r : Int32} {o_r' : Int32} (h : S_bendMany h0_hasPart h0_told_3 o_r) (h' : S_bendMany h0_hasPart h0_told_3 o_r')  : o_r = o_r' := by
  rcases h with ⟨p0_0, rfl⟩ | ⟨z2, p0_0, rfl, rfl⟩ | h
  · rcases h' with ⟨q0_0, rfl⟩ | ⟨z2', q0_0, rfl, rfl⟩ | h'
    · skip
      rfl
    · skip
      exact absurd p0_0 q0_0
    · exact h'.elim
  · rcases h' with ⟨q0_0, rfl⟩ | ⟨z2', q0_0, rfl, rfl⟩ | h'
    · skip
      exact absurd q0_0 p0_0
    · skip
      rfl
    · exact h'.elim
  · exact h.elim
theorem d_allBends {h0_hasPart : Int32} {h0_told_3 : Int32}  {o_r : Int32} {o_r' : Int32} (h : S_allBends h0_hasPart h0_told_3 o_r) (h' : S_allBends h0_hasPart h0_told_3 o_r')  : o_r = o_r' := by
  rcases h with ⟨r1, z5, z8, p0_0, p0_1, p0_2, rfl, rfl, rfl⟩ | h
  · rcases h' with ⟨r1', z5', z8', q0_0, q0_1, q0_2, rfl, rfl, rfl⟩ | h'
    · skip
      obtain rfl := d_bendMany p0_2 q0_2
      rfl
    · exact h'.elim
  · exact h.elim
theorem u_forg1 {l f : Nat → Int32} {v : Int32} (h : I_forgetsLain_2_1 l v f) : (0 ≤ v.toInt ∧ v.toInt ≤ 6561) ∧ ∀ k, k < v.toInt.toNat → f k = -1 := by
  refine I_forgetsLain_2_1.ind (Q_ := fun v f => (0 ≤ v.toInt ∧ v.toInt ≤ 6561) ∧ ∀ k, k < v.toInt.toNat → f k = -1) ?_ ?_ h
  · have e0_ : (0 : Int32).toInt = 0 := by decide
    exact ⟨by omega, fun k hk => by omega⟩
  · intro v f g z hp ih c e1 e2
    have e_ := za e2 rfl (show (1 : Int32).toInt = 1 by decide) (by omega)
    refine ⟨by omega, fun k hk => ?_⟩
    subst e1; unfold upd; split
    · rfl
    · rename_i q; exact ih.2 k (by rw [nat_] at q; omega)

theorem u_forg2 {f_h0_told : (Nat → Int32)} {h0_hasPart : Int32} {h0_told_3 : Int32} {h0_told_4 : Int32} (ht : 1 ≤ h0_told_3.toInt ∧ h0_told_3.toInt ≤ 9) (hh : h0_hasPart.toInt = 1) {v1034 : Int32} {v1035 : Int32} (h : I_forgetsLain_29_2 f_h0_told h0_hasPart h0_told_3 h0_told_4 v1034 v1035) : 1 ≤ v1034.toInt ∧ v1034.toInt ≤ h0_told_3.toInt := by
  refine I_forgetsLain_29_2.ind (Q_ := fun v1034 v1035 => 1 ≤ v1034.toInt ∧ v1034.toInt ≤ h0_told_3.toInt) ?_ ?_ ?_ h
  · have e0_ : (0 : Int32).toInt = 0 := by decide
    have e1_ : (1 : Int32).toInt = 1 := by decide
    have em_ : (-1 : Int32).toInt = -1 := by decide
    omega
  · intro v1034 v1035 r1072 r1077 z1081 z1084 hp ih p0_0 p0_1 p0_2 p1_0 p2_0 p2_1 p3_0 p4_0 p5_0
    have e_ : z1084.toInt = v1034.toInt + 1 := za p5_0 rfl (show (1 : Int32).toInt = 1 by decide) (by omega)
    omega
  · intro v1034 v1035 r1072 r1077 z1087 z1090 z1093 z1096 hp ih p0_0 p0_1 p0_2 p1_0 p2_0 p2_1 p3_0 p4_0 p5_0 p6_0 p7_0
    have e_ : z1096.toInt = v1034.toInt + 1 := za p7_0 rfl (show (1 : Int32).toInt = 1 by decide) (by omega)
    omega
theorem d_forg2 {f_h0_told : (Nat → Int32)} {h0_hasPart : Int32} {h0_told_3 : Int32} {h0_told_4 : Int32}  (ht : 1 ≤ h0_told_3.toInt ∧ h0_told_3.toInt ≤ 9) (hh : h0_hasPart.toInt = 1) (h4 : 0 ≤ h0_told_4.toInt ∧ h0_told_4.toInt ≤ 8) {v1034 : Int32} {v1035 : Int32} (h : I_forgetsLain_29_2 f_h0_told h0_hasPart h0_told_3 h0_told_4 v1034 v1035) : ∀ (v1034' : Int32) (v1035' : Int32), I_forgetsLain_29_2 f_h0_told h0_hasPart h0_told_3 h0_told_4 v1034' v1035' → v1034 = v1034' → v1035 = v1035' := by
  refine I_forgetsLain_29_2.ind (Q_ := fun v1034 v1035 => ∀ (v1034' : Int32) (v1035' : Int32), I_forgetsLain_29_2 f_h0_told h0_hasPart h0_told_3 h0_told_4 v1034' v1035' → v1034 = v1034' → v1035 = v1035') ?_ ?_ ?_ h
  · intro v1034'' v1035'' h' ev
    rcases I_forgetsLain_29_2.inv h' with ⟨rfl, rfl⟩ | ⟨v1034', v1035', r1072', r1077', z1081', z1084', hp', q0_0, q0_1, q0_2, q1_0, q2_0, q2_1, q3_0, q4_0, q5_0, rfl, rfl⟩ | ⟨v1034', v1035', r1072', r1077', z1087', z1090', z1093', z1096', hp', q0_0, q0_1, q0_2, q1_0, q2_0, q2_1, q3_0, q4_0, q5_0, q6_0, q7_0, rfl, rfl⟩
    · skip
      rfl
    · skip
      have u_ := u_forg2 ht hh hp'
      have e_ := za q5_0 rfl (show (1 : Int32).toInt = 1 by decide) (by omega)
      have ee_ := congrArg Int32.toInt ev
      have e0_ : (0 : Int32).toInt = 0 := by decide
      have e1_ : (1 : Int32).toInt = 1 := by decide
      have em_ : (-1 : Int32).toInt = -1 := by decide
      exfalso; omega
    · skip
      have u_ := u_forg2 ht hh hp'
      have e_ := za q7_0 rfl (show (1 : Int32).toInt = 1 by decide) (by omega)
      have ee_ := congrArg Int32.toInt ev
      have e0_ : (0 : Int32).toInt = 0 := by decide
      have e1_ : (1 : Int32).toInt = 1 := by decide
      have em_ : (-1 : Int32).toInt = -1 := by decide
      exfalso; omega
  · intro v1034 v1035 r1072 r1077 z1081 z1084 hp ih p0_0 p0_1 p0_2 p1_0 p2_0 p2_1 p3_0 p4_0 p5_0 v1034'' v1035'' h' ev
    rcases I_forgetsLain_29_2.inv h' with ⟨rfl, rfl⟩ | ⟨v1034', v1035', r1072', r1077', z1081', z1084', hp', q0_0, q0_1, q0_2, q1_0, q2_0, q2_1, q3_0, q4_0, q5_0, rfl, rfl⟩ | ⟨v1034', v1035', r1072', r1077', z1087', z1090', z1093', z1096', hp', q0_0, q0_1, q0_2, q1_0, q2_0, q2_1, q3_0, q4_0, q5_0, q6_0, q7_0, rfl, rfl⟩
    · skip
      have u_ := u_forg2 ht hh hp
      have e_ := za p5_0 rfl (show (1 : Int32).toInt = 1 by decide) (by omega)
      have ee_ := congrArg Int32.toInt ev
      have e0_ : (0 : Int32).toInt = 0 := by decide
      have e1_ : (1 : Int32).toInt = 1 := by decide
      have em_ : (-1 : Int32).toInt = -1 := by decide
      exfalso; omega
    · skip
      have ev2 : v1034 = v1034' := i32c (p5_0.symm.trans (ev.trans q5_0))
      have hi := ih _ _ hp' ev2
      subst ev2
      have u_ := u_forg2 ht hh hp
      have he0 := hi
      subst he0
      subst p4_0
      subst p5_0
      subst q4_0
      subst q5_0
      obtain rfl := d_bendMany p0_2 q0_2
      obtain rfl := d_toolsOf p2_1 q2_1 h4
      rfl
    · skip
      have ev2 : v1034 = v1034' := i32c (p5_0.symm.trans (ev.trans q7_0))
      have hi := ih _ _ hp' ev2
      subst ev2
      have u_ := u_forg2 ht hh hp
      have he0 := hi
      subst he0
      subst p4_0
      subst p5_0
      subst q4_0
      subst q5_0
      subst q6_0
      subst q7_0
      obtain rfl := d_bendMany p0_2 q0_2
      obtain rfl := d_toolsOf p2_1 q2_1 h4
      exact absurd p3_0 q3_0
  · intro v1034 v1035 r1072 r1077 z1087 z1090 z1093 z1096 hp ih p0_0 p0_1 p0_2 p1_0 p2_0 p2_1 p3_0 p4_0 p5_0 p6_0 p7_0 v1034'' v1035'' h' ev
    rcases I_forgetsLain_29_2.inv h' with ⟨rfl, rfl⟩ | ⟨v1034', v1035', r1072', r1077', z1081', z1084', hp', q0_0, q0_1, q0_2, q1_0, q2_0, q2_1, q3_0, q4_0, q5_0, rfl, rfl⟩ | ⟨v1034', v1035', r1072', r1077', z1087', z1090', z1093', z1096', hp', q0_0, q0_1, q0_2, q1_0, q2_0, q2_1, q3_0, q4_0, q5_0, q6_0, q7_0, rfl, rfl⟩
    · skip
      have u_ := u_forg2 ht hh hp
      have e_ := za p7_0 rfl (show (1 : Int32).toInt = 1 by decide) (by omega)
      have ee_ := congrArg Int32.toInt ev
      have e0_ : (0 : Int32).toInt = 0 := by decide
      have e1_ : (1 : Int32).toInt = 1 := by decide
      have em_ : (-1 : Int32).toInt = -1 := by decide
      exfalso; omega
    · skip
      have ev2 : v1034 = v1034' := i32c (p7_0.symm.trans (ev.trans q5_0))
      have hi := ih _ _ hp' ev2
      subst ev2
      have u_ := u_forg2 ht hh hp
      have he0 := hi
      subst he0
      subst p4_0
      subst p5_0
      subst p6_0
      subst p7_0
      subst q4_0
      subst q5_0
      obtain rfl := d_bendMany p0_2 q0_2
      obtain rfl := d_toolsOf p2_1 q2_1 h4
      exact absurd q3_0 p3_0
    · skip
      have ev2 : v1034 = v1034' := i32c (p7_0.symm.trans (ev.trans q7_0))
      have hi := ih _ _ hp' ev2
      subst ev2
      have u_ := u_forg2 ht hh hp
      have he0 := hi
      subst he0
      subst p4_0
      subst p5_0
      subst p6_0
      subst p7_0
      subst q4_0
      subst q5_0
      subst q6_0
      subst q7_0
      obtain rfl := d_bendMany p0_2 q0_2
      obtain rfl := d_toolsOf p2_1 q2_1 h4
      rfl
theorem d_forgetsLain {h0_hasPart : Int32} {f_h0_lain : (Nat → Int32)} {f_h0_told : (Nat → Int32)} {h0_told_3 : Int32} {h0_told_4 : Int32} {f_h0_lain' : (Nat → Int32)} {o_u_h0_canTool : Int32} {o_u_h0_lain : (Nat → Int32)} {o_u_h0_canTool' : Int32} {o_u_h0_lain' : (Nat → Int32)} (h : S_forgetsLain h0_hasPart f_h0_lain f_h0_told h0_told_3 h0_told_4 o_u_h0_canTool o_u_h0_lain) (h' : S_forgetsLain h0_hasPart f_h0_lain' f_h0_told h0_told_3 h0_told_4 o_u_h0_canTool' o_u_h0_lain') (ht : 1 ≤ h0_told_3.toInt ∧ h0_told_3.toInt ≤ 9) (hh : h0_hasPart.toInt = 1) (h4 : 0 ≤ h0_told_4.toInt ∧ h0_told_4.toInt ≤ 8) : o_u_h0_canTool = o_u_h0_canTool' ∧ Ag (fun k => k < 6561) o_u_h0_lain o_u_h0_lain' := by
  rcases h with ⟨v568, fn569, v1034, v1035, r1072, p0_0, p0_1, p1_0, p2_0, p2_1, p2_2, p3_0, p3_1, p3_2, p4_0, rfl, rfl⟩ | h
  · rcases h' with ⟨v568', fn569', v1034', v1035', r1072', q0_0, q0_1, q1_0, q2_0, q2_1, q2_2, q3_0, q3_1, q3_2, q4_0, rfl, rfl⟩ | h'
    · skip
      have w1 := u_forg1 p0_0
      have w2 := u_forg1 q0_0
      have u1 := u_forg2 ht hh p2_0
      have u2 := u_forg2 ht hh q2_0
      have ev : v1034 = v1034' := i32e (by omega)
      subst ev
      obtain rfl := d_forg2 ht hh h4 p2_0 _ _ q2_0 rfl
      obtain rfl := d_bendMany p3_2 q3_2
      exact ⟨rfl, fun k hk => (w1.2 k (by omega)).trans (w2.2 k (by omega)).symm⟩
    · exact h'.elim
  · exact h.elim
theorem lt6561 {v : Int32} (h : 0 ≤ v.toInt ∧ v.toInt ≤ 6560) : v.toNatClampNeg < 6561 := by rw [nat_]; omega

theorem u_lain1 {f_h0_now : (Nat → Int32)} {r1 : Int32} {x1 : Int32}  (hr : 0 ≤ r1.toInt ∧ r1.toInt ≤ 8) {v127 : Int32} {v128 : Int32} (h : I_lainOf_7_1 f_h0_now r1 x1 v127 v128) : 0 ≤ v128.toInt ∧ v128.toInt ≤ r1.toInt := by
  refine I_lainOf_7_1.ind (Q_ := fun v127 v128 => 0 ≤ v128.toInt ∧ v128.toInt ≤ r1.toInt) ?_ ?_ ?_ h
  · have e0_ : (0 : Int32).toInt = 0 := by decide
    have e1_ : (1 : Int32).toInt = 1 := by decide
    have em_ : (-1 : Int32).toInt = -1 := by decide
    omega
  · intro v127 v128 z231 z234 r237 z242 z245 hp ih p0_0 p1_0 p2_0 p3_0 p3_1 p4_0 p5_0 p6_0
    have e_ : z245.toInt = v128.toInt + -1 := za p6_0 rfl (show (-1 : Int32).toInt = -1 by decide) (by omega)
    omega
  · intro v127 v128 z231 z234 r237 z250 z253 z256 z259 z262 hp ih p0_0 p1_0 p2_0 p3_0 p3_1 p4_0 p5_0 p6_0 p6_1 p7_0 p8_0 p9_0
    have e_ : z262.toInt = v128.toInt + -1 := za p9_0 rfl (show (-1 : Int32).toInt = -1 by decide) (by omega)
    omega
theorem d_lain1 {f_h0_now : (Nat → Int32)} {r1 : Int32} {x1 : Int32}   (hr : 0 ≤ r1.toInt ∧ r1.toInt ≤ 8) {v127 : Int32} {v128 : Int32} (h : I_lainOf_7_1 f_h0_now r1 x1 v127 v128) : ∀ (v127' : Int32) (v128' : Int32), I_lainOf_7_1 f_h0_now r1 x1 v127' v128' → v128 = v128' → v127 = v127' := by
  refine I_lainOf_7_1.ind (Q_ := fun v127 v128 => ∀ (v127' : Int32) (v128' : Int32), I_lainOf_7_1 f_h0_now r1 x1 v127' v128' → v128 = v128' → v127 = v127') ?_ ?_ ?_ h
  · intro v127'' v128'' h' ev
    rcases I_lainOf_7_1.inv h' with ⟨rfl, rfl⟩ | ⟨v127', v128', z231', z234', r237', z242', z245', hp', q0_0, q1_0, q2_0, q3_0, q3_1, q4_0, q5_0, q6_0, rfl, rfl⟩ | ⟨v127', v128', z231', z234', r237', z250', z253', z256', z259', z262', hp', q0_0, q1_0, q2_0, q3_0, q3_1, q4_0, q5_0, q6_0, q6_1, q7_0, q8_0, q9_0, rfl, rfl⟩
    · skip
      rfl
    · skip
      have u_ := u_lain1 hr hp'
      have e_ := za q6_0 rfl (show (-1 : Int32).toInt = -1 by decide) (by omega)
      have ee_ := congrArg Int32.toInt ev
      have e0_ : (0 : Int32).toInt = 0 := by decide
      have e1_ : (1 : Int32).toInt = 1 := by decide
      have em_ : (-1 : Int32).toInt = -1 := by decide
      exfalso; omega
    · skip
      have u_ := u_lain1 hr hp'
      have e_ := za q9_0 rfl (show (-1 : Int32).toInt = -1 by decide) (by omega)
      have ee_ := congrArg Int32.toInt ev
      have e0_ : (0 : Int32).toInt = 0 := by decide
      have e1_ : (1 : Int32).toInt = 1 := by decide
      have em_ : (-1 : Int32).toInt = -1 := by decide
      exfalso; omega
  · intro v127 v128 z231 z234 r237 z242 z245 hp ih p0_0 p1_0 p2_0 p3_0 p3_1 p4_0 p5_0 p6_0 v127'' v128'' h' ev
    rcases I_lainOf_7_1.inv h' with ⟨rfl, rfl⟩ | ⟨v127', v128', z231', z234', r237', z242', z245', hp', q0_0, q1_0, q2_0, q3_0, q3_1, q4_0, q5_0, q6_0, rfl, rfl⟩ | ⟨v127', v128', z231', z234', r237', z250', z253', z256', z259', z262', hp', q0_0, q1_0, q2_0, q3_0, q3_1, q4_0, q5_0, q6_0, q6_1, q7_0, q8_0, q9_0, rfl, rfl⟩
    · skip
      have u_ := u_lain1 hr hp
      have e_ := za p6_0 rfl (show (-1 : Int32).toInt = -1 by decide) (by omega)
      have ee_ := congrArg Int32.toInt ev
      have e0_ : (0 : Int32).toInt = 0 := by decide
      have e1_ : (1 : Int32).toInt = 1 := by decide
      have em_ : (-1 : Int32).toInt = -1 := by decide
      exfalso; omega
    · skip
      have ev2 : v128 = v128' := i32c (p6_0.symm.trans (ev.trans q6_0))
      have hi := ih _ _ hp' ev2
      subst ev2
      have u_ := u_lain1 hr hp
      have he0 := hi
      subst he0
      subst p1_0
      subst p2_0
      subst p5_0
      subst p6_0
      subst q1_0
      subst q2_0
      subst q5_0
      subst q6_0
      obtain rfl := d_isOf p3_1 q3_1
      rfl
    · skip
      have ev2 : v128 = v128' := i32c (p6_0.symm.trans (ev.trans q9_0))
      have hi := ih _ _ hp' ev2
      subst ev2
      have u_ := u_lain1 hr hp
      have he0 := hi
      subst he0
      subst p1_0
      subst p2_0
      subst p5_0
      subst p6_0
      subst q1_0
      subst q2_0
      subst q5_0
      subst q6_0
      subst q7_0
      subst q8_0
      subst q9_0
      obtain rfl := d_isOf p3_1 q3_1
      exact absurd p4_0 q4_0
  · intro v127 v128 z231 z234 r237 z250 z253 z256 z259 z262 hp ih p0_0 p1_0 p2_0 p3_0 p3_1 p4_0 p5_0 p6_0 p6_1 p7_0 p8_0 p9_0 v127'' v128'' h' ev
    rcases I_lainOf_7_1.inv h' with ⟨rfl, rfl⟩ | ⟨v127', v128', z231', z234', r237', z242', z245', hp', q0_0, q1_0, q2_0, q3_0, q3_1, q4_0, q5_0, q6_0, rfl, rfl⟩ | ⟨v127', v128', z231', z234', r237', z250', z253', z256', z259', z262', hp', q0_0, q1_0, q2_0, q3_0, q3_1, q4_0, q5_0, q6_0, q6_1, q7_0, q8_0, q9_0, rfl, rfl⟩
    · skip
      have u_ := u_lain1 hr hp
      have e_ := za p9_0 rfl (show (-1 : Int32).toInt = -1 by decide) (by omega)
      have ee_ := congrArg Int32.toInt ev
      have e0_ : (0 : Int32).toInt = 0 := by decide
      have e1_ : (1 : Int32).toInt = 1 := by decide
      have em_ : (-1 : Int32).toInt = -1 := by decide
      exfalso; omega
    · skip
      have ev2 : v128 = v128' := i32c (p9_0.symm.trans (ev.trans q6_0))
      have hi := ih _ _ hp' ev2
      subst ev2
      have u_ := u_lain1 hr hp
      have he0 := hi
      subst he0
      subst p1_0
      subst p2_0
      subst p5_0
      subst p6_0
      subst p7_0
      subst p8_0
      subst p9_0
      subst q1_0
      subst q2_0
      subst q5_0
      subst q6_0
      obtain rfl := d_isOf p3_1 q3_1
      exact absurd q4_0 p4_0
    · skip
      have ev2 : v128 = v128' := i32c (p9_0.symm.trans (ev.trans q9_0))
      have hi := ih _ _ hp' ev2
      subst ev2
      have u_ := u_lain1 hr hp
      have he0 := hi
      subst he0
      subst p1_0
      subst p2_0
      subst p5_0
      subst p6_0
      subst p7_0
      subst p8_0
      subst p9_0
      subst q1_0
      subst q2_0
      subst q5_0
      subst q6_0
      subst q7_0
      subst q8_0
      subst q9_0
      obtain rfl := d_isOf p3_1 q3_1
      rfl
theorem d_lainOf {x1 : Int32} {h0_hasPart : Int32} {h0_isLaid : Int32} {f_h0_told : (Nat → Int32)} {h0_told_3 : Int32} {f_h0_lain : (Nat → Int32)} {f_h0_flats : (Nat → Int32)} {f_h0_now : (Nat → Int32)} {f_h0_corner : (Nat → Int32)} {f_h0_wayX : (Nat → Int32)} {f_h0_wayY : (Nat → Int32)} {f_h0_normal : (Nat → Int32)} {f_h0_low : (Nat → Int32)} {f_h0_high : (Nat → Int32)} {h0_isLaid' : Int32} {f_h0_lain' : (Nat → Int32)} {f_h0_flats' : (Nat → Int32)} {f_h0_corner' : (Nat → Int32)} {f_h0_wayX' : (Nat → Int32)} {f_h0_wayY' : (Nat → Int32)} {f_h0_normal' : (Nat → Int32)} {f_h0_low' : (Nat → Int32)} {f_h0_high' : (Nat → Int32)} {o_u_h0_isLaid : Int32} {o_u_h0_lain : (Nat → Int32)} {o_u_h0_flats : (Nat → Int32)} {o_u_h0_now : (Nat → Int32)} {o_u_h0_corner : (Nat → Int32)} {o_u_h0_wayX : (Nat → Int32)} {o_u_h0_wayY : (Nat → Int32)} {o_u_h0_normal : (Nat → Int32)} {o_u_h0_low : (Nat → Int32)} {o_u_h0_high : (Nat → Int32)} {o_r : Int32} {o_u_h0_isLaid' : Int32} {o_u_h0_lain' : (Nat → Int32)} {o_u_h0_flats' : (Nat → Int32)} {o_u_h0_now' : (Nat → Int32)} {o_u_h0_corner' : (Nat → Int32)} {o_u_h0_wayX' : (Nat → Int32)} {o_u_h0_wayY' : (Nat → Int32)} {o_u_h0_normal' : (Nat → Int32)} {o_u_h0_low' : (Nat → Int32)} {o_u_h0_high' : (Nat → Int32)} {o_r' : Int32} (h : S_lainOf x1 h0_hasPart h0_isLaid f_h0_told h0_told_3 f_h0_lain f_h0_flats f_h0_now f_h0_corner f_h0_wayX f_h0_wayY f_h0_normal f_h0_low f_h0_high o_u_h0_isLaid o_u_h0_lain o_u_h0_flats o_u_h0_now o_u_h0_corner o_u_h0_wayX o_u_h0_wayY o_u_h0_normal o_u_h0_low o_u_h0_high o_r) (h' : S_lainOf x1 h0_hasPart h0_isLaid' f_h0_told h0_told_3 f_h0_lain' f_h0_flats' f_h0_now f_h0_corner' f_h0_wayX' f_h0_wayY' f_h0_normal' f_h0_low' f_h0_high' o_u_h0_isLaid' o_u_h0_lain' o_u_h0_flats' o_u_h0_now' o_u_h0_corner' o_u_h0_wayX' o_u_h0_wayY' o_u_h0_normal' o_u_h0_low' o_u_h0_high' o_r') {FL : Nat → Int32} (ht : 1 ≤ h0_told_3.toInt ∧ h0_told_3.toInt ≤ 9) (hh : h0_hasPart.toInt = 1) (aL : Ag (fun k => k < 6561) f_h0_lain f_h0_lain') (hF : (¬ (o_u_h0_isLaid.toInt = 0) → o_u_h0_flats = FL)) (hF' : (¬ (o_u_h0_isLaid'.toInt = 0) → o_u_h0_flats' = FL)) : o_r = o_r' ∧ Ag (fun k => k < 6561) o_u_h0_lain o_u_h0_lain' := by
  rcases h with ⟨r1, v127, v128, z202, z205, p0_0, p0_1, p0_2, p1_0, p1_1, p1_2, p2_0, p3_0, p4_0, p5_0, rfl, rfl, rfl, rfl, rfl, rfl, rfl, rfl, rfl, rfl, rfl⟩ | ⟨r1, v127, v128, z202, v210, f211, f212, f213, f214, f215, f216, f217, f218, r208, f227, z229, p0_0, p0_1, p0_2, p1_0, p1_1, p1_2, p2_0, p3_0, p4_0, p5_0, p5_1, p5_2, p6_0, p7_0, rfl, rfl, rfl, rfl, rfl, rfl, rfl, rfl, rfl, rfl, rfl⟩ | h
  · rcases h' with ⟨r1', v127', v128', z202', z205', q0_0, q0_1, q0_2, q1_0, q1_1, q1_2, q2_0, q3_0, q4_0, q5_0, rfl, rfl, rfl, rfl, rfl, rfl, rfl, rfl, rfl, rfl, rfl⟩ | ⟨r1', v127', v128', z202', v210', f211', f212', f213', f214', f215', f216', f217', f218', r208', f227', z229', q0_0, q0_1, q0_2, q1_0, q1_1, q1_2, q2_0, q3_0, q4_0, q5_0, q5_1, q5_2, q6_0, q7_0, rfl, rfl, rfl, rfl, rfl, rfl, rfl, rfl, rfl, rfl, rfl⟩ | h'
    · skip
      obtain rfl := d_bendMany p0_2 q0_2
      have ev : v128 = v128' := i32e (by omega)
      subst ev
      obtain rfl := d_lain1 p0_0 p1_0 _ _ q1_0 rfl
      obtain rfl := aL.ld (lt6561 p1_1) p3_0 q3_0
      obtain rfl := aL.ld (lt6561 p1_1) p5_0 q5_0
      exact ⟨rfl, aL⟩
    · skip
      obtain rfl := d_bendMany p0_2 q0_2
      have ev : v128 = v128' := i32e (by omega)
      subst ev
      obtain rfl := d_lain1 p0_0 p1_0 _ _ q1_0 rfl
      obtain rfl := aL.ld (lt6561 p1_1) p3_0 q3_0
      exact absurd q4_0 p4_0
    · exact h'.elim
  · rcases h' with ⟨r1', v127', v128', z202', z205', q0_0, q0_1, q0_2, q1_0, q1_1, q1_2, q2_0, q3_0, q4_0, q5_0, rfl, rfl, rfl, rfl, rfl, rfl, rfl, rfl, rfl, rfl, rfl⟩ | ⟨r1', v127', v128', z202', v210', f211', f212', f213', f214', f215', f216', f217', f218', r208', f227', z229', q0_0, q0_1, q0_2, q1_0, q1_1, q1_2, q2_0, q3_0, q4_0, q5_0, q5_1, q5_2, q6_0, q7_0, rfl, rfl, rfl, rfl, rfl, rfl, rfl, rfl, rfl, rfl, rfl⟩ | h'
    · skip
      obtain rfl := d_bendMany p0_2 q0_2
      have ev : v128 = v128' := i32e (by omega)
      subst ev
      obtain rfl := d_lain1 p0_0 p1_0 _ _ q1_0 rfl
      obtain rfl := aL.ld (lt6561 p1_1) p3_0 q3_0
      exact absurd p4_0 q4_0
    · skip
      obtain rfl := d_bendMany p0_2 q0_2
      have ev : v128 = v128' := i32e (by omega)
      subst ev
      obtain rfl := d_lain1 p0_0 p1_0 _ _ q1_0 rfl
      obtain rfl := aL.ld (lt6561 p1_1) p3_0 q3_0
      obtain rfl := d_looksAt p5_2 q5_2 ht hh ((hF (by omega)).trans (hF' (by omega)).symm)
      have g6 := aL.st p6_0 q6_0 rfl
      obtain rfl := g6.ld (.inl (lt6561 p1_1)) p7_0 q7_0
      exact ⟨rfl, g6.mono (fun _ h9 => .inl h9)⟩
    · exact h'.elim
  · exact h.elim
theorem u_lainOf {x1 : Int32} {h0_hasPart : Int32} {h0_isLaid : Int32} {f_h0_told : (Nat → Int32)} {h0_told_3 : Int32} {f_h0_lain : (Nat → Int32)} {f_h0_flats : (Nat → Int32)} {f_h0_now : (Nat → Int32)} {f_h0_corner : (Nat → Int32)} {f_h0_wayX : (Nat → Int32)} {f_h0_wayY : (Nat → Int32)} {f_h0_normal : (Nat → Int32)} {f_h0_low : (Nat → Int32)} {f_h0_high : (Nat → Int32)} {o_u_h0_isLaid : Int32} {o_u_h0_lain : (Nat → Int32)} {o_u_h0_flats : (Nat → Int32)} {o_u_h0_now : (Nat → Int32)} {o_u_h0_corner : (Nat → Int32)} {o_u_h0_wayX : (Nat → Int32)} {o_u_h0_wayY : (Nat → Int32)} {o_u_h0_normal : (Nat → Int32)} {o_u_h0_low : (Nat → Int32)} {o_u_h0_high : (Nat → Int32)} {o_r : Int32} (h : S_lainOf x1 h0_hasPart h0_isLaid f_h0_told h0_told_3 f_h0_lain f_h0_flats f_h0_now f_h0_corner f_h0_wayX f_h0_wayY f_h0_normal f_h0_low f_h0_high o_u_h0_isLaid o_u_h0_lain o_u_h0_flats o_u_h0_now o_u_h0_corner o_u_h0_wayX o_u_h0_wayY o_u_h0_normal o_u_h0_low o_u_h0_high o_r) : o_u_h0_now = f_h0_now ∧ (¬ (h0_isLaid.toInt = 0) → ¬ (o_u_h0_isLaid.toInt = 0) ∧ o_u_h0_flats = f_h0_flats) := by
  rcases h with ⟨r1, v127, v128, z202, z205, p0_0, p0_1, p0_2, p1_0, p1_1, p1_2, p2_0, p3_0, p4_0, p5_0, rfl, rfl, rfl, rfl, rfl, rfl, rfl, rfl, rfl, rfl, rfl⟩ | ⟨r1, v127, v128, z202, v210, f211, f212, f213, f214, f215, f216, f217, f218, r208, f227, z229, p0_0, p0_1, p0_2, p1_0, p1_1, p1_2, p2_0, p3_0, p4_0, p5_0, p5_1, p5_2, p6_0, p7_0, rfl, rfl, rfl, rfl, rfl, rfl, rfl, rfl, rfl, rfl, rfl⟩ | h
  · skip
    exact ⟨rfl, fun n => ⟨n, rfl⟩⟩
  · skip
    have u1 := u_looksAt p5_2
    exact ⟨u1.1, fun n => ⟨by omega, u1.2.2 n⟩⟩
  · exact h.elim
theorem B1_0 {k : Nat} (h : B1 0 k) : False := by
  have e0_ : (0 : Int32).toInt = 0 := by decide
  unfold B1 at h; omega
theorem st_tr {n0 n1 n2 f0 f1 f2 : Nat → Int32} {i0 i1 i2 : Int32} (a : n1 = n0 ∧ (¬ (i0.toInt = 0) → ¬ (i1.toInt = 0) ∧ f1 = f0)) (b : n2 = n1 ∧ (¬ (i1.toInt = 0) → ¬ (i2.toInt = 0) ∧ f2 = f1)) : n2 = n0 ∧ (¬ (i0.toInt = 0) → ¬ (i2.toInt = 0) ∧ f2 = f0) := ⟨b.1.trans a.1, fun n => ⟨(b.2 (a.2 n).1).1, (b.2 (a.2 n).1).2.trans (a.2 n).2⟩⟩
theorem st_rf {n0 f0 : Nat → Int32} {i0 : Int32} : n0 = n0 ∧ (¬ (i0.toInt = 0) → ¬ (i0.toInt = 0) ∧ f0 = f0) := ⟨rfl, fun n => ⟨n, rfl⟩⟩
theorem st_F {n0 n1 f0 f1 FL : Nat → Int32} {i0 i1 : Int32} (a : n1 = n0 ∧ (¬ (i0.toInt = 0) → ¬ (i1.toInt = 0) ∧ f1 = f0)) (h : ¬ (i1.toInt = 0) → f1 = FL) : ¬ (i0.toInt = 0) → f0 = FL := fun n => (a.2 n).2.symm.trans (h (a.2 n).1)

theorem u_clr1 {f_h0_now : (Nat → Int32)} {h0_hasPart : Int32} {h0_told_3 : Int32} (ht : 1 ≤ h0_told_3.toInt ∧ h0_told_3.toInt ≤ 9) (hh : h0_hasPart.toInt = 1) {v47239 : Int32} {v47240 : Int32} (h : I_laysClearAgain_9_1 f_h0_now h0_hasPart h0_told_3 v47239 v47240) : 1 ≤ v47240.toInt ∧ v47240.toInt ≤ h0_told_3.toInt := by
  refine I_laysClearAgain_9_1.ind (Q_ := fun v47239 v47240 => 1 ≤ v47240.toInt ∧ v47240.toInt ≤ h0_told_3.toInt) ?_ ?_ h
  · have e0_ : (0 : Int32).toInt = 0 := by decide
    have e1_ : (1 : Int32).toInt = 1 := by decide
    have em_ : (-1 : Int32).toInt = -1 := by decide
    omega
  · intro v47239 v47240 r53997 z60743 z60746 z60749 z60752 z60754 z60756 hp ih p0_0 p0_1 p0_2 p1_0 p2_0 p3_0 p3_1 p4_0 p5_0 p6_0 p7_0
    have e_ : z60756.toInt = v47240.toInt + 1 := za p7_0 rfl (show (1 : Int32).toInt = 1 by decide) (by omega)
    omega
theorem d_clr1 {f_h0_now : (Nat → Int32)} {h0_hasPart : Int32} {h0_told_3 : Int32}  (ht : 1 ≤ h0_told_3.toInt ∧ h0_told_3.toInt ≤ 9) (hh : h0_hasPart.toInt = 1) {v47239 : Int32} {v47240 : Int32} (h : I_laysClearAgain_9_1 f_h0_now h0_hasPart h0_told_3 v47239 v47240) : ∀ (v47239' : Int32) (v47240' : Int32), I_laysClearAgain_9_1 f_h0_now h0_hasPart h0_told_3 v47239' v47240' → v47240 = v47240' → v47239 = v47239' := by
  refine I_laysClearAgain_9_1.ind (Q_ := fun v47239 v47240 => ∀ (v47239' : Int32) (v47240' : Int32), I_laysClearAgain_9_1 f_h0_now h0_hasPart h0_told_3 v47239' v47240' → v47240 = v47240' → v47239 = v47239') ?_ ?_ h
  · intro v47239'' v47240'' h' ev
    rcases I_laysClearAgain_9_1.inv h' with ⟨rfl, rfl⟩ | ⟨v47239', v47240', r53997', z60743', z60746', z60749', z60752', z60754', z60756', hp', q0_0, q0_1, q0_2, q1_0, q2_0, q3_0, q3_1, q4_0, q5_0, q6_0, q7_0, rfl, rfl⟩
    · skip
      rfl
    · skip
      have u_ := u_clr1 ht hh hp'
      have e_ := za q7_0 rfl (show (1 : Int32).toInt = 1 by decide) (by omega)
      have ee_ := congrArg Int32.toInt ev
      have e0_ : (0 : Int32).toInt = 0 := by decide
      have e1_ : (1 : Int32).toInt = 1 := by decide
      have em_ : (-1 : Int32).toInt = -1 := by decide
      exfalso; omega
  · intro v47239 v47240 r53997 z60743 z60746 z60749 z60752 z60754 z60756 hp ih p0_0 p0_1 p0_2 p1_0 p2_0 p3_0 p3_1 p4_0 p5_0 p6_0 p7_0 v47239'' v47240'' h' ev
    rcases I_laysClearAgain_9_1.inv h' with ⟨rfl, rfl⟩ | ⟨v47239', v47240', r53997', z60743', z60746', z60749', z60752', z60754', z60756', hp', q0_0, q0_1, q0_2, q1_0, q2_0, q3_0, q3_1, q4_0, q5_0, q6_0, q7_0, rfl, rfl⟩
    · skip
      have u_ := u_clr1 ht hh hp
      have e_ := za p7_0 rfl (show (1 : Int32).toInt = 1 by decide) (by omega)
      have ee_ := congrArg Int32.toInt ev
      have e0_ : (0 : Int32).toInt = 0 := by decide
      have e1_ : (1 : Int32).toInt = 1 := by decide
      have em_ : (-1 : Int32).toInt = -1 := by decide
      exfalso; omega
    · skip
      have ev2 : v47240 = v47240' := i32c (p7_0.symm.trans (ev.trans q7_0))
      have hi := ih _ _ hp' ev2
      subst ev2
      have u_ := u_clr1 ht hh hp
      have he0 := hi
      subst he0
      subst p2_0
      subst p3_0
      subst p4_0
      subst p5_0
      subst p6_0
      subst p7_0
      subst q2_0
      subst q3_0
      subst q4_0
      subst q5_0
      subst q6_0
      subst q7_0
      obtain rfl := d_bendMany p0_2 q0_2
      rfl
theorem s_clr3 {f60002 : (Nat → Int32)} {f60012 : (Nat → Int32)} {f60013 : (Nat → Int32)} {f60014 : (Nat → Int32)} {f60015 : (Nat → Int32)} {f60016 : (Nat → Int32)} {f60017 : (Nat → Int32)} {f60018 : (Nat → Int32)} {f60019 : (Nat → Int32)} {f60020 : (Nat → Int32)} {f_h0_told : (Nat → Int32)} {h0_hasPart : Int32} {h0_told_3 : Int32} {v59232 : Int32} {v60011 : Int32} {z60057 : Int32}  {v60585 : Int32} {fn60586 : (Nat → Int32)} {v60587 : Int32} {fn60588 : (Nat → Int32)} {fn60589 : (Nat → Int32)} {fn60590 : (Nat → Int32)} {fn60591 : (Nat → Int32)} {fn60592 : (Nat → Int32)} {fn60593 : (Nat → Int32)} {fn60594 : (Nat → Int32)} {fn60595 : (Nat → Int32)} {fn60596 : (Nat → Int32)} (h : I_laysClearAgain_119_3 f60002 f60012 f60013 f60014 f60015 f60016 f60017 f60018 f60019 f60020 f_h0_told h0_hasPart h0_told_3 v59232 v60011 z60057 v60585 fn60586 v60587 fn60588 fn60589 fn60590 fn60591 fn60592 fn60593 fn60594 fn60595 fn60596) : fn60590 = f60014 ∧ (¬ (v60011.toInt = 0) → ¬ (v60587.toInt = 0) ∧ fn60589 = f60013) := by
  refine I_laysClearAgain_119_3.ind (Q_ := fun v60585 fn60586 v60587 fn60588 fn60589 fn60590 fn60591 fn60592 fn60593 fn60594 fn60595 fn60596 => fn60590 = f60014 ∧ (¬ (v60011.toInt = 0) → ¬ (v60587.toInt = 0) ∧ fn60589 = f60013)) ?_ ?_ ?_ ?_ h
  · exact st_rf
  · intro v60585 fn60586 v60587 fn60588 fn60589 fn60590 fn60591 fn60592 fn60593 fn60594 fn60595 fn60596 r60680 r60688 z60693 hp ih p0_0 p0_1 p0_2 p1_0 p2_0 p2_1 p3_0 p4_0
    exact ih
  · intro v60585 fn60586 v60587 fn60588 fn60589 fn60590 fn60591 fn60592 fn60593 fn60594 fn60595 fn60596 r60680 r60688 z60696 z60699 v60704 f60705 f60706 f60707 f60708 f60709 f60710 f60711 f60712 f60713 r60702 z60722 hp ih p0_0 p0_1 p0_2 p1_0 p2_0 p2_1 p3_0 p4_0 p5_0 p6_0 p6_1 p7_0 p8_0
    exact st_tr ih (u_lainOf p6_1)
  · intro v60585 fn60586 v60587 fn60588 fn60589 fn60590 fn60591 fn60592 fn60593 fn60594 fn60595 fn60596 r60680 r60688 z60696 z60699 v60704 f60705 f60706 f60707 f60708 f60709 f60710 f60711 f60712 f60713 r60702 z60725 z60728 z60731 f60734 z60737 hp ih p0_0 p0_1 p0_2 p1_0 p2_0 p2_1 p3_0 p4_0 p5_0 p6_0 p6_1 p7_0 p8_0 p8_1 p9_0 p10_0 p11_0 p12_0
    exact st_tr ih (u_lainOf p6_1)
theorem u_clr3 {f60002 : (Nat → Int32)} {f60012 : (Nat → Int32)} {f60013 : (Nat → Int32)} {f60014 : (Nat → Int32)} {f60015 : (Nat → Int32)} {f60016 : (Nat → Int32)} {f60017 : (Nat → Int32)} {f60018 : (Nat → Int32)} {f60019 : (Nat → Int32)} {f60020 : (Nat → Int32)} {f_h0_told : (Nat → Int32)} {h0_hasPart : Int32} {h0_told_3 : Int32} {v59232 : Int32} {v60011 : Int32} {z60057 : Int32} (ht : 1 ≤ h0_told_3.toInt ∧ h0_told_3.toInt ≤ 9) (hh : h0_hasPart.toInt = 1) {v60585 : Int32} {fn60586 : (Nat → Int32)} {v60587 : Int32} {fn60588 : (Nat → Int32)} {fn60589 : (Nat → Int32)} {fn60590 : (Nat → Int32)} {fn60591 : (Nat → Int32)} {fn60592 : (Nat → Int32)} {fn60593 : (Nat → Int32)} {fn60594 : (Nat → Int32)} {fn60595 : (Nat → Int32)} {fn60596 : (Nat → Int32)} (h : I_laysClearAgain_119_3 f60002 f60012 f60013 f60014 f60015 f60016 f60017 f60018 f60019 f60020 f_h0_told h0_hasPart h0_told_3 v59232 v60011 z60057 v60585 fn60586 v60587 fn60588 fn60589 fn60590 fn60591 fn60592 fn60593 fn60594 fn60595 fn60596) : 0 ≤ v60585.toInt ∧ v60585.toInt ≤ h0_told_3.toInt - 1 := by
  refine I_laysClearAgain_119_3.ind (Q_ := fun v60585 fn60586 v60587 fn60588 fn60589 fn60590 fn60591 fn60592 fn60593 fn60594 fn60595 fn60596 => 0 ≤ v60585.toInt ∧ v60585.toInt ≤ h0_told_3.toInt - 1) ?_ ?_ ?_ ?_ h
  · have e0_ : (0 : Int32).toInt = 0 := by decide
    have e1_ : (1 : Int32).toInt = 1 := by decide
    have em_ : (-1 : Int32).toInt = -1 := by decide
    omega
  · intro v60585 fn60586 v60587 fn60588 fn60589 fn60590 fn60591 fn60592 fn60593 fn60594 fn60595 fn60596 r60680 r60688 z60693 hp ih p0_0 p0_1 p0_2 p1_0 p2_0 p2_1 p3_0 p4_0
    have e_ : z60693.toInt = v60585.toInt + 1 := za p4_0 rfl (show (1 : Int32).toInt = 1 by decide) (by omega)
    omega
  · intro v60585 fn60586 v60587 fn60588 fn60589 fn60590 fn60591 fn60592 fn60593 fn60594 fn60595 fn60596 r60680 r60688 z60696 z60699 v60704 f60705 f60706 f60707 f60708 f60709 f60710 f60711 f60712 f60713 r60702 z60722 hp ih p0_0 p0_1 p0_2 p1_0 p2_0 p2_1 p3_0 p4_0 p5_0 p6_0 p6_1 p7_0 p8_0
    have e_ : z60722.toInt = v60585.toInt + 1 := za p8_0 rfl (show (1 : Int32).toInt = 1 by decide) (by omega)
    omega
  · intro v60585 fn60586 v60587 fn60588 fn60589 fn60590 fn60591 fn60592 fn60593 fn60594 fn60595 fn60596 r60680 r60688 z60696 z60699 v60704 f60705 f60706 f60707 f60708 f60709 f60710 f60711 f60712 f60713 r60702 z60725 z60728 z60731 f60734 z60737 hp ih p0_0 p0_1 p0_2 p1_0 p2_0 p2_1 p3_0 p4_0 p5_0 p6_0 p6_1 p7_0 p8_0 p8_1 p9_0 p10_0 p11_0 p12_0
    have e_ : z60737.toInt = v60585.toInt + 1 := za p12_0 rfl (show (1 : Int32).toInt = 1 by decide) (by omega)
    omega
theorem d_clr3 {f60002 : (Nat → Int32)} {f60012 : (Nat → Int32)} {f60013 : (Nat → Int32)} {f60014 : (Nat → Int32)} {f60015 : (Nat → Int32)} {f60016 : (Nat → Int32)} {f60017 : (Nat → Int32)} {f60018 : (Nat → Int32)} {f60019 : (Nat → Int32)} {f60020 : (Nat → Int32)} {f_h0_told : (Nat → Int32)} {h0_hasPart : Int32} {h0_told_3 : Int32} {v59232 : Int32} {v60011 : Int32} {z60057 : Int32} {f60002' : (Nat → Int32)} {f60012' : (Nat → Int32)} {f60013' : (Nat → Int32)} {f60015' : (Nat → Int32)} {f60016' : (Nat → Int32)} {f60017' : (Nat → Int32)} {f60018' : (Nat → Int32)} {f60019' : (Nat → Int32)} {f60020' : (Nat → Int32)} {v60011' : Int32} {G : Nat → Prop} {FL : Nat → Int32} (ht : 1 ≤ h0_told_3.toInt ∧ h0_told_3.toInt ≤ 9) (hh : h0_hasPart.toInt = 1) (aC : Ag G f60002 f60002') (aL : Ag (fun k => k < 6561) f60012 f60012') (g : G v59232.toNatClampNeg) {v60585 : Int32} {fn60586 : (Nat → Int32)} {v60587 : Int32} {fn60588 : (Nat → Int32)} {fn60589 : (Nat → Int32)} {fn60590 : (Nat → Int32)} {fn60591 : (Nat → Int32)} {fn60592 : (Nat → Int32)} {fn60593 : (Nat → Int32)} {fn60594 : (Nat → Int32)} {fn60595 : (Nat → Int32)} {fn60596 : (Nat → Int32)} (h : I_laysClearAgain_119_3 f60002 f60012 f60013 f60014 f60015 f60016 f60017 f60018 f60019 f60020 f_h0_told h0_hasPart h0_told_3 v59232 v60011 z60057 v60585 fn60586 v60587 fn60588 fn60589 fn60590 fn60591 fn60592 fn60593 fn60594 fn60595 fn60596) : ∀ (v60585' : Int32) (fn60586' : (Nat → Int32)) (v60587' : Int32) (fn60588' : (Nat → Int32)) (fn60589' : (Nat → Int32)) (fn60590' : (Nat → Int32)) (fn60591' : (Nat → Int32)) (fn60592' : (Nat → Int32)) (fn60593' : (Nat → Int32)) (fn60594' : (Nat → Int32)) (fn60595' : (Nat → Int32)) (fn60596' : (Nat → Int32)), I_laysClearAgain_119_3 f60002' f60012' f60013' f60014 f60015' f60016' f60017' f60018' f60019' f60020' f_h0_told h0_hasPart h0_told_3 v59232 v60011' z60057 v60585' fn60586' v60587' fn60588' fn60589' fn60590' fn60591' fn60592' fn60593' fn60594' fn60595' fn60596' → v60585 = v60585' → (¬ (v60587.toInt = 0) → fn60589 = FL) → (¬ (v60587'.toInt = 0) → fn60589' = FL) → Ag G fn60586 fn60586' ∧ Ag (fun k => k < 6561) fn60588 fn60588' := by
  refine I_laysClearAgain_119_3.ind (Q_ := fun v60585 fn60586 v60587 fn60588 fn60589 fn60590 fn60591 fn60592 fn60593 fn60594 fn60595 fn60596 => ∀ (v60585' : Int32) (fn60586' : (Nat → Int32)) (v60587' : Int32) (fn60588' : (Nat → Int32)) (fn60589' : (Nat → Int32)) (fn60590' : (Nat → Int32)) (fn60591' : (Nat → Int32)) (fn60592' : (Nat → Int32)) (fn60593' : (Nat → Int32)) (fn60594' : (Nat → Int32)) (fn60595' : (Nat → Int32)) (fn60596' : (Nat → Int32)), I_laysClearAgain_119_3 f60002' f60012' f60013' f60014 f60015' f60016' f60017' f60018' f60019' f60020' f_h0_told h0_hasPart h0_told_3 v59232 v60011' z60057 v60585' fn60586' v60587' fn60588' fn60589' fn60590' fn60591' fn60592' fn60593' fn60594' fn60595' fn60596' → v60585 = v60585' → (¬ (v60587.toInt = 0) → fn60589 = FL) → (¬ (v60587'.toInt = 0) → fn60589' = FL) → Ag G fn60586 fn60586' ∧ Ag (fun k => k < 6561) fn60588 fn60588') ?_ ?_ ?_ ?_ h
  · intro v60585'' fn60586'' v60587'' fn60588'' fn60589'' fn60590'' fn60591'' fn60592'' fn60593'' fn60594'' fn60595'' fn60596'' h' ev
    rcases I_laysClearAgain_119_3.inv h' with ⟨rfl, rfl, rfl, rfl, rfl, rfl, rfl, rfl, rfl, rfl, rfl, rfl⟩ | ⟨v60585', fn60586', v60587', fn60588', fn60589', fn60590', fn60591', fn60592', fn60593', fn60594', fn60595', fn60596', r60680', r60688', z60693', hp', q0_0, q0_1, q0_2, q1_0, q2_0, q2_1, q3_0, q4_0, rfl, rfl, rfl, rfl, rfl, rfl, rfl, rfl, rfl, rfl, rfl, rfl⟩ | ⟨v60585', fn60586', v60587', fn60588', fn60589', fn60590', fn60591', fn60592', fn60593', fn60594', fn60595', fn60596', r60680', r60688', z60696', z60699', v60704', f60705', f60706', f60707', f60708', f60709', f60710', f60711', f60712', f60713', r60702', z60722', hp', q0_0, q0_1, q0_2, q1_0, q2_0, q2_1, q3_0, q4_0, q5_0, q6_0, q6_1, q7_0, q8_0, rfl, rfl, rfl, rfl, rfl, rfl, rfl, rfl, rfl, rfl, rfl, rfl⟩ | ⟨v60585', fn60586', v60587', fn60588', fn60589', fn60590', fn60591', fn60592', fn60593', fn60594', fn60595', fn60596', r60680', r60688', z60696', z60699', v60704', f60705', f60706', f60707', f60708', f60709', f60710', f60711', f60712', f60713', r60702', z60725', z60728', z60731', f60734', z60737', hp', q0_0, q0_1, q0_2, q1_0, q2_0, q2_1, q3_0, q4_0, q5_0, q6_0, q6_1, q7_0, q8_0, q8_1, q9_0, q10_0, q11_0, q12_0, rfl, rfl, rfl, rfl, rfl, rfl, rfl, rfl, rfl, rfl, rfl, rfl⟩
    · skip
      exact fun _ _ => ⟨aC, aL⟩
    · skip
      have u_ := u_clr3 ht hh hp'
      have e_ := za q4_0 rfl (show (1 : Int32).toInt = 1 by decide) (by omega)
      have ee_ := congrArg Int32.toInt ev
      have e0_ : (0 : Int32).toInt = 0 := by decide
      have e1_ : (1 : Int32).toInt = 1 := by decide
      have em_ : (-1 : Int32).toInt = -1 := by decide
      exfalso; omega
    · skip
      have u_ := u_clr3 ht hh hp'
      have e_ := za q8_0 rfl (show (1 : Int32).toInt = 1 by decide) (by omega)
      have ee_ := congrArg Int32.toInt ev
      have e0_ : (0 : Int32).toInt = 0 := by decide
      have e1_ : (1 : Int32).toInt = 1 := by decide
      have em_ : (-1 : Int32).toInt = -1 := by decide
      exfalso; omega
    · skip
      have u_ := u_clr3 ht hh hp'
      have e_ := za q12_0 rfl (show (1 : Int32).toInt = 1 by decide) (by omega)
      have ee_ := congrArg Int32.toInt ev
      have e0_ : (0 : Int32).toInt = 0 := by decide
      have e1_ : (1 : Int32).toInt = 1 := by decide
      have em_ : (-1 : Int32).toInt = -1 := by decide
      exfalso; omega
  · intro v60585 fn60586 v60587 fn60588 fn60589 fn60590 fn60591 fn60592 fn60593 fn60594 fn60595 fn60596 r60680 r60688 z60693 hp ih p0_0 p0_1 p0_2 p1_0 p2_0 p2_1 p3_0 p4_0 v60585'' fn60586'' v60587'' fn60588'' fn60589'' fn60590'' fn60591'' fn60592'' fn60593'' fn60594'' fn60595'' fn60596'' h' ev
    rcases I_laysClearAgain_119_3.inv h' with ⟨rfl, rfl, rfl, rfl, rfl, rfl, rfl, rfl, rfl, rfl, rfl, rfl⟩ | ⟨v60585', fn60586', v60587', fn60588', fn60589', fn60590', fn60591', fn60592', fn60593', fn60594', fn60595', fn60596', r60680', r60688', z60693', hp', q0_0, q0_1, q0_2, q1_0, q2_0, q2_1, q3_0, q4_0, rfl, rfl, rfl, rfl, rfl, rfl, rfl, rfl, rfl, rfl, rfl, rfl⟩ | ⟨v60585', fn60586', v60587', fn60588', fn60589', fn60590', fn60591', fn60592', fn60593', fn60594', fn60595', fn60596', r60680', r60688', z60696', z60699', v60704', f60705', f60706', f60707', f60708', f60709', f60710', f60711', f60712', f60713', r60702', z60722', hp', q0_0, q0_1, q0_2, q1_0, q2_0, q2_1, q3_0, q4_0, q5_0, q6_0, q6_1, q7_0, q8_0, rfl, rfl, rfl, rfl, rfl, rfl, rfl, rfl, rfl, rfl, rfl, rfl⟩ | ⟨v60585', fn60586', v60587', fn60588', fn60589', fn60590', fn60591', fn60592', fn60593', fn60594', fn60595', fn60596', r60680', r60688', z60696', z60699', v60704', f60705', f60706', f60707', f60708', f60709', f60710', f60711', f60712', f60713', r60702', z60725', z60728', z60731', f60734', z60737', hp', q0_0, q0_1, q0_2, q1_0, q2_0, q2_1, q3_0, q4_0, q5_0, q6_0, q6_1, q7_0, q8_0, q8_1, q9_0, q10_0, q11_0, q12_0, rfl, rfl, rfl, rfl, rfl, rfl, rfl, rfl, rfl, rfl, rfl, rfl⟩
    · skip
      have u_ := u_clr3 ht hh hp
      have e_ := za p4_0 rfl (show (1 : Int32).toInt = 1 by decide) (by omega)
      have ee_ := congrArg Int32.toInt ev
      have e0_ : (0 : Int32).toInt = 0 := by decide
      have e1_ : (1 : Int32).toInt = 1 := by decide
      have em_ : (-1 : Int32).toInt = -1 := by decide
      exfalso; omega
    · skip
      have ev2 : v60585 = v60585' := i32c (p4_0.symm.trans (ev.trans q4_0))
      intro hF hF'
      have u_ := u_clr3 ht hh hp
      have hi := ih _ _ _ _ _ _ _ _ _ _ _ _ hp' ev2 hF hF'
      have n1 := (s_clr3 hp).1
      have n2 := (s_clr3 hp').1
      subst ev2
      have n3 := n1.trans n2.symm
      clear n1 n2
      subst n3
      subst p4_0
      subst q4_0
      obtain rfl := d_bendMany p0_2 q0_2
      obtain rfl := d_isOf p2_1 q2_1
      exact ⟨hi.1, hi.2⟩
    · skip
      have ev2 : v60585 = v60585' := i32c (p4_0.symm.trans (ev.trans q8_0))
      intro hF hF'
      have u_ := u_clr3 ht hh hp
      have hi := ih _ _ _ _ _ _ _ _ _ _ _ _ hp' ev2 hF (st_F (u_lainOf q6_1) hF')
      have n1 := (s_clr3 hp).1
      have n2 := (s_clr3 hp').1
      subst ev2
      have n3 := n1.trans n2.symm
      clear n1 n2
      subst n3
      subst p4_0
      subst q4_0
      subst q5_0
      subst q8_0
      obtain rfl := d_bendMany p0_2 q0_2
      obtain rfl := d_isOf p2_1 q2_1
      exact absurd p3_0 q3_0
    · skip
      have ev2 : v60585 = v60585' := i32c (p4_0.symm.trans (ev.trans q12_0))
      intro hF hF'
      have u_ := u_clr3 ht hh hp
      have hi := ih _ _ _ _ _ _ _ _ _ _ _ _ hp' ev2 hF (st_F (u_lainOf q6_1) hF')
      have n1 := (s_clr3 hp).1
      have n2 := (s_clr3 hp').1
      subst ev2
      have n3 := n1.trans n2.symm
      clear n1 n2
      subst n3
      subst p4_0
      subst q4_0
      subst q5_0
      subst q9_0
      subst q10_0
      subst q12_0
      obtain rfl := d_bendMany p0_2 q0_2
      obtain rfl := d_isOf p2_1 q2_1
      exact absurd p3_0 q3_0
  · intro v60585 fn60586 v60587 fn60588 fn60589 fn60590 fn60591 fn60592 fn60593 fn60594 fn60595 fn60596 r60680 r60688 z60696 z60699 v60704 f60705 f60706 f60707 f60708 f60709 f60710 f60711 f60712 f60713 r60702 z60722 hp ih p0_0 p0_1 p0_2 p1_0 p2_0 p2_1 p3_0 p4_0 p5_0 p6_0 p6_1 p7_0 p8_0 v60585'' fn60586'' v60587'' fn60588'' fn60589'' fn60590'' fn60591'' fn60592'' fn60593'' fn60594'' fn60595'' fn60596'' h' ev
    rcases I_laysClearAgain_119_3.inv h' with ⟨rfl, rfl, rfl, rfl, rfl, rfl, rfl, rfl, rfl, rfl, rfl, rfl⟩ | ⟨v60585', fn60586', v60587', fn60588', fn60589', fn60590', fn60591', fn60592', fn60593', fn60594', fn60595', fn60596', r60680', r60688', z60693', hp', q0_0, q0_1, q0_2, q1_0, q2_0, q2_1, q3_0, q4_0, rfl, rfl, rfl, rfl, rfl, rfl, rfl, rfl, rfl, rfl, rfl, rfl⟩ | ⟨v60585', fn60586', v60587', fn60588', fn60589', fn60590', fn60591', fn60592', fn60593', fn60594', fn60595', fn60596', r60680', r60688', z60696', z60699', v60704', f60705', f60706', f60707', f60708', f60709', f60710', f60711', f60712', f60713', r60702', z60722', hp', q0_0, q0_1, q0_2, q1_0, q2_0, q2_1, q3_0, q4_0, q5_0, q6_0, q6_1, q7_0, q8_0, rfl, rfl, rfl, rfl, rfl, rfl, rfl, rfl, rfl, rfl, rfl, rfl⟩ | ⟨v60585', fn60586', v60587', fn60588', fn60589', fn60590', fn60591', fn60592', fn60593', fn60594', fn60595', fn60596', r60680', r60688', z60696', z60699', v60704', f60705', f60706', f60707', f60708', f60709', f60710', f60711', f60712', f60713', r60702', z60725', z60728', z60731', f60734', z60737', hp', q0_0, q0_1, q0_2, q1_0, q2_0, q2_1, q3_0, q4_0, q5_0, q6_0, q6_1, q7_0, q8_0, q8_1, q9_0, q10_0, q11_0, q12_0, rfl, rfl, rfl, rfl, rfl, rfl, rfl, rfl, rfl, rfl, rfl, rfl⟩
    · skip
      have u_ := u_clr3 ht hh hp
      have e_ := za p8_0 rfl (show (1 : Int32).toInt = 1 by decide) (by omega)
      have ee_ := congrArg Int32.toInt ev
      have e0_ : (0 : Int32).toInt = 0 := by decide
      have e1_ : (1 : Int32).toInt = 1 := by decide
      have em_ : (-1 : Int32).toInt = -1 := by decide
      exfalso; omega
    · skip
      have ev2 : v60585 = v60585' := i32c (p8_0.symm.trans (ev.trans q4_0))
      intro hF hF'
      have u_ := u_clr3 ht hh hp
      have hi := ih _ _ _ _ _ _ _ _ _ _ _ _ hp' ev2 (st_F (u_lainOf p6_1) hF) hF'
      have n1 := (s_clr3 hp).1
      have n2 := (s_clr3 hp').1
      subst ev2
      have n3 := n1.trans n2.symm
      clear n1 n2
      subst n3
      subst p4_0
      subst p5_0
      subst p8_0
      subst q4_0
      obtain rfl := d_bendMany p0_2 q0_2
      obtain rfl := d_isOf p2_1 q2_1
      exact absurd q3_0 p3_0
    · skip
      have ev2 : v60585 = v60585' := i32c (p8_0.symm.trans (ev.trans q8_0))
      intro hF hF'
      have u_ := u_clr3 ht hh hp
      have hi := ih _ _ _ _ _ _ _ _ _ _ _ _ hp' ev2 (st_F (u_lainOf p6_1) hF) (st_F (u_lainOf q6_1) hF')
      have n1 := (s_clr3 hp).1
      have n2 := (s_clr3 hp').1
      subst ev2
      have n3 := n1.trans n2.symm
      clear n1 n2
      subst n3
      subst p4_0
      subst p5_0
      subst p8_0
      subst q4_0
      subst q5_0
      subst q8_0
      obtain rfl := d_bendMany p0_2 q0_2
      obtain rfl := d_isOf p2_1 q2_1
      have k6 := d_lainOf p6_1 q6_1 ht hh hi.2 hF hF'
      obtain rfl := k6.1
      exact ⟨hi.1, k6.2⟩
    · skip
      have ev2 : v60585 = v60585' := i32c (p8_0.symm.trans (ev.trans q12_0))
      intro hF hF'
      have u_ := u_clr3 ht hh hp
      have hi := ih _ _ _ _ _ _ _ _ _ _ _ _ hp' ev2 (st_F (u_lainOf p6_1) hF) (st_F (u_lainOf q6_1) hF')
      have n1 := (s_clr3 hp).1
      have n2 := (s_clr3 hp').1
      subst ev2
      have n3 := n1.trans n2.symm
      clear n1 n2
      subst n3
      subst p4_0
      subst p5_0
      subst p8_0
      subst q4_0
      subst q5_0
      subst q9_0
      subst q10_0
      subst q12_0
      obtain rfl := d_bendMany p0_2 q0_2
      obtain rfl := d_isOf p2_1 q2_1
      have k6 := d_lainOf p6_1 q6_1 ht hh hi.2 hF hF'
      obtain rfl := k6.1
      exact absurd p7_0 q7_0
  · intro v60585 fn60586 v60587 fn60588 fn60589 fn60590 fn60591 fn60592 fn60593 fn60594 fn60595 fn60596 r60680 r60688 z60696 z60699 v60704 f60705 f60706 f60707 f60708 f60709 f60710 f60711 f60712 f60713 r60702 z60725 z60728 z60731 f60734 z60737 hp ih p0_0 p0_1 p0_2 p1_0 p2_0 p2_1 p3_0 p4_0 p5_0 p6_0 p6_1 p7_0 p8_0 p8_1 p9_0 p10_0 p11_0 p12_0 v60585'' fn60586'' v60587'' fn60588'' fn60589'' fn60590'' fn60591'' fn60592'' fn60593'' fn60594'' fn60595'' fn60596'' h' ev
    rcases I_laysClearAgain_119_3.inv h' with ⟨rfl, rfl, rfl, rfl, rfl, rfl, rfl, rfl, rfl, rfl, rfl, rfl⟩ | ⟨v60585', fn60586', v60587', fn60588', fn60589', fn60590', fn60591', fn60592', fn60593', fn60594', fn60595', fn60596', r60680', r60688', z60693', hp', q0_0, q0_1, q0_2, q1_0, q2_0, q2_1, q3_0, q4_0, rfl, rfl, rfl, rfl, rfl, rfl, rfl, rfl, rfl, rfl, rfl, rfl⟩ | ⟨v60585', fn60586', v60587', fn60588', fn60589', fn60590', fn60591', fn60592', fn60593', fn60594', fn60595', fn60596', r60680', r60688', z60696', z60699', v60704', f60705', f60706', f60707', f60708', f60709', f60710', f60711', f60712', f60713', r60702', z60722', hp', q0_0, q0_1, q0_2, q1_0, q2_0, q2_1, q3_0, q4_0, q5_0, q6_0, q6_1, q7_0, q8_0, rfl, rfl, rfl, rfl, rfl, rfl, rfl, rfl, rfl, rfl, rfl, rfl⟩ | ⟨v60585', fn60586', v60587', fn60588', fn60589', fn60590', fn60591', fn60592', fn60593', fn60594', fn60595', fn60596', r60680', r60688', z60696', z60699', v60704', f60705', f60706', f60707', f60708', f60709', f60710', f60711', f60712', f60713', r60702', z60725', z60728', z60731', f60734', z60737', hp', q0_0, q0_1, q0_2, q1_0, q2_0, q2_1, q3_0, q4_0, q5_0, q6_0, q6_1, q7_0, q8_0, q8_1, q9_0, q10_0, q11_0, q12_0, rfl, rfl, rfl, rfl, rfl, rfl, rfl, rfl, rfl, rfl, rfl, rfl⟩
    · skip
      have u_ := u_clr3 ht hh hp
      have e_ := za p12_0 rfl (show (1 : Int32).toInt = 1 by decide) (by omega)
      have ee_ := congrArg Int32.toInt ev
      have e0_ : (0 : Int32).toInt = 0 := by decide
      have e1_ : (1 : Int32).toInt = 1 := by decide
      have em_ : (-1 : Int32).toInt = -1 := by decide
      exfalso; omega
    · skip
      have ev2 : v60585 = v60585' := i32c (p12_0.symm.trans (ev.trans q4_0))
      intro hF hF'
      have u_ := u_clr3 ht hh hp
      have hi := ih _ _ _ _ _ _ _ _ _ _ _ _ hp' ev2 (st_F (u_lainOf p6_1) hF) hF'
      have n1 := (s_clr3 hp).1
      have n2 := (s_clr3 hp').1
      subst ev2
      have n3 := n1.trans n2.symm
      clear n1 n2
      subst n3
      subst p4_0
      subst p5_0
      subst p9_0
      subst p10_0
      subst p12_0
      subst q4_0
      obtain rfl := d_bendMany p0_2 q0_2
      obtain rfl := d_isOf p2_1 q2_1
      exact absurd q3_0 p3_0
    · skip
      have ev2 : v60585 = v60585' := i32c (p12_0.symm.trans (ev.trans q8_0))
      intro hF hF'
      have u_ := u_clr3 ht hh hp
      have hi := ih _ _ _ _ _ _ _ _ _ _ _ _ hp' ev2 (st_F (u_lainOf p6_1) hF) (st_F (u_lainOf q6_1) hF')
      have n1 := (s_clr3 hp).1
      have n2 := (s_clr3 hp').1
      subst ev2
      have n3 := n1.trans n2.symm
      clear n1 n2
      subst n3
      subst p4_0
      subst p5_0
      subst p9_0
      subst p10_0
      subst p12_0
      subst q4_0
      subst q5_0
      subst q8_0
      obtain rfl := d_bendMany p0_2 q0_2
      obtain rfl := d_isOf p2_1 q2_1
      have k6 := d_lainOf p6_1 q6_1 ht hh hi.2 hF hF'
      obtain rfl := k6.1
      exact absurd q7_0 p7_0
    · skip
      have ev2 : v60585 = v60585' := i32c (p12_0.symm.trans (ev.trans q12_0))
      intro hF hF'
      have u_ := u_clr3 ht hh hp
      have hi := ih _ _ _ _ _ _ _ _ _ _ _ _ hp' ev2 (st_F (u_lainOf p6_1) hF) (st_F (u_lainOf q6_1) hF')
      have n1 := (s_clr3 hp).1
      have n2 := (s_clr3 hp').1
      subst ev2
      have n3 := n1.trans n2.symm
      clear n1 n2
      subst n3
      subst p4_0
      subst p5_0
      subst p9_0
      subst p10_0
      subst p12_0
      subst q4_0
      subst q5_0
      subst q9_0
      subst q10_0
      subst q12_0
      obtain rfl := d_bendMany p0_2 q0_2
      obtain rfl := d_isOf p2_1 q2_1
      have k6 := d_lainOf p6_1 q6_1 ht hh hi.2 hF hF'
      obtain rfl := k6.1
      obtain rfl := hi.1.ld g p8_0 q8_0
      have g11 := hi.1.st p11_0 q11_0 rfl
      exact ⟨g11.mono (fun _ h9 => .inl h9), k6.2⟩
theorem s_clr2 {f_h0_clear : (Nat → Int32)} {f_h0_corner : (Nat → Int32)} {f_h0_flats : (Nat → Int32)} {f_h0_high : (Nat → Int32)} {f_h0_lain : (Nat → Int32)} {f_h0_low : (Nat → Int32)} {f_h0_normal : (Nat → Int32)} {f_h0_now : (Nat → Int32)} {f_h0_told : (Nat → Int32)} {f_h0_wayX : (Nat → Int32)} {f_h0_wayY : (Nat → Int32)} {h0_canTool : Int32} {h0_hasPart : Int32} {h0_isLaid : Int32} {h0_now_0 : Int32} {h0_told_3 : Int32} {r1 : Int32} {v47239 : Int32}  {v59232 : Int32} {fn59233 : (Nat → Int32)} {fn59234 : (Nat → Int32)} {fn59235 : (Nat → Int32)} {fn59236 : (Nat → Int32)} {fn59237 : (Nat → Int32)} {fn59238 : (Nat → Int32)} {fn59239 : (Nat → Int32)} {fn59240 : (Nat → Int32)} {fn59241 : (Nat → Int32)} {fn59242 : (Nat → Int32)} {v59243 : Int32} (h : I_laysClearAgain_40_2 f_h0_clear f_h0_corner f_h0_flats f_h0_high f_h0_lain f_h0_low f_h0_normal f_h0_now f_h0_told f_h0_wayX f_h0_wayY h0_canTool h0_hasPart h0_isLaid h0_now_0 h0_told_3 r1 v47239 v59232 fn59233 fn59234 fn59235 fn59236 fn59237 fn59238 fn59239 fn59240 fn59241 fn59242 v59243) : fn59234 = f_h0_now ∧ (¬ (h0_isLaid.toInt = 0) → ¬ (v59243.toInt = 0) ∧ fn59236 = f_h0_flats) := by
  refine I_laysClearAgain_40_2.ind (Q_ := fun v59232 fn59233 fn59234 fn59235 fn59236 fn59237 fn59238 fn59239 fn59240 fn59241 fn59242 v59243 => fn59234 = f_h0_now ∧ (¬ (h0_isLaid.toInt = 0) → ¬ (v59243.toInt = 0) ∧ fn59236 = f_h0_flats)) ?_ ?_ ?_ h
  · exact st_rf
  · intro v59232 fn59233 fn59234 fn59235 fn59236 fn59237 fn59238 fn59239 fn59240 fn59241 fn59242 v59243 f60002 z60005 v60011 f60012 f60013 f60014 f60015 f60016 f60017 f60018 f60019 f60020 r60009 z60028 z60030 z60033 z60036 z60038 z60041 z60043 z60046 z60049 z60052 z60055 z60057 v60585 fn60586 v60587 fn60588 fn60589 fn60590 fn60591 fn60592 fn60593 fn60594 fn60595 fn60596 r60680 z60685 hp ih p0_0 p1_0 p2_0 p3_0 p4_0 p4_1 p5_0 p6_0 p7_0 p8_0 p9_0 p10_0 p11_0 p12_0 p13_0 p14_0 p15_0 p16_0 p17_0 p17_1 p17_2 p18_0 p18_1 p18_2 p19_0 p20_0
    exact st_tr ih (st_tr (u_lainOf p4_1) (s_clr3 p17_0))
  · intro v59232 fn59233 fn59234 fn59235 fn59236 fn59237 fn59238 fn59239 fn59240 fn59241 fn59242 v59243 f60002 z60005 z60740 hp ih p0_0 p1_0 p2_0 p3_0 p4_0
    exact ih
theorem u_clr2 {f_h0_clear : (Nat → Int32)} {f_h0_corner : (Nat → Int32)} {f_h0_flats : (Nat → Int32)} {f_h0_high : (Nat → Int32)} {f_h0_lain : (Nat → Int32)} {f_h0_low : (Nat → Int32)} {f_h0_normal : (Nat → Int32)} {f_h0_now : (Nat → Int32)} {f_h0_told : (Nat → Int32)} {f_h0_wayX : (Nat → Int32)} {f_h0_wayY : (Nat → Int32)} {h0_canTool : Int32} {h0_hasPart : Int32} {h0_isLaid : Int32} {h0_now_0 : Int32} {h0_told_3 : Int32} {r1 : Int32} {v47239 : Int32}  (hr : 0 ≤ r1.toInt ∧ r1.toInt ≤ 255) {v59232 : Int32} {fn59233 : (Nat → Int32)} {fn59234 : (Nat → Int32)} {fn59235 : (Nat → Int32)} {fn59236 : (Nat → Int32)} {fn59237 : (Nat → Int32)} {fn59238 : (Nat → Int32)} {fn59239 : (Nat → Int32)} {fn59240 : (Nat → Int32)} {fn59241 : (Nat → Int32)} {fn59242 : (Nat → Int32)} {v59243 : Int32} (h : I_laysClearAgain_40_2 f_h0_clear f_h0_corner f_h0_flats f_h0_high f_h0_lain f_h0_low f_h0_normal f_h0_now f_h0_told f_h0_wayX f_h0_wayY h0_canTool h0_hasPart h0_isLaid h0_now_0 h0_told_3 r1 v47239 v59232 fn59233 fn59234 fn59235 fn59236 fn59237 fn59238 fn59239 fn59240 fn59241 fn59242 v59243) : 0 ≤ v59232.toInt ∧ v59232.toInt ≤ r1.toInt + 1 := by
  refine I_laysClearAgain_40_2.ind (Q_ := fun v59232 fn59233 fn59234 fn59235 fn59236 fn59237 fn59238 fn59239 fn59240 fn59241 fn59242 v59243 => 0 ≤ v59232.toInt ∧ v59232.toInt ≤ r1.toInt + 1) ?_ ?_ ?_ h
  · have e0_ : (0 : Int32).toInt = 0 := by decide
    have e1_ : (1 : Int32).toInt = 1 := by decide
    have em_ : (-1 : Int32).toInt = -1 := by decide
    omega
  · intro v59232 fn59233 fn59234 fn59235 fn59236 fn59237 fn59238 fn59239 fn59240 fn59241 fn59242 v59243 f60002 z60005 v60011 f60012 f60013 f60014 f60015 f60016 f60017 f60018 f60019 f60020 r60009 z60028 z60030 z60033 z60036 z60038 z60041 z60043 z60046 z60049 z60052 z60055 z60057 v60585 fn60586 v60587 fn60588 fn60589 fn60590 fn60591 fn60592 fn60593 fn60594 fn60595 fn60596 r60680 z60685 hp ih p0_0 p1_0 p2_0 p3_0 p4_0 p4_1 p5_0 p6_0 p7_0 p8_0 p9_0 p10_0 p11_0 p12_0 p13_0 p14_0 p15_0 p16_0 p17_0 p17_1 p17_2 p18_0 p18_1 p18_2 p19_0 p20_0
    have e_ : z60685.toInt = v59232.toInt + 1 := za p20_0 rfl (show (1 : Int32).toInt = 1 by decide) (by omega)
    omega
  · intro v59232 fn59233 fn59234 fn59235 fn59236 fn59237 fn59238 fn59239 fn59240 fn59241 fn59242 v59243 f60002 z60005 z60740 hp ih p0_0 p1_0 p2_0 p3_0 p4_0
    have e_ : z60740.toInt = v59232.toInt + 1 := za p4_0 rfl (show (1 : Int32).toInt = 1 by decide) (by omega)
    omega
theorem d_clr2 {f_h0_clear : (Nat → Int32)} {f_h0_corner : (Nat → Int32)} {f_h0_flats : (Nat → Int32)} {f_h0_high : (Nat → Int32)} {f_h0_lain : (Nat → Int32)} {f_h0_low : (Nat → Int32)} {f_h0_normal : (Nat → Int32)} {f_h0_now : (Nat → Int32)} {f_h0_told : (Nat → Int32)} {f_h0_wayX : (Nat → Int32)} {f_h0_wayY : (Nat → Int32)} {h0_canTool : Int32} {h0_hasPart : Int32} {h0_isLaid : Int32} {h0_now_0 : Int32} {h0_told_3 : Int32} {r1 : Int32} {v47239 : Int32} {f_h0_clear' : (Nat → Int32)} {f_h0_corner' : (Nat → Int32)} {f_h0_flats' : (Nat → Int32)} {f_h0_high' : (Nat → Int32)} {f_h0_lain' : (Nat → Int32)} {f_h0_low' : (Nat → Int32)} {f_h0_normal' : (Nat → Int32)} {f_h0_wayX' : (Nat → Int32)} {f_h0_wayY' : (Nat → Int32)} {h0_isLaid' : Int32} {FL : Nat → Int32} (ht : 1 ≤ h0_told_3.toInt ∧ h0_told_3.toInt ≤ 9) (hh : h0_hasPart.toInt = 1) (hr : 0 ≤ r1.toInt ∧ r1.toInt ≤ 255) (aL : Ag (fun k => k < 6561) f_h0_lain f_h0_lain') {v59232 : Int32} {fn59233 : (Nat → Int32)} {fn59234 : (Nat → Int32)} {fn59235 : (Nat → Int32)} {fn59236 : (Nat → Int32)} {fn59237 : (Nat → Int32)} {fn59238 : (Nat → Int32)} {fn59239 : (Nat → Int32)} {fn59240 : (Nat → Int32)} {fn59241 : (Nat → Int32)} {fn59242 : (Nat → Int32)} {v59243 : Int32} (h : I_laysClearAgain_40_2 f_h0_clear f_h0_corner f_h0_flats f_h0_high f_h0_lain f_h0_low f_h0_normal f_h0_now f_h0_told f_h0_wayX f_h0_wayY h0_canTool h0_hasPart h0_isLaid h0_now_0 h0_told_3 r1 v47239 v59232 fn59233 fn59234 fn59235 fn59236 fn59237 fn59238 fn59239 fn59240 fn59241 fn59242 v59243) : ∀ (v59232' : Int32) (fn59233' : (Nat → Int32)) (fn59234' : (Nat → Int32)) (fn59235' : (Nat → Int32)) (fn59236' : (Nat → Int32)) (fn59237' : (Nat → Int32)) (fn59238' : (Nat → Int32)) (fn59239' : (Nat → Int32)) (fn59240' : (Nat → Int32)) (fn59241' : (Nat → Int32)) (fn59242' : (Nat → Int32)) (v59243' : Int32), I_laysClearAgain_40_2 f_h0_clear' f_h0_corner' f_h0_flats' f_h0_high' f_h0_lain' f_h0_low' f_h0_normal' f_h0_now f_h0_told f_h0_wayX' f_h0_wayY' h0_canTool h0_hasPart h0_isLaid' h0_now_0 h0_told_3 r1 v47239 v59232' fn59233' fn59234' fn59235' fn59236' fn59237' fn59238' fn59239' fn59240' fn59241' fn59242' v59243' → v59232 = v59232' → (¬ (v59243.toInt = 0) → fn59236 = FL) → (¬ (v59243'.toInt = 0) → fn59236' = FL) → Ag (B1 v59232) fn59233 fn59233' ∧ Ag (fun k => k < 6561) fn59235 fn59235' := by
  refine I_laysClearAgain_40_2.ind (Q_ := fun v59232 fn59233 fn59234 fn59235 fn59236 fn59237 fn59238 fn59239 fn59240 fn59241 fn59242 v59243 => ∀ (v59232' : Int32) (fn59233' : (Nat → Int32)) (fn59234' : (Nat → Int32)) (fn59235' : (Nat → Int32)) (fn59236' : (Nat → Int32)) (fn59237' : (Nat → Int32)) (fn59238' : (Nat → Int32)) (fn59239' : (Nat → Int32)) (fn59240' : (Nat → Int32)) (fn59241' : (Nat → Int32)) (fn59242' : (Nat → Int32)) (v59243' : Int32), I_laysClearAgain_40_2 f_h0_clear' f_h0_corner' f_h0_flats' f_h0_high' f_h0_lain' f_h0_low' f_h0_normal' f_h0_now f_h0_told f_h0_wayX' f_h0_wayY' h0_canTool h0_hasPart h0_isLaid' h0_now_0 h0_told_3 r1 v47239 v59232' fn59233' fn59234' fn59235' fn59236' fn59237' fn59238' fn59239' fn59240' fn59241' fn59242' v59243' → v59232 = v59232' → (¬ (v59243.toInt = 0) → fn59236 = FL) → (¬ (v59243'.toInt = 0) → fn59236' = FL) → Ag (B1 v59232) fn59233 fn59233' ∧ Ag (fun k => k < 6561) fn59235 fn59235') ?_ ?_ ?_ h
  · intro v59232'' fn59233'' fn59234'' fn59235'' fn59236'' fn59237'' fn59238'' fn59239'' fn59240'' fn59241'' fn59242'' v59243'' h' ev
    rcases I_laysClearAgain_40_2.inv h' with ⟨rfl, rfl, rfl, rfl, rfl, rfl, rfl, rfl, rfl, rfl, rfl, rfl⟩ | ⟨v59232', fn59233', fn59234', fn59235', fn59236', fn59237', fn59238', fn59239', fn59240', fn59241', fn59242', v59243', f60002', z60005', v60011', f60012', f60013', f60014', f60015', f60016', f60017', f60018', f60019', f60020', r60009', z60028', z60030', z60033', z60036', z60038', z60041', z60043', z60046', z60049', z60052', z60055', z60057', v60585', fn60586', v60587', fn60588', fn60589', fn60590', fn60591', fn60592', fn60593', fn60594', fn60595', fn60596', r60680', z60685', hp', q0_0, q1_0, q2_0, q3_0, q4_0, q4_1, q5_0, q6_0, q7_0, q8_0, q9_0, q10_0, q11_0, q12_0, q13_0, q14_0, q15_0, q16_0, q17_0, q17_1, q17_2, q18_0, q18_1, q18_2, q19_0, q20_0, rfl, rfl, rfl, rfl, rfl, rfl, rfl, rfl, rfl, rfl, rfl, rfl⟩ | ⟨v59232', fn59233', fn59234', fn59235', fn59236', fn59237', fn59238', fn59239', fn59240', fn59241', fn59242', v59243', f60002', z60005', z60740', hp', q0_0, q1_0, q2_0, q3_0, q4_0, rfl, rfl, rfl, rfl, rfl, rfl, rfl, rfl, rfl, rfl, rfl, rfl⟩
    · skip
      exact fun _ _ => ⟨fun k hk => (B1_0 hk).elim, aL⟩
    · skip
      have u_ := u_clr2 hr hp'
      have e_ := za q20_0 rfl (show (1 : Int32).toInt = 1 by decide) (by omega)
      have ee_ := congrArg Int32.toInt ev
      have e0_ : (0 : Int32).toInt = 0 := by decide
      have e1_ : (1 : Int32).toInt = 1 := by decide
      have em_ : (-1 : Int32).toInt = -1 := by decide
      exfalso; omega
    · skip
      have u_ := u_clr2 hr hp'
      have e_ := za q4_0 rfl (show (1 : Int32).toInt = 1 by decide) (by omega)
      have ee_ := congrArg Int32.toInt ev
      have e0_ : (0 : Int32).toInt = 0 := by decide
      have e1_ : (1 : Int32).toInt = 1 := by decide
      have em_ : (-1 : Int32).toInt = -1 := by decide
      exfalso; omega
  · intro v59232 fn59233 fn59234 fn59235 fn59236 fn59237 fn59238 fn59239 fn59240 fn59241 fn59242 v59243 f60002 z60005 v60011 f60012 f60013 f60014 f60015 f60016 f60017 f60018 f60019 f60020 r60009 z60028 z60030 z60033 z60036 z60038 z60041 z60043 z60046 z60049 z60052 z60055 z60057 v60585 fn60586 v60587 fn60588 fn60589 fn60590 fn60591 fn60592 fn60593 fn60594 fn60595 fn60596 r60680 z60685 hp ih p0_0 p1_0 p2_0 p3_0 p4_0 p4_1 p5_0 p6_0 p7_0 p8_0 p9_0 p10_0 p11_0 p12_0 p13_0 p14_0 p15_0 p16_0 p17_0 p17_1 p17_2 p18_0 p18_1 p18_2 p19_0 p20_0 v59232'' fn59233'' fn59234'' fn59235'' fn59236'' fn59237'' fn59238'' fn59239'' fn59240'' fn59241'' fn59242'' v59243'' h' ev
    rcases I_laysClearAgain_40_2.inv h' with ⟨rfl, rfl, rfl, rfl, rfl, rfl, rfl, rfl, rfl, rfl, rfl, rfl⟩ | ⟨v59232', fn59233', fn59234', fn59235', fn59236', fn59237', fn59238', fn59239', fn59240', fn59241', fn59242', v59243', f60002', z60005', v60011', f60012', f60013', f60014', f60015', f60016', f60017', f60018', f60019', f60020', r60009', z60028', z60030', z60033', z60036', z60038', z60041', z60043', z60046', z60049', z60052', z60055', z60057', v60585', fn60586', v60587', fn60588', fn60589', fn60590', fn60591', fn60592', fn60593', fn60594', fn60595', fn60596', r60680', z60685', hp', q0_0, q1_0, q2_0, q3_0, q4_0, q4_1, q5_0, q6_0, q7_0, q8_0, q9_0, q10_0, q11_0, q12_0, q13_0, q14_0, q15_0, q16_0, q17_0, q17_1, q17_2, q18_0, q18_1, q18_2, q19_0, q20_0, rfl, rfl, rfl, rfl, rfl, rfl, rfl, rfl, rfl, rfl, rfl, rfl⟩ | ⟨v59232', fn59233', fn59234', fn59235', fn59236', fn59237', fn59238', fn59239', fn59240', fn59241', fn59242', v59243', f60002', z60005', z60740', hp', q0_0, q1_0, q2_0, q3_0, q4_0, rfl, rfl, rfl, rfl, rfl, rfl, rfl, rfl, rfl, rfl, rfl, rfl⟩
    · skip
      have u_ := u_clr2 hr hp
      have e_ := za p20_0 rfl (show (1 : Int32).toInt = 1 by decide) (by omega)
      have ee_ := congrArg Int32.toInt ev
      have e0_ : (0 : Int32).toInt = 0 := by decide
      have e1_ : (1 : Int32).toInt = 1 := by decide
      have em_ : (-1 : Int32).toInt = -1 := by decide
      exfalso; omega
    · skip
      have ev2 : v59232 = v59232' := i32c (p20_0.symm.trans (ev.trans q20_0))
      intro hF hF'
      have u_ := u_clr2 hr hp
      have hM := st_F (s_clr3 p17_0) hF
      have hM' := st_F (s_clr3 q17_0) hF'
      have hi := ih _ _ _ _ _ _ _ _ _ _ _ _ hp' ev2 (st_F (u_lainOf p4_1) hM) (st_F (u_lainOf q4_1) hM')
      have n1 := (s_clr2 hp).1
      have n2 := (s_clr2 hp').1
      subst ev2
      have n3 := n1.trans n2.symm
      clear n1 n2
      subst n3
      subst p2_0
      subst p5_0
      subst p6_0
      subst p7_0
      subst p8_0
      subst p9_0
      subst p10_0
      subst p11_0
      subst p12_0
      subst p13_0
      subst p14_0
      subst p15_0
      subst p16_0
      subst p20_0
      subst q2_0
      subst q5_0
      subst q6_0
      subst q7_0
      subst q8_0
      subst q9_0
      subst q10_0
      subst q11_0
      subst q12_0
      subst q13_0
      subst q14_0
      subst q15_0
      subst q16_0
      subst q20_0
      have g1 := hi.1.st p1_0 q1_0 rfl
      have k4 := d_lainOf p4_1 q4_1 ht hh hi.2 hM hM'
      obtain rfl := k4.1
      have n4 := (u_lainOf p4_1).1
      have n5 := (u_lainOf q4_1).1
      have n6 := n4.trans n5.symm
      clear n4 n5
      subst n6
      have u1 := u_clr3 ht hh p17_0
      have u2 := u_clr3 ht hh q17_0
      have ev3 : v60585 = v60585' := i32e (by omega)
      subst ev3
      have k17 := d_clr3 ht hh g1 k4.2 (.inr rfl) p17_0 _ _ _ _ _ _ _ _ _ _ _ _ q17_0 rfl hF hF'
      obtain rfl := d_bendMany p18_2 q18_2
      have e_ : (v59232 + 1).toInt = v59232.toInt + 1 := za rfl rfl (show (1 : Int32).toInt = 1 by decide) (by omega)
      exact ⟨k17.1.mono (B1s e_ (by omega)), k17.2⟩
    · skip
      have ev2 : v59232 = v59232' := i32c (p20_0.symm.trans (ev.trans q4_0))
      intro hF hF'
      have u_ := u_clr2 hr hp
      have hM := st_F (s_clr3 p17_0) hF
      have hi := ih _ _ _ _ _ _ _ _ _ _ _ _ hp' ev2 (st_F (u_lainOf p4_1) hM) hF'
      have n1 := (s_clr2 hp).1
      have n2 := (s_clr2 hp').1
      subst ev2
      have n3 := n1.trans n2.symm
      clear n1 n2
      subst n3
      subst p2_0
      subst p5_0
      subst p6_0
      subst p7_0
      subst p8_0
      subst p9_0
      subst p10_0
      subst p11_0
      subst p12_0
      subst p13_0
      subst p14_0
      subst p15_0
      subst p16_0
      subst p20_0
      subst q2_0
      subst q4_0
      have g1 := hi.1.st p1_0 q1_0 rfl
      exact absurd p3_0 q3_0
  · intro v59232 fn59233 fn59234 fn59235 fn59236 fn59237 fn59238 fn59239 fn59240 fn59241 fn59242 v59243 f60002 z60005 z60740 hp ih p0_0 p1_0 p2_0 p3_0 p4_0 v59232'' fn59233'' fn59234'' fn59235'' fn59236'' fn59237'' fn59238'' fn59239'' fn59240'' fn59241'' fn59242'' v59243'' h' ev
    rcases I_laysClearAgain_40_2.inv h' with ⟨rfl, rfl, rfl, rfl, rfl, rfl, rfl, rfl, rfl, rfl, rfl, rfl⟩ | ⟨v59232', fn59233', fn59234', fn59235', fn59236', fn59237', fn59238', fn59239', fn59240', fn59241', fn59242', v59243', f60002', z60005', v60011', f60012', f60013', f60014', f60015', f60016', f60017', f60018', f60019', f60020', r60009', z60028', z60030', z60033', z60036', z60038', z60041', z60043', z60046', z60049', z60052', z60055', z60057', v60585', fn60586', v60587', fn60588', fn60589', fn60590', fn60591', fn60592', fn60593', fn60594', fn60595', fn60596', r60680', z60685', hp', q0_0, q1_0, q2_0, q3_0, q4_0, q4_1, q5_0, q6_0, q7_0, q8_0, q9_0, q10_0, q11_0, q12_0, q13_0, q14_0, q15_0, q16_0, q17_0, q17_1, q17_2, q18_0, q18_1, q18_2, q19_0, q20_0, rfl, rfl, rfl, rfl, rfl, rfl, rfl, rfl, rfl, rfl, rfl, rfl⟩ | ⟨v59232', fn59233', fn59234', fn59235', fn59236', fn59237', fn59238', fn59239', fn59240', fn59241', fn59242', v59243', f60002', z60005', z60740', hp', q0_0, q1_0, q2_0, q3_0, q4_0, rfl, rfl, rfl, rfl, rfl, rfl, rfl, rfl, rfl, rfl, rfl, rfl⟩
    · skip
      have u_ := u_clr2 hr hp
      have e_ := za p4_0 rfl (show (1 : Int32).toInt = 1 by decide) (by omega)
      have ee_ := congrArg Int32.toInt ev
      have e0_ : (0 : Int32).toInt = 0 := by decide
      have e1_ : (1 : Int32).toInt = 1 := by decide
      have em_ : (-1 : Int32).toInt = -1 := by decide
      exfalso; omega
    · skip
      have ev2 : v59232 = v59232' := i32c (p4_0.symm.trans (ev.trans q20_0))
      intro hF hF'
      have u_ := u_clr2 hr hp
      have hM' := st_F (s_clr3 q17_0) hF'
      have hi := ih _ _ _ _ _ _ _ _ _ _ _ _ hp' ev2 hF (st_F (u_lainOf q4_1) hM')
      have n1 := (s_clr2 hp).1
      have n2 := (s_clr2 hp').1
      subst ev2
      have n3 := n1.trans n2.symm
      clear n1 n2
      subst n3
      subst p2_0
      subst p4_0
      subst q2_0
      subst q5_0
      subst q6_0
      subst q7_0
      subst q8_0
      subst q9_0
      subst q10_0
      subst q11_0
      subst q12_0
      subst q13_0
      subst q14_0
      subst q15_0
      subst q16_0
      subst q20_0
      have g1 := hi.1.st p1_0 q1_0 rfl
      exact absurd q3_0 p3_0
    · skip
      have ev2 : v59232 = v59232' := i32c (p4_0.symm.trans (ev.trans q4_0))
      intro hF hF'
      have u_ := u_clr2 hr hp
      have hi := ih _ _ _ _ _ _ _ _ _ _ _ _ hp' ev2 hF hF'
      have n1 := (s_clr2 hp).1
      have n2 := (s_clr2 hp').1
      subst ev2
      have n3 := n1.trans n2.symm
      clear n1 n2
      subst n3
      subst p2_0
      subst p4_0
      subst q2_0
      subst q4_0
      have g1 := hi.1.st p1_0 q1_0 rfl
      have e_ : (v59232 + 1).toInt = v59232.toInt + 1 := za rfl rfl (show (1 : Int32).toInt = 1 by decide) (by omega)
      exact ⟨g1.mono (B1s e_ (by omega)), hi.2⟩
theorem d_laysClearAgain {h0_hasPart : Int32} {h0_isLaid : Int32} {h0_canTool : Int32} {f_h0_told : (Nat → Int32)} {h0_told_3 : Int32} {f_h0_clear : (Nat → Int32)} {f_h0_now : (Nat → Int32)} {h0_now_0 : Int32} {f_h0_lain : (Nat → Int32)} {f_h0_flats : (Nat → Int32)} {f_h0_corner : (Nat → Int32)} {f_h0_wayX : (Nat → Int32)} {f_h0_wayY : (Nat → Int32)} {f_h0_normal : (Nat → Int32)} {f_h0_low : (Nat → Int32)} {f_h0_high : (Nat → Int32)} {h0_isLaid' : Int32} {f_h0_clear' : (Nat → Int32)} {f_h0_lain' : (Nat → Int32)} {f_h0_flats' : (Nat → Int32)} {f_h0_corner' : (Nat → Int32)} {f_h0_wayX' : (Nat → Int32)} {f_h0_wayY' : (Nat → Int32)} {f_h0_normal' : (Nat → Int32)} {f_h0_low' : (Nat → Int32)} {f_h0_high' : (Nat → Int32)} {o_u_h0_isLaid : Int32} {o_u_h0_clear : (Nat → Int32)} {o_u_h0_now : (Nat → Int32)} {o_u_h0_lain : (Nat → Int32)} {o_u_h0_flats : (Nat → Int32)} {o_u_h0_corner : (Nat → Int32)} {o_u_h0_wayX : (Nat → Int32)} {o_u_h0_wayY : (Nat → Int32)} {o_u_h0_normal : (Nat → Int32)} {o_u_h0_low : (Nat → Int32)} {o_u_h0_high : (Nat → Int32)} {o_u_h0_isLaid' : Int32} {o_u_h0_clear' : (Nat → Int32)} {o_u_h0_now' : (Nat → Int32)} {o_u_h0_lain' : (Nat → Int32)} {o_u_h0_flats' : (Nat → Int32)} {o_u_h0_corner' : (Nat → Int32)} {o_u_h0_wayX' : (Nat → Int32)} {o_u_h0_wayY' : (Nat → Int32)} {o_u_h0_normal' : (Nat → Int32)} {o_u_h0_low' : (Nat → Int32)} {o_u_h0_high' : (Nat → Int32)} (h : S_laysClearAgain h0_hasPart h0_isLaid h0_canTool f_h0_told h0_told_3 f_h0_clear f_h0_now h0_now_0 f_h0_lain f_h0_flats f_h0_corner f_h0_wayX f_h0_wayY f_h0_normal f_h0_low f_h0_high o_u_h0_isLaid o_u_h0_clear o_u_h0_now o_u_h0_lain o_u_h0_flats o_u_h0_corner o_u_h0_wayX o_u_h0_wayY o_u_h0_normal o_u_h0_low o_u_h0_high) (h' : S_laysClearAgain h0_hasPart h0_isLaid' h0_canTool f_h0_told h0_told_3 f_h0_clear' f_h0_now h0_now_0 f_h0_lain' f_h0_flats' f_h0_corner' f_h0_wayX' f_h0_wayY' f_h0_normal' f_h0_low' f_h0_high' o_u_h0_isLaid' o_u_h0_clear' o_u_h0_now' o_u_h0_lain' o_u_h0_flats' o_u_h0_corner' o_u_h0_wayX' o_u_h0_wayY' o_u_h0_normal' o_u_h0_low' o_u_h0_high') {FL : Nat → Int32} (ht : 1 ≤ h0_told_3.toInt ∧ h0_told_3.toInt ≤ 9) (hh : h0_hasPart.toInt = 1) (aL : Ag (fun k => k < 6561) f_h0_lain f_h0_lain') (hF : (¬ (o_u_h0_isLaid.toInt = 0) → o_u_h0_flats = FL)) (hF' : (¬ (o_u_h0_isLaid'.toInt = 0) → o_u_h0_flats' = FL)) : ∀ a, S_allBends h0_hasPart h0_told_3 a → Ag (fun k => (k : Int) ≤ a.toInt) o_u_h0_clear o_u_h0_clear' := by
  rcases h with ⟨r1, v47239, v47240, r53997, v59232, fn59233, fn59234, fn59235, fn59236, fn59237, fn59238, fn59239, fn59240, fn59241, fn59242, v59243, p0_0, p0_1, p1_0, p1_1, p2_0, p2_1, p2_2, p3_0, p4_0, p4_1, p4_2, p5_0, rfl, rfl, rfl, rfl, rfl, rfl, rfl, rfl, rfl, rfl, rfl⟩ | h
  · rcases h' with ⟨r1', v47239', v47240', r53997', v59232', fn59233', fn59234', fn59235', fn59236', fn59237', fn59238', fn59239', fn59240', fn59241', fn59242', v59243', q0_0, q0_1, q1_0, q1_1, q2_0, q2_1, q2_2, q3_0, q4_0, q4_1, q4_2, q5_0, rfl, rfl, rfl, rfl, rfl, rfl, rfl, rfl, rfl, rfl, rfl⟩ | h'
    · skip
      obtain rfl := d_allBends p0_1 q0_1
      have u1 := u_clr1 ht hh p1_0
      have u2 := u_clr1 ht hh q1_0
      have ev : v47240 = v47240' := i32e (by omega)
      subst ev
      obtain rfl := d_clr1 ht hh p1_0 _ _ q1_0 rfl
      obtain rfl := d_bendMany p2_2 q2_2
      have u3 := u_clr2 p0_0 p4_0
      have u4 := u_clr2 p0_0 q4_0
      have ev2 : v59232 = v59232' := i32e (by omega)
      subst ev2
      have kk := d_clr2 ht hh p0_0 aL p4_0 _ _ _ _ _ _ _ _ _ _ _ _ q4_0 rfl hF hF'
      intro a ha
      obtain rfl := d_allBends p0_1 ha
      exact kk.1.mono (fun k hk => by unfold B1; omega)
    · exact h'.elim
  · exact h.elim
theorem s_laysClearAgain {h0_hasPart : Int32} {h0_isLaid : Int32} {h0_canTool : Int32} {f_h0_told : (Nat → Int32)} {h0_told_3 : Int32} {f_h0_clear : (Nat → Int32)} {f_h0_now : (Nat → Int32)} {h0_now_0 : Int32} {f_h0_lain : (Nat → Int32)} {f_h0_flats : (Nat → Int32)} {f_h0_corner : (Nat → Int32)} {f_h0_wayX : (Nat → Int32)} {f_h0_wayY : (Nat → Int32)} {f_h0_normal : (Nat → Int32)} {f_h0_low : (Nat → Int32)} {f_h0_high : (Nat → Int32)} {o_u_h0_isLaid : Int32} {o_u_h0_clear : (Nat → Int32)} {o_u_h0_now : (Nat → Int32)} {o_u_h0_lain : (Nat → Int32)} {o_u_h0_flats : (Nat → Int32)} {o_u_h0_corner : (Nat → Int32)} {o_u_h0_wayX : (Nat → Int32)} {o_u_h0_wayY : (Nat → Int32)} {o_u_h0_normal : (Nat → Int32)} {o_u_h0_low : (Nat → Int32)} {o_u_h0_high : (Nat → Int32)} (h : S_laysClearAgain h0_hasPart h0_isLaid h0_canTool f_h0_told h0_told_3 f_h0_clear f_h0_now h0_now_0 f_h0_lain f_h0_flats f_h0_corner f_h0_wayX f_h0_wayY f_h0_normal f_h0_low f_h0_high o_u_h0_isLaid o_u_h0_clear o_u_h0_now o_u_h0_lain o_u_h0_flats o_u_h0_corner o_u_h0_wayX o_u_h0_wayY o_u_h0_normal o_u_h0_low o_u_h0_high) : o_u_h0_now = f_h0_now ∧ (¬ (h0_isLaid.toInt = 0) → ¬ (o_u_h0_isLaid.toInt = 0) ∧ o_u_h0_flats = f_h0_flats) := by
  rcases h with ⟨r1, v47239, v47240, r53997, v59232, fn59233, fn59234, fn59235, fn59236, fn59237, fn59238, fn59239, fn59240, fn59241, fn59242, v59243, p0_0, p0_1, p1_0, p1_1, p2_0, p2_1, p2_2, p3_0, p4_0, p4_1, p4_2, p5_0, rfl, rfl, rfl, rfl, rfl, rfl, rfl, rfl, rfl, rfl, rfl⟩ | h
  · skip
    exact s_clr2 p4_0
  · exact h.elim
theorem s_laysClear {h0_hasPart : Int32} {h0_isLaid : Int32} {f_h0_lain : (Nat → Int32)} {f_h0_told : (Nat → Int32)} {h0_told_3 : Int32} {h0_told_4 : Int32} {f_h0_clear : (Nat → Int32)} {f_h0_now : (Nat → Int32)} {h0_now_0 : Int32} {f_h0_flats : (Nat → Int32)} {f_h0_corner : (Nat → Int32)} {f_h0_wayX : (Nat → Int32)} {f_h0_wayY : (Nat → Int32)} {f_h0_normal : (Nat → Int32)} {f_h0_low : (Nat → Int32)} {f_h0_high : (Nat → Int32)} {o_u_h0_isLaid : Int32} {o_u_h0_canTool : Int32} {o_u_h0_lain : (Nat → Int32)} {o_u_h0_clear : (Nat → Int32)} {o_u_h0_now : (Nat → Int32)} {o_u_h0_flats : (Nat → Int32)} {o_u_h0_corner : (Nat → Int32)} {o_u_h0_wayX : (Nat → Int32)} {o_u_h0_wayY : (Nat → Int32)} {o_u_h0_normal : (Nat → Int32)} {o_u_h0_low : (Nat → Int32)} {o_u_h0_high : (Nat → Int32)} (h : S_laysClear h0_hasPart h0_isLaid f_h0_lain f_h0_told h0_told_3 h0_told_4 f_h0_clear f_h0_now h0_now_0 f_h0_flats f_h0_corner f_h0_wayX f_h0_wayY f_h0_normal f_h0_low f_h0_high o_u_h0_isLaid o_u_h0_canTool o_u_h0_lain o_u_h0_clear o_u_h0_now o_u_h0_flats o_u_h0_corner o_u_h0_wayX o_u_h0_wayY o_u_h0_normal o_u_h0_low o_u_h0_high) : o_u_h0_now = f_h0_now ∧ (¬ (h0_isLaid.toInt = 0) → ¬ (o_u_h0_isLaid.toInt = 0) ∧ o_u_h0_flats = f_h0_flats) := by
  rcases h with ⟨v3, f4, v9, f10, f11, f12, f13, f14, f15, f16, f17, f18, f19, p0_0, p0_1, p1_0, p1_1, rfl, rfl, rfl, rfl, rfl, rfl, rfl, rfl, rfl, rfl, rfl, rfl⟩ | h
  · skip
    exact s_laysClearAgain p1_1
  · exact h.elim
theorem d_laysClear {h0_hasPart : Int32} {h0_isLaid : Int32} {f_h0_lain : (Nat → Int32)} {f_h0_told : (Nat → Int32)} {h0_told_3 : Int32} {h0_told_4 : Int32} {f_h0_clear : (Nat → Int32)} {f_h0_now : (Nat → Int32)} {h0_now_0 : Int32} {f_h0_flats : (Nat → Int32)} {f_h0_corner : (Nat → Int32)} {f_h0_wayX : (Nat → Int32)} {f_h0_wayY : (Nat → Int32)} {f_h0_normal : (Nat → Int32)} {f_h0_low : (Nat → Int32)} {f_h0_high : (Nat → Int32)} {h0_isLaid' : Int32} {f_h0_lain' : (Nat → Int32)} {f_h0_clear' : (Nat → Int32)} {f_h0_flats' : (Nat → Int32)} {f_h0_corner' : (Nat → Int32)} {f_h0_wayX' : (Nat → Int32)} {f_h0_wayY' : (Nat → Int32)} {f_h0_normal' : (Nat → Int32)} {f_h0_low' : (Nat → Int32)} {f_h0_high' : (Nat → Int32)} {o_u_h0_isLaid : Int32} {o_u_h0_canTool : Int32} {o_u_h0_lain : (Nat → Int32)} {o_u_h0_clear : (Nat → Int32)} {o_u_h0_now : (Nat → Int32)} {o_u_h0_flats : (Nat → Int32)} {o_u_h0_corner : (Nat → Int32)} {o_u_h0_wayX : (Nat → Int32)} {o_u_h0_wayY : (Nat → Int32)} {o_u_h0_normal : (Nat → Int32)} {o_u_h0_low : (Nat → Int32)} {o_u_h0_high : (Nat → Int32)} {o_u_h0_isLaid' : Int32} {o_u_h0_canTool' : Int32} {o_u_h0_lain' : (Nat → Int32)} {o_u_h0_clear' : (Nat → Int32)} {o_u_h0_now' : (Nat → Int32)} {o_u_h0_flats' : (Nat → Int32)} {o_u_h0_corner' : (Nat → Int32)} {o_u_h0_wayX' : (Nat → Int32)} {o_u_h0_wayY' : (Nat → Int32)} {o_u_h0_normal' : (Nat → Int32)} {o_u_h0_low' : (Nat → Int32)} {o_u_h0_high' : (Nat → Int32)} (h : S_laysClear h0_hasPart h0_isLaid f_h0_lain f_h0_told h0_told_3 h0_told_4 f_h0_clear f_h0_now h0_now_0 f_h0_flats f_h0_corner f_h0_wayX f_h0_wayY f_h0_normal f_h0_low f_h0_high o_u_h0_isLaid o_u_h0_canTool o_u_h0_lain o_u_h0_clear o_u_h0_now o_u_h0_flats o_u_h0_corner o_u_h0_wayX o_u_h0_wayY o_u_h0_normal o_u_h0_low o_u_h0_high) (h' : S_laysClear h0_hasPart h0_isLaid' f_h0_lain' f_h0_told h0_told_3 h0_told_4 f_h0_clear' f_h0_now h0_now_0 f_h0_flats' f_h0_corner' f_h0_wayX' f_h0_wayY' f_h0_normal' f_h0_low' f_h0_high' o_u_h0_isLaid' o_u_h0_canTool' o_u_h0_lain' o_u_h0_clear' o_u_h0_now' o_u_h0_flats' o_u_h0_corner' o_u_h0_wayX' o_u_h0_wayY' o_u_h0_normal' o_u_h0_low' o_u_h0_high') {FL : Nat → Int32} (ht : 1 ≤ h0_told_3.toInt ∧ h0_told_3.toInt ≤ 9) (hh : h0_hasPart.toInt = 1) (h4 : 0 ≤ h0_told_4.toInt ∧ h0_told_4.toInt ≤ 8) (hF : (¬ (o_u_h0_isLaid.toInt = 0) → o_u_h0_flats = FL)) (hF' : (¬ (o_u_h0_isLaid'.toInt = 0) → o_u_h0_flats' = FL)) : ∀ a, S_allBends h0_hasPart h0_told_3 a → Ag (fun k => (k : Int) ≤ a.toInt) o_u_h0_clear o_u_h0_clear' := by
  rcases h with ⟨v3, f4, v9, f10, f11, f12, f13, f14, f15, f16, f17, f18, f19, p0_0, p0_1, p1_0, p1_1, rfl, rfl, rfl, rfl, rfl, rfl, rfl, rfl, rfl, rfl, rfl, rfl⟩ | h
  · rcases h' with ⟨v3', f4', v9', f10', f11', f12', f13', f14', f15', f16', f17', f18', f19', q0_0, q0_1, q1_0, q1_1, rfl, rfl, rfl, rfl, rfl, rfl, rfl, rfl, rfl, rfl, rfl, rfl⟩ | h'
    · skip
      have k1 := d_forgetsLain p0_1 q0_1 ht hh h4
      obtain rfl := k1.1
      have k2 := d_laysClearAgain p1_1 q1_1 ht hh k1.2 hF hF'
      exact k2
    · exact h'.elim
  · exact h.elim
theorem or_n : ∀ n, n < 9 → ∀ b, b < n → ∀ v : Nat, v < 2 ^ n → (v : Int) ≤ (Int32.ofNat v ||| (1 : Int32) <<< (Int32.ofNat b &&& 31)).toInt ∧ (Int32.ofNat v ||| (1 : Int32) <<< (Int32.ofNat b &&& 31)).toInt ≤ 2 ^ n - 1 := by decide +kernel
theorem ab_val {p t a : Int32} (h : S_allBends p t a) (ht : 1 ≤ t.toInt ∧ t.toInt ≤ 9) (hh : p.toInt = 1) : a.toInt = 2 ^ (t.toInt.toNat - 1) - 1 := by
  rcases h with ⟨r, z, w, p0, p1, p2, rfl, rfl, rfl⟩ | h
  · obtain ⟨n, rfl, e⟩ := oN p0.1
    rw [(shl8n n (by omega)).2.2, show t.toInt.toNat - 1 = n by omega]
  · exact h.elim
def Wy (v a : Int32) (k : Nat) : Prop := v.toInt < (k : Int) ∧ (k : Int) ≤ a.toInt
theorem mC {v a : Int32} (h : 0 ≤ v.toInt ∧ v.toInt ≤ a.toInt) : (v.toNatClampNeg : Int) ≤ a.toInt := by rw [nat_]; omega
theorem mO {p t a v b : Int32} (h : S_allBends p t a) (ht : 1 ≤ t.toInt ∧ t.toInt ≤ 9) (hh : p.toInt = 1) (hs : 0 ≤ v.toInt ∧ v.toInt ≤ a.toInt) (hb : 1 ≤ b.toInt ∧ b.toInt < t.toInt) : Wy v a (v ||| (1 : Int32) <<< ((b - 1) &&& 31)).toNatClampNeg ∨ (v ||| (1 : Int32) <<< ((b - 1) &&& 31)).toNatClampNeg = v.toNatClampNeg := by
  have ha := ab_val h ht hh
  have e : (b - 1).toInt = b.toInt - 1 := zs rfl rfl (show (1 : Int32).toInt = 1 by decide) (by omega)
  obtain ⟨n, en, e1⟩ := oN hs.1
  obtain ⟨c, ec, e2⟩ := oN (v := b - 1) (by omega)
  have hn : n < 2 ^ (t.toInt.toNat - 1) := by
    have h2 : (n : Int) < 2 ^ (t.toInt.toNat - 1) := by omega
    exact_mod_cast h2
  have q := or_n (t.toInt.toNat - 1) (by omega) c (by omega) n hn
  rw [← en, ← ec, ← ha] at q
  rw [nat_, nat_]; unfold Wy; omega
theorem Ws {v a : Int32} (h : -1 ≤ (v + (-1)).toInt) (e_ : (v + (-1)).toInt = v.toInt + -1) : ∀ k, Wy (v + (-1)) a k → Wy v a k ∨ k = v.toNatClampNeg := fun k hk => by unfold Wy at *; rw [nat_]; omega
theorem mW {v a n : Int32} (h : v.toInt < 0) (hn : 0 ≤ n.toInt ∧ n.toInt ≤ a.toInt) : Wy v a n.toNatClampNeg := by unfold Wy; rw [nat_]; omega

theorem u_way2 {f4983 : (Nat → Int32)} {f_h0_clear : (Nat → Int32)} {h0_hasPart : Int32} {h0_told_3 : Int32} {v3314 : Int32} {x1 : Int32} {x2 : Int32} (ht : 1 ≤ h0_told_3.toInt ∧ h0_told_3.toInt ≤ 9) (hh : h0_hasPart.toInt = 1) {v5620 : Int32} {fn5621 : (Nat → Int32)} (h : I_laysWays_34_2 f4983 f_h0_clear h0_hasPart h0_told_3 v3314 x1 x2 v5620 fn5621) : 1 ≤ v5620.toInt ∧ v5620.toInt ≤ h0_told_3.toInt := by
  refine I_laysWays_34_2.ind (Q_ := fun v5620 fn5621 => 1 ≤ v5620.toInt ∧ v5620.toInt ≤ h0_told_3.toInt) ?_ ?_ ?_ ?_ ?_ h
  · have e0_ : (0 : Int32).toInt = 0 := by decide
    have e1_ : (1 : Int32).toInt = 1 := by decide
    have em_ : (-1 : Int32).toInt = -1 := by decide
    omega
  · intro v5620 fn5621 r5724 z5732 z5735 r5738 z5743 z5746 f5749 z5751 hp ih p0_0 p0_1 p0_2 p1_0 p2_0 p2_1 p3_0 p4_0 p4_1 p5_0 p6_0 p7_0 p8_0 p9_0
    have e_ : z5751.toInt = v5620.toInt + 1 := za p9_0 rfl (show (1 : Int32).toInt = 1 by decide) (by omega)
    omega
  · intro v5620 fn5621 r5724 z5732 z5735 r5738 z5755 z5758 z5761 z5764 z5767 z5769 f5771 z5773 hp ih p0_0 p0_1 p0_2 p1_0 p2_0 p2_1 p3_0 p4_0 p4_1 p5_0 p6_0 p7_0 p8_0 p9_0 p10_0 p11_0 p12_0 p13_0 p14_0
    have e_ : z5773.toInt = v5620.toInt + 1 := za p14_0 rfl (show (1 : Int32).toInt = 1 by decide) (by omega)
    omega
  · intro v5620 fn5621 r5724 z5732 z5735 r5738 z5776 r5779 z5784 z5787 f5790 z5792 hp ih p0_0 p0_1 p0_2 p1_0 p2_0 p2_1 p3_0 p4_0 p4_1 p5_0 p6_0 p7_0 p8_0 p8_1 p9_0 p10_0 p11_0 p12_0 p13_0
    have e_ : z5792.toInt = v5620.toInt + 1 := za p13_0 rfl (show (1 : Int32).toInt = 1 by decide) (by omega)
    omega
  · intro v5620 fn5621 r5724 z5732 z5735 r5738 z5776 r5779 z5795 z5798 z5801 z5804 z5807 z5809 f5811 z5813 hp ih p0_0 p0_1 p0_2 p1_0 p2_0 p2_1 p3_0 p4_0 p4_1 p5_0 p6_0 p7_0 p8_0 p8_1 p9_0 p10_0 p11_0 p12_0 p13_0 p14_0 p15_0 p16_0 p17_0
    have e_ : z5813.toInt = v5620.toInt + 1 := za p17_0 rfl (show (1 : Int32).toInt = 1 by decide) (by omega)
    omega
theorem d_way2 {f4983 : (Nat → Int32)} {f_h0_clear : (Nat → Int32)} {h0_hasPart : Int32} {h0_told_3 : Int32} {v3314 : Int32} {x1 : Int32} {x2 : Int32} {f4983' : (Nat → Int32)} {f_h0_clear' : (Nat → Int32)} {a : Int32} (ht : 1 ≤ h0_told_3.toInt ∧ h0_told_3.toInt ≤ 9) (hh : h0_hasPart.toInt = 1) (hb : S_allBends h0_hasPart h0_told_3 a) (hs : 0 ≤ v3314.toInt ∧ v3314.toInt ≤ a.toInt) (aC : Ag (fun k => (k : Int) ≤ a.toInt) f_h0_clear f_h0_clear') (aW : Ag (fun k => Wy v3314 a k ∨ k = v3314.toNatClampNeg) f4983 f4983') {v5620 : Int32} {fn5621 : (Nat → Int32)} (h : I_laysWays_34_2 f4983 f_h0_clear h0_hasPart h0_told_3 v3314 x1 x2 v5620 fn5621) : ∀ (v5620' : Int32) (fn5621' : (Nat → Int32)), I_laysWays_34_2 f4983' f_h0_clear' h0_hasPart h0_told_3 v3314 x1 x2 v5620' fn5621' → v5620 = v5620' → Ag (fun k => Wy v3314 a k ∨ k = v3314.toNatClampNeg) fn5621 fn5621' := by
  refine I_laysWays_34_2.ind (Q_ := fun v5620 fn5621 => ∀ (v5620' : Int32) (fn5621' : (Nat → Int32)), I_laysWays_34_2 f4983' f_h0_clear' h0_hasPart h0_told_3 v3314 x1 x2 v5620' fn5621' → v5620 = v5620' → Ag (fun k => Wy v3314 a k ∨ k = v3314.toNatClampNeg) fn5621 fn5621') ?_ ?_ ?_ ?_ ?_ h
  · intro v5620'' fn5621'' h' ev
    rcases I_laysWays_34_2.inv h' with ⟨rfl, rfl⟩ | ⟨v5620', fn5621', r5724', z5732', z5735', r5738', z5743', z5746', f5749', z5751', hp', q0_0, q0_1, q0_2, q1_0, q2_0, q2_1, q3_0, q4_0, q4_1, q5_0, q6_0, q7_0, q8_0, q9_0, rfl, rfl⟩ | ⟨v5620', fn5621', r5724', z5732', z5735', r5738', z5755', z5758', z5761', z5764', z5767', z5769', f5771', z5773', hp', q0_0, q0_1, q0_2, q1_0, q2_0, q2_1, q3_0, q4_0, q4_1, q5_0, q6_0, q7_0, q8_0, q9_0, q10_0, q11_0, q12_0, q13_0, q14_0, rfl, rfl⟩ | ⟨v5620', fn5621', r5724', z5732', z5735', r5738', z5776', r5779', z5784', z5787', f5790', z5792', hp', q0_0, q0_1, q0_2, q1_0, q2_0, q2_1, q3_0, q4_0, q4_1, q5_0, q6_0, q7_0, q8_0, q8_1, q9_0, q10_0, q11_0, q12_0, q13_0, rfl, rfl⟩ | ⟨v5620', fn5621', r5724', z5732', z5735', r5738', z5776', r5779', z5795', z5798', z5801', z5804', z5807', z5809', f5811', z5813', hp', q0_0, q0_1, q0_2, q1_0, q2_0, q2_1, q3_0, q4_0, q4_1, q5_0, q6_0, q7_0, q8_0, q8_1, q9_0, q10_0, q11_0, q12_0, q13_0, q14_0, q15_0, q16_0, q17_0, rfl, rfl⟩
    · skip
      exact aW
    · skip
      have u_ := u_way2 ht hh hp'
      have e_ := za q9_0 rfl (show (1 : Int32).toInt = 1 by decide) (by omega)
      have ee_ := congrArg Int32.toInt ev
      have e0_ : (0 : Int32).toInt = 0 := by decide
      have e1_ : (1 : Int32).toInt = 1 := by decide
      have em_ : (-1 : Int32).toInt = -1 := by decide
      exfalso; omega
    · skip
      have u_ := u_way2 ht hh hp'
      have e_ := za q14_0 rfl (show (1 : Int32).toInt = 1 by decide) (by omega)
      have ee_ := congrArg Int32.toInt ev
      have e0_ : (0 : Int32).toInt = 0 := by decide
      have e1_ : (1 : Int32).toInt = 1 := by decide
      have em_ : (-1 : Int32).toInt = -1 := by decide
      exfalso; omega
    · skip
      have u_ := u_way2 ht hh hp'
      have e_ := za q13_0 rfl (show (1 : Int32).toInt = 1 by decide) (by omega)
      have ee_ := congrArg Int32.toInt ev
      have e0_ : (0 : Int32).toInt = 0 := by decide
      have e1_ : (1 : Int32).toInt = 1 := by decide
      have em_ : (-1 : Int32).toInt = -1 := by decide
      exfalso; omega
    · skip
      have u_ := u_way2 ht hh hp'
      have e_ := za q17_0 rfl (show (1 : Int32).toInt = 1 by decide) (by omega)
      have ee_ := congrArg Int32.toInt ev
      have e0_ : (0 : Int32).toInt = 0 := by decide
      have e1_ : (1 : Int32).toInt = 1 := by decide
      have em_ : (-1 : Int32).toInt = -1 := by decide
      exfalso; omega
  · intro v5620 fn5621 r5724 z5732 z5735 r5738 z5743 z5746 f5749 z5751 hp ih p0_0 p0_1 p0_2 p1_0 p2_0 p2_1 p3_0 p4_0 p4_1 p5_0 p6_0 p7_0 p8_0 p9_0 v5620'' fn5621'' h' ev
    rcases I_laysWays_34_2.inv h' with ⟨rfl, rfl⟩ | ⟨v5620', fn5621', r5724', z5732', z5735', r5738', z5743', z5746', f5749', z5751', hp', q0_0, q0_1, q0_2, q1_0, q2_0, q2_1, q3_0, q4_0, q4_1, q5_0, q6_0, q7_0, q8_0, q9_0, rfl, rfl⟩ | ⟨v5620', fn5621', r5724', z5732', z5735', r5738', z5755', z5758', z5761', z5764', z5767', z5769', f5771', z5773', hp', q0_0, q0_1, q0_2, q1_0, q2_0, q2_1, q3_0, q4_0, q4_1, q5_0, q6_0, q7_0, q8_0, q9_0, q10_0, q11_0, q12_0, q13_0, q14_0, rfl, rfl⟩ | ⟨v5620', fn5621', r5724', z5732', z5735', r5738', z5776', r5779', z5784', z5787', f5790', z5792', hp', q0_0, q0_1, q0_2, q1_0, q2_0, q2_1, q3_0, q4_0, q4_1, q5_0, q6_0, q7_0, q8_0, q8_1, q9_0, q10_0, q11_0, q12_0, q13_0, rfl, rfl⟩ | ⟨v5620', fn5621', r5724', z5732', z5735', r5738', z5776', r5779', z5795', z5798', z5801', z5804', z5807', z5809', f5811', z5813', hp', q0_0, q0_1, q0_2, q1_0, q2_0, q2_1, q3_0, q4_0, q4_1, q5_0, q6_0, q7_0, q8_0, q8_1, q9_0, q10_0, q11_0, q12_0, q13_0, q14_0, q15_0, q16_0, q17_0, rfl, rfl⟩
    · skip
      have u_ := u_way2 ht hh hp
      have e_ := za p9_0 rfl (show (1 : Int32).toInt = 1 by decide) (by omega)
      have ee_ := congrArg Int32.toInt ev
      have e0_ : (0 : Int32).toInt = 0 := by decide
      have e1_ : (1 : Int32).toInt = 1 := by decide
      have em_ : (-1 : Int32).toInt = -1 := by decide
      exfalso; omega
    · skip
      have ev2 : v5620 = v5620' := i32c (p9_0.symm.trans (ev.trans q9_0))
      have hi := ih _ _ hp' ev2
      subst ev2
      have u_ := u_way2 ht hh hp
      subst p3_0
      subst p7_0
      subst p9_0
      subst q3_0
      subst q7_0
      subst q9_0
      obtain rfl := d_bendMany p0_2 q0_2
      obtain rfl := aC.ld (mC hs) p2_0 q2_0
      obtain rfl := d_isOf p4_1 q4_1
      obtain rfl := hi.ld (.inr rfl) p6_0 q6_0
      have g8 := hi.st p8_0 q8_0 rfl
      exact g8.mono (fun _ h9 => .inl h9)
    · skip
      have ev2 : v5620 = v5620' := i32c (p9_0.symm.trans (ev.trans q14_0))
      have hi := ih _ _ hp' ev2
      subst ev2
      have u_ := u_way2 ht hh hp
      subst p3_0
      subst p7_0
      subst p9_0
      subst q3_0
      subst q8_0
      subst q9_0
      subst q10_0
      subst q12_0
      subst q14_0
      obtain rfl := d_bendMany p0_2 q0_2
      obtain rfl := aC.ld (mC hs) p2_0 q2_0
      obtain rfl := d_isOf p4_1 q4_1
      exact absurd p5_0 q5_0
    · skip
      have ev2 : v5620 = v5620' := i32c (p9_0.symm.trans (ev.trans q13_0))
      have hi := ih _ _ hp' ev2
      subst ev2
      have u_ := u_way2 ht hh hp
      subst p3_0
      subst p7_0
      subst p9_0
      subst q3_0
      subst q7_0
      subst q11_0
      subst q13_0
      obtain rfl := d_bendMany p0_2 q0_2
      obtain rfl := aC.ld (mC hs) p2_0 q2_0
      obtain rfl := d_isOf p4_1 q4_1
      exact absurd p5_0 q5_0
    · skip
      have ev2 : v5620 = v5620' := i32c (p9_0.symm.trans (ev.trans q17_0))
      have hi := ih _ _ hp' ev2
      subst ev2
      have u_ := u_way2 ht hh hp
      subst p3_0
      subst p7_0
      subst p9_0
      subst q3_0
      subst q7_0
      subst q11_0
      subst q12_0
      subst q13_0
      subst q15_0
      subst q17_0
      obtain rfl := d_bendMany p0_2 q0_2
      obtain rfl := aC.ld (mC hs) p2_0 q2_0
      obtain rfl := d_isOf p4_1 q4_1
      exact absurd p5_0 q5_0
  · intro v5620 fn5621 r5724 z5732 z5735 r5738 z5755 z5758 z5761 z5764 z5767 z5769 f5771 z5773 hp ih p0_0 p0_1 p0_2 p1_0 p2_0 p2_1 p3_0 p4_0 p4_1 p5_0 p6_0 p7_0 p8_0 p9_0 p10_0 p11_0 p12_0 p13_0 p14_0 v5620'' fn5621'' h' ev
    rcases I_laysWays_34_2.inv h' with ⟨rfl, rfl⟩ | ⟨v5620', fn5621', r5724', z5732', z5735', r5738', z5743', z5746', f5749', z5751', hp', q0_0, q0_1, q0_2, q1_0, q2_0, q2_1, q3_0, q4_0, q4_1, q5_0, q6_0, q7_0, q8_0, q9_0, rfl, rfl⟩ | ⟨v5620', fn5621', r5724', z5732', z5735', r5738', z5755', z5758', z5761', z5764', z5767', z5769', f5771', z5773', hp', q0_0, q0_1, q0_2, q1_0, q2_0, q2_1, q3_0, q4_0, q4_1, q5_0, q6_0, q7_0, q8_0, q9_0, q10_0, q11_0, q12_0, q13_0, q14_0, rfl, rfl⟩ | ⟨v5620', fn5621', r5724', z5732', z5735', r5738', z5776', r5779', z5784', z5787', f5790', z5792', hp', q0_0, q0_1, q0_2, q1_0, q2_0, q2_1, q3_0, q4_0, q4_1, q5_0, q6_0, q7_0, q8_0, q8_1, q9_0, q10_0, q11_0, q12_0, q13_0, rfl, rfl⟩ | ⟨v5620', fn5621', r5724', z5732', z5735', r5738', z5776', r5779', z5795', z5798', z5801', z5804', z5807', z5809', f5811', z5813', hp', q0_0, q0_1, q0_2, q1_0, q2_0, q2_1, q3_0, q4_0, q4_1, q5_0, q6_0, q7_0, q8_0, q8_1, q9_0, q10_0, q11_0, q12_0, q13_0, q14_0, q15_0, q16_0, q17_0, rfl, rfl⟩
    · skip
      have u_ := u_way2 ht hh hp
      have e_ := za p14_0 rfl (show (1 : Int32).toInt = 1 by decide) (by omega)
      have ee_ := congrArg Int32.toInt ev
      have e0_ : (0 : Int32).toInt = 0 := by decide
      have e1_ : (1 : Int32).toInt = 1 := by decide
      have em_ : (-1 : Int32).toInt = -1 := by decide
      exfalso; omega
    · skip
      have ev2 : v5620 = v5620' := i32c (p14_0.symm.trans (ev.trans q9_0))
      have hi := ih _ _ hp' ev2
      subst ev2
      have u_ := u_way2 ht hh hp
      subst p3_0
      subst p8_0
      subst p9_0
      subst p10_0
      subst p12_0
      subst p14_0
      subst q3_0
      subst q7_0
      subst q9_0
      obtain rfl := d_bendMany p0_2 q0_2
      obtain rfl := aC.ld (mC hs) p2_0 q2_0
      obtain rfl := d_isOf p4_1 q4_1
      exact absurd q5_0 p5_0
    · skip
      have ev2 : v5620 = v5620' := i32c (p14_0.symm.trans (ev.trans q14_0))
      have hi := ih _ _ hp' ev2
      subst ev2
      have u_ := u_way2 ht hh hp
      subst p3_0
      subst p8_0
      subst p9_0
      subst p10_0
      subst p12_0
      subst p14_0
      subst q3_0
      subst q8_0
      subst q9_0
      subst q10_0
      subst q12_0
      subst q14_0
      obtain rfl := d_bendMany p0_2 q0_2
      obtain rfl := aC.ld (mC hs) p2_0 q2_0
      obtain rfl := d_isOf p4_1 q4_1
      obtain rfl := hi.ld (.inr rfl) p7_0 q7_0
      obtain rfl := hi.ld (mO hb ht hh hs (by omega)) p11_0 q11_0
      have g13 := hi.st p13_0 q13_0 rfl
      exact g13.mono (fun _ h9 => .inl h9)
    · skip
      have ev2 : v5620 = v5620' := i32c (p14_0.symm.trans (ev.trans q13_0))
      have hi := ih _ _ hp' ev2
      subst ev2
      have u_ := u_way2 ht hh hp
      subst p3_0
      subst p8_0
      subst p9_0
      subst p10_0
      subst p12_0
      subst p14_0
      subst q3_0
      subst q7_0
      subst q11_0
      subst q13_0
      obtain rfl := d_bendMany p0_2 q0_2
      obtain rfl := aC.ld (mC hs) p2_0 q2_0
      obtain rfl := d_isOf p4_1 q4_1
      exact absurd q6_0 p6_0
    · skip
      have ev2 : v5620 = v5620' := i32c (p14_0.symm.trans (ev.trans q17_0))
      have hi := ih _ _ hp' ev2
      subst ev2
      have u_ := u_way2 ht hh hp
      subst p3_0
      subst p8_0
      subst p9_0
      subst p10_0
      subst p12_0
      subst p14_0
      subst q3_0
      subst q7_0
      subst q11_0
      subst q12_0
      subst q13_0
      subst q15_0
      subst q17_0
      obtain rfl := d_bendMany p0_2 q0_2
      obtain rfl := aC.ld (mC hs) p2_0 q2_0
      obtain rfl := d_isOf p4_1 q4_1
      exact absurd q6_0 p6_0
  · intro v5620 fn5621 r5724 z5732 z5735 r5738 z5776 r5779 z5784 z5787 f5790 z5792 hp ih p0_0 p0_1 p0_2 p1_0 p2_0 p2_1 p3_0 p4_0 p4_1 p5_0 p6_0 p7_0 p8_0 p8_1 p9_0 p10_0 p11_0 p12_0 p13_0 v5620'' fn5621'' h' ev
    rcases I_laysWays_34_2.inv h' with ⟨rfl, rfl⟩ | ⟨v5620', fn5621', r5724', z5732', z5735', r5738', z5743', z5746', f5749', z5751', hp', q0_0, q0_1, q0_2, q1_0, q2_0, q2_1, q3_0, q4_0, q4_1, q5_0, q6_0, q7_0, q8_0, q9_0, rfl, rfl⟩ | ⟨v5620', fn5621', r5724', z5732', z5735', r5738', z5755', z5758', z5761', z5764', z5767', z5769', f5771', z5773', hp', q0_0, q0_1, q0_2, q1_0, q2_0, q2_1, q3_0, q4_0, q4_1, q5_0, q6_0, q7_0, q8_0, q9_0, q10_0, q11_0, q12_0, q13_0, q14_0, rfl, rfl⟩ | ⟨v5620', fn5621', r5724', z5732', z5735', r5738', z5776', r5779', z5784', z5787', f5790', z5792', hp', q0_0, q0_1, q0_2, q1_0, q2_0, q2_1, q3_0, q4_0, q4_1, q5_0, q6_0, q7_0, q8_0, q8_1, q9_0, q10_0, q11_0, q12_0, q13_0, rfl, rfl⟩ | ⟨v5620', fn5621', r5724', z5732', z5735', r5738', z5776', r5779', z5795', z5798', z5801', z5804', z5807', z5809', f5811', z5813', hp', q0_0, q0_1, q0_2, q1_0, q2_0, q2_1, q3_0, q4_0, q4_1, q5_0, q6_0, q7_0, q8_0, q8_1, q9_0, q10_0, q11_0, q12_0, q13_0, q14_0, q15_0, q16_0, q17_0, rfl, rfl⟩
    · skip
      have u_ := u_way2 ht hh hp
      have e_ := za p13_0 rfl (show (1 : Int32).toInt = 1 by decide) (by omega)
      have ee_ := congrArg Int32.toInt ev
      have e0_ : (0 : Int32).toInt = 0 := by decide
      have e1_ : (1 : Int32).toInt = 1 := by decide
      have em_ : (-1 : Int32).toInt = -1 := by decide
      exfalso; omega
    · skip
      have ev2 : v5620 = v5620' := i32c (p13_0.symm.trans (ev.trans q9_0))
      have hi := ih _ _ hp' ev2
      subst ev2
      have u_ := u_way2 ht hh hp
      subst p3_0
      subst p7_0
      subst p11_0
      subst p13_0
      subst q3_0
      subst q7_0
      subst q9_0
      obtain rfl := d_bendMany p0_2 q0_2
      obtain rfl := aC.ld (mC hs) p2_0 q2_0
      obtain rfl := d_isOf p4_1 q4_1
      exact absurd q5_0 p5_0
    · skip
      have ev2 : v5620 = v5620' := i32c (p13_0.symm.trans (ev.trans q14_0))
      have hi := ih _ _ hp' ev2
      subst ev2
      have u_ := u_way2 ht hh hp
      subst p3_0
      subst p7_0
      subst p11_0
      subst p13_0
      subst q3_0
      subst q8_0
      subst q9_0
      subst q10_0
      subst q12_0
      subst q14_0
      obtain rfl := d_bendMany p0_2 q0_2
      obtain rfl := aC.ld (mC hs) p2_0 q2_0
      obtain rfl := d_isOf p4_1 q4_1
      exact absurd p6_0 q6_0
    · skip
      have ev2 : v5620 = v5620' := i32c (p13_0.symm.trans (ev.trans q13_0))
      have hi := ih _ _ hp' ev2
      subst ev2
      have u_ := u_way2 ht hh hp
      subst p3_0
      subst p7_0
      subst p11_0
      subst p13_0
      subst q3_0
      subst q7_0
      subst q11_0
      subst q13_0
      obtain rfl := d_bendMany p0_2 q0_2
      obtain rfl := aC.ld (mC hs) p2_0 q2_0
      obtain rfl := d_isOf p4_1 q4_1
      obtain rfl := d_isOf p8_1 q8_1
      obtain rfl := hi.ld (.inr rfl) p10_0 q10_0
      have g12 := hi.st p12_0 q12_0 rfl
      exact g12.mono (fun _ h9 => .inl h9)
    · skip
      have ev2 : v5620 = v5620' := i32c (p13_0.symm.trans (ev.trans q17_0))
      have hi := ih _ _ hp' ev2
      subst ev2
      have u_ := u_way2 ht hh hp
      subst p3_0
      subst p7_0
      subst p11_0
      subst p13_0
      subst q3_0
      subst q7_0
      subst q11_0
      subst q12_0
      subst q13_0
      subst q15_0
      subst q17_0
      obtain rfl := d_bendMany p0_2 q0_2
      obtain rfl := aC.ld (mC hs) p2_0 q2_0
      obtain rfl := d_isOf p4_1 q4_1
      obtain rfl := d_isOf p8_1 q8_1
      exact absurd p9_0 q9_0
  · intro v5620 fn5621 r5724 z5732 z5735 r5738 z5776 r5779 z5795 z5798 z5801 z5804 z5807 z5809 f5811 z5813 hp ih p0_0 p0_1 p0_2 p1_0 p2_0 p2_1 p3_0 p4_0 p4_1 p5_0 p6_0 p7_0 p8_0 p8_1 p9_0 p10_0 p11_0 p12_0 p13_0 p14_0 p15_0 p16_0 p17_0 v5620'' fn5621'' h' ev
    rcases I_laysWays_34_2.inv h' with ⟨rfl, rfl⟩ | ⟨v5620', fn5621', r5724', z5732', z5735', r5738', z5743', z5746', f5749', z5751', hp', q0_0, q0_1, q0_2, q1_0, q2_0, q2_1, q3_0, q4_0, q4_1, q5_0, q6_0, q7_0, q8_0, q9_0, rfl, rfl⟩ | ⟨v5620', fn5621', r5724', z5732', z5735', r5738', z5755', z5758', z5761', z5764', z5767', z5769', f5771', z5773', hp', q0_0, q0_1, q0_2, q1_0, q2_0, q2_1, q3_0, q4_0, q4_1, q5_0, q6_0, q7_0, q8_0, q9_0, q10_0, q11_0, q12_0, q13_0, q14_0, rfl, rfl⟩ | ⟨v5620', fn5621', r5724', z5732', z5735', r5738', z5776', r5779', z5784', z5787', f5790', z5792', hp', q0_0, q0_1, q0_2, q1_0, q2_0, q2_1, q3_0, q4_0, q4_1, q5_0, q6_0, q7_0, q8_0, q8_1, q9_0, q10_0, q11_0, q12_0, q13_0, rfl, rfl⟩ | ⟨v5620', fn5621', r5724', z5732', z5735', r5738', z5776', r5779', z5795', z5798', z5801', z5804', z5807', z5809', f5811', z5813', hp', q0_0, q0_1, q0_2, q1_0, q2_0, q2_1, q3_0, q4_0, q4_1, q5_0, q6_0, q7_0, q8_0, q8_1, q9_0, q10_0, q11_0, q12_0, q13_0, q14_0, q15_0, q16_0, q17_0, rfl, rfl⟩
    · skip
      have u_ := u_way2 ht hh hp
      have e_ := za p17_0 rfl (show (1 : Int32).toInt = 1 by decide) (by omega)
      have ee_ := congrArg Int32.toInt ev
      have e0_ : (0 : Int32).toInt = 0 := by decide
      have e1_ : (1 : Int32).toInt = 1 := by decide
      have em_ : (-1 : Int32).toInt = -1 := by decide
      exfalso; omega
    · skip
      have ev2 : v5620 = v5620' := i32c (p17_0.symm.trans (ev.trans q9_0))
      have hi := ih _ _ hp' ev2
      subst ev2
      have u_ := u_way2 ht hh hp
      subst p3_0
      subst p7_0
      subst p11_0
      subst p12_0
      subst p13_0
      subst p15_0
      subst p17_0
      subst q3_0
      subst q7_0
      subst q9_0
      obtain rfl := d_bendMany p0_2 q0_2
      obtain rfl := aC.ld (mC hs) p2_0 q2_0
      obtain rfl := d_isOf p4_1 q4_1
      exact absurd q5_0 p5_0
    · skip
      have ev2 : v5620 = v5620' := i32c (p17_0.symm.trans (ev.trans q14_0))
      have hi := ih _ _ hp' ev2
      subst ev2
      have u_ := u_way2 ht hh hp
      subst p3_0
      subst p7_0
      subst p11_0
      subst p12_0
      subst p13_0
      subst p15_0
      subst p17_0
      subst q3_0
      subst q8_0
      subst q9_0
      subst q10_0
      subst q12_0
      subst q14_0
      obtain rfl := d_bendMany p0_2 q0_2
      obtain rfl := aC.ld (mC hs) p2_0 q2_0
      obtain rfl := d_isOf p4_1 q4_1
      exact absurd p6_0 q6_0
    · skip
      have ev2 : v5620 = v5620' := i32c (p17_0.symm.trans (ev.trans q13_0))
      have hi := ih _ _ hp' ev2
      subst ev2
      have u_ := u_way2 ht hh hp
      subst p3_0
      subst p7_0
      subst p11_0
      subst p12_0
      subst p13_0
      subst p15_0
      subst p17_0
      subst q3_0
      subst q7_0
      subst q11_0
      subst q13_0
      obtain rfl := d_bendMany p0_2 q0_2
      obtain rfl := aC.ld (mC hs) p2_0 q2_0
      obtain rfl := d_isOf p4_1 q4_1
      obtain rfl := d_isOf p8_1 q8_1
      exact absurd q9_0 p9_0
    · skip
      have ev2 : v5620 = v5620' := i32c (p17_0.symm.trans (ev.trans q17_0))
      have hi := ih _ _ hp' ev2
      subst ev2
      have u_ := u_way2 ht hh hp
      subst p3_0
      subst p7_0
      subst p11_0
      subst p12_0
      subst p13_0
      subst p15_0
      subst p17_0
      subst q3_0
      subst q7_0
      subst q11_0
      subst q12_0
      subst q13_0
      subst q15_0
      subst q17_0
      obtain rfl := d_bendMany p0_2 q0_2
      obtain rfl := aC.ld (mC hs) p2_0 q2_0
      obtain rfl := d_isOf p4_1 q4_1
      obtain rfl := d_isOf p8_1 q8_1
      obtain rfl := hi.ld (.inr rfl) p10_0 q10_0
      obtain rfl := hi.ld (mO hb ht hh hs (by omega)) p14_0 q14_0
      have g16 := hi.st p16_0 q16_0 rfl
      exact g16.mono (fun _ h9 => .inl h9)
theorem u_way3 {f5816 : (Nat → Int32)} {f_h0_clear : (Nat → Int32)} {h0_hasPart : Int32} {h0_told_3 : Int32} {v3314 : Int32} {x1 : Int32} {x2 : Int32} (ht : 1 ≤ h0_told_3.toInt ∧ h0_told_3.toInt ≤ 9) (hh : h0_hasPart.toInt = 1) {v6453 : Int32} {fn6454 : (Nat → Int32)} (h : I_laysWays_34_3 f5816 f_h0_clear h0_hasPart h0_told_3 v3314 x1 x2 v6453 fn6454) : 1 ≤ v6453.toInt ∧ v6453.toInt ≤ h0_told_3.toInt := by
  refine I_laysWays_34_3.ind (Q_ := fun v6453 fn6454 => 1 ≤ v6453.toInt ∧ v6453.toInt ≤ h0_told_3.toInt) ?_ ?_ ?_ ?_ ?_ h
  · have e0_ : (0 : Int32).toInt = 0 := by decide
    have e1_ : (1 : Int32).toInt = 1 := by decide
    have em_ : (-1 : Int32).toInt = -1 := by decide
    omega
  · intro v6453 fn6454 r6557 z6565 z6568 r6571 z6576 z6579 f6582 z6584 hp ih p0_0 p0_1 p0_2 p1_0 p2_0 p2_1 p3_0 p4_0 p4_1 p5_0 p6_0 p7_0 p8_0 p9_0
    have e_ : z6584.toInt = v6453.toInt + 1 := za p9_0 rfl (show (1 : Int32).toInt = 1 by decide) (by omega)
    omega
  · intro v6453 fn6454 r6557 z6565 z6568 r6571 z6588 z6591 z6594 z6597 z6600 z6602 f6604 z6606 hp ih p0_0 p0_1 p0_2 p1_0 p2_0 p2_1 p3_0 p4_0 p4_1 p5_0 p6_0 p7_0 p8_0 p9_0 p10_0 p11_0 p12_0 p13_0 p14_0
    have e_ : z6606.toInt = v6453.toInt + 1 := za p14_0 rfl (show (1 : Int32).toInt = 1 by decide) (by omega)
    omega
  · intro v6453 fn6454 r6557 z6565 z6568 r6571 z6609 r6612 z6617 z6620 f6623 z6625 hp ih p0_0 p0_1 p0_2 p1_0 p2_0 p2_1 p3_0 p4_0 p4_1 p5_0 p6_0 p7_0 p8_0 p8_1 p9_0 p10_0 p11_0 p12_0 p13_0
    have e_ : z6625.toInt = v6453.toInt + 1 := za p13_0 rfl (show (1 : Int32).toInt = 1 by decide) (by omega)
    omega
  · intro v6453 fn6454 r6557 z6565 z6568 r6571 z6609 r6612 z6628 z6631 z6634 z6637 z6640 z6642 f6644 z6646 hp ih p0_0 p0_1 p0_2 p1_0 p2_0 p2_1 p3_0 p4_0 p4_1 p5_0 p6_0 p7_0 p8_0 p8_1 p9_0 p10_0 p11_0 p12_0 p13_0 p14_0 p15_0 p16_0 p17_0
    have e_ : z6646.toInt = v6453.toInt + 1 := za p17_0 rfl (show (1 : Int32).toInt = 1 by decide) (by omega)
    omega
theorem d_way3 {f5816 : (Nat → Int32)} {f_h0_clear : (Nat → Int32)} {h0_hasPart : Int32} {h0_told_3 : Int32} {v3314 : Int32} {x1 : Int32} {x2 : Int32} {f5816' : (Nat → Int32)} {f_h0_clear' : (Nat → Int32)} {a : Int32} (ht : 1 ≤ h0_told_3.toInt ∧ h0_told_3.toInt ≤ 9) (hh : h0_hasPart.toInt = 1) (hb : S_allBends h0_hasPart h0_told_3 a) (hs : 0 ≤ v3314.toInt ∧ v3314.toInt ≤ a.toInt) (aC : Ag (fun k => (k : Int) ≤ a.toInt) f_h0_clear f_h0_clear') (aW : Ag (fun k => Wy v3314 a k ∨ k = v3314.toNatClampNeg) f5816 f5816') {v6453 : Int32} {fn6454 : (Nat → Int32)} (h : I_laysWays_34_3 f5816 f_h0_clear h0_hasPart h0_told_3 v3314 x1 x2 v6453 fn6454) : ∀ (v6453' : Int32) (fn6454' : (Nat → Int32)), I_laysWays_34_3 f5816' f_h0_clear' h0_hasPart h0_told_3 v3314 x1 x2 v6453' fn6454' → v6453 = v6453' → Ag (fun k => Wy v3314 a k ∨ k = v3314.toNatClampNeg) fn6454 fn6454' := by
  refine I_laysWays_34_3.ind (Q_ := fun v6453 fn6454 => ∀ (v6453' : Int32) (fn6454' : (Nat → Int32)), I_laysWays_34_3 f5816' f_h0_clear' h0_hasPart h0_told_3 v3314 x1 x2 v6453' fn6454' → v6453 = v6453' → Ag (fun k => Wy v3314 a k ∨ k = v3314.toNatClampNeg) fn6454 fn6454') ?_ ?_ ?_ ?_ ?_ h
  · intro v6453'' fn6454'' h' ev
    rcases I_laysWays_34_3.inv h' with ⟨rfl, rfl⟩ | ⟨v6453', fn6454', r6557', z6565', z6568', r6571', z6576', z6579', f6582', z6584', hp', q0_0, q0_1, q0_2, q1_0, q2_0, q2_1, q3_0, q4_0, q4_1, q5_0, q6_0, q7_0, q8_0, q9_0, rfl, rfl⟩ | ⟨v6453', fn6454', r6557', z6565', z6568', r6571', z6588', z6591', z6594', z6597', z6600', z6602', f6604', z6606', hp', q0_0, q0_1, q0_2, q1_0, q2_0, q2_1, q3_0, q4_0, q4_1, q5_0, q6_0, q7_0, q8_0, q9_0, q10_0, q11_0, q12_0, q13_0, q14_0, rfl, rfl⟩ | ⟨v6453', fn6454', r6557', z6565', z6568', r6571', z6609', r6612', z6617', z6620', f6623', z6625', hp', q0_0, q0_1, q0_2, q1_0, q2_0, q2_1, q3_0, q4_0, q4_1, q5_0, q6_0, q7_0, q8_0, q8_1, q9_0, q10_0, q11_0, q12_0, q13_0, rfl, rfl⟩ | ⟨v6453', fn6454', r6557', z6565', z6568', r6571', z6609', r6612', z6628', z6631', z6634', z6637', z6640', z6642', f6644', z6646', hp', q0_0, q0_1, q0_2, q1_0, q2_0, q2_1, q3_0, q4_0, q4_1, q5_0, q6_0, q7_0, q8_0, q8_1, q9_0, q10_0, q11_0, q12_0, q13_0, q14_0, q15_0, q16_0, q17_0, rfl, rfl⟩
    · skip
      exact aW
    · skip
      have u_ := u_way3 ht hh hp'
      have e_ := za q9_0 rfl (show (1 : Int32).toInt = 1 by decide) (by omega)
      have ee_ := congrArg Int32.toInt ev
      have e0_ : (0 : Int32).toInt = 0 := by decide
      have e1_ : (1 : Int32).toInt = 1 := by decide
      have em_ : (-1 : Int32).toInt = -1 := by decide
      exfalso; omega
    · skip
      have u_ := u_way3 ht hh hp'
      have e_ := za q14_0 rfl (show (1 : Int32).toInt = 1 by decide) (by omega)
      have ee_ := congrArg Int32.toInt ev
      have e0_ : (0 : Int32).toInt = 0 := by decide
      have e1_ : (1 : Int32).toInt = 1 := by decide
      have em_ : (-1 : Int32).toInt = -1 := by decide
      exfalso; omega
    · skip
      have u_ := u_way3 ht hh hp'
      have e_ := za q13_0 rfl (show (1 : Int32).toInt = 1 by decide) (by omega)
      have ee_ := congrArg Int32.toInt ev
      have e0_ : (0 : Int32).toInt = 0 := by decide
      have e1_ : (1 : Int32).toInt = 1 := by decide
      have em_ : (-1 : Int32).toInt = -1 := by decide
      exfalso; omega
    · skip
      have u_ := u_way3 ht hh hp'
      have e_ := za q17_0 rfl (show (1 : Int32).toInt = 1 by decide) (by omega)
      have ee_ := congrArg Int32.toInt ev
      have e0_ : (0 : Int32).toInt = 0 := by decide
      have e1_ : (1 : Int32).toInt = 1 := by decide
      have em_ : (-1 : Int32).toInt = -1 := by decide
      exfalso; omega
  · intro v6453 fn6454 r6557 z6565 z6568 r6571 z6576 z6579 f6582 z6584 hp ih p0_0 p0_1 p0_2 p1_0 p2_0 p2_1 p3_0 p4_0 p4_1 p5_0 p6_0 p7_0 p8_0 p9_0 v6453'' fn6454'' h' ev
    rcases I_laysWays_34_3.inv h' with ⟨rfl, rfl⟩ | ⟨v6453', fn6454', r6557', z6565', z6568', r6571', z6576', z6579', f6582', z6584', hp', q0_0, q0_1, q0_2, q1_0, q2_0, q2_1, q3_0, q4_0, q4_1, q5_0, q6_0, q7_0, q8_0, q9_0, rfl, rfl⟩ | ⟨v6453', fn6454', r6557', z6565', z6568', r6571', z6588', z6591', z6594', z6597', z6600', z6602', f6604', z6606', hp', q0_0, q0_1, q0_2, q1_0, q2_0, q2_1, q3_0, q4_0, q4_1, q5_0, q6_0, q7_0, q8_0, q9_0, q10_0, q11_0, q12_0, q13_0, q14_0, rfl, rfl⟩ | ⟨v6453', fn6454', r6557', z6565', z6568', r6571', z6609', r6612', z6617', z6620', f6623', z6625', hp', q0_0, q0_1, q0_2, q1_0, q2_0, q2_1, q3_0, q4_0, q4_1, q5_0, q6_0, q7_0, q8_0, q8_1, q9_0, q10_0, q11_0, q12_0, q13_0, rfl, rfl⟩ | ⟨v6453', fn6454', r6557', z6565', z6568', r6571', z6609', r6612', z6628', z6631', z6634', z6637', z6640', z6642', f6644', z6646', hp', q0_0, q0_1, q0_2, q1_0, q2_0, q2_1, q3_0, q4_0, q4_1, q5_0, q6_0, q7_0, q8_0, q8_1, q9_0, q10_0, q11_0, q12_0, q13_0, q14_0, q15_0, q16_0, q17_0, rfl, rfl⟩
    · skip
      have u_ := u_way3 ht hh hp
      have e_ := za p9_0 rfl (show (1 : Int32).toInt = 1 by decide) (by omega)
      have ee_ := congrArg Int32.toInt ev
      have e0_ : (0 : Int32).toInt = 0 := by decide
      have e1_ : (1 : Int32).toInt = 1 := by decide
      have em_ : (-1 : Int32).toInt = -1 := by decide
      exfalso; omega
    · skip
      have ev2 : v6453 = v6453' := i32c (p9_0.symm.trans (ev.trans q9_0))
      have hi := ih _ _ hp' ev2
      subst ev2
      have u_ := u_way3 ht hh hp
      subst p3_0
      subst p7_0
      subst p9_0
      subst q3_0
      subst q7_0
      subst q9_0
      obtain rfl := d_bendMany p0_2 q0_2
      obtain rfl := aC.ld (mC hs) p2_0 q2_0
      obtain rfl := d_isOf p4_1 q4_1
      obtain rfl := hi.ld (.inr rfl) p6_0 q6_0
      have g8 := hi.st p8_0 q8_0 rfl
      exact g8.mono (fun _ h9 => .inl h9)
    · skip
      have ev2 : v6453 = v6453' := i32c (p9_0.symm.trans (ev.trans q14_0))
      have hi := ih _ _ hp' ev2
      subst ev2
      have u_ := u_way3 ht hh hp
      subst p3_0
      subst p7_0
      subst p9_0
      subst q3_0
      subst q8_0
      subst q9_0
      subst q10_0
      subst q12_0
      subst q14_0
      obtain rfl := d_bendMany p0_2 q0_2
      obtain rfl := aC.ld (mC hs) p2_0 q2_0
      obtain rfl := d_isOf p4_1 q4_1
      exact absurd p5_0 q5_0
    · skip
      have ev2 : v6453 = v6453' := i32c (p9_0.symm.trans (ev.trans q13_0))
      have hi := ih _ _ hp' ev2
      subst ev2
      have u_ := u_way3 ht hh hp
      subst p3_0
      subst p7_0
      subst p9_0
      subst q3_0
      subst q7_0
      subst q11_0
      subst q13_0
      obtain rfl := d_bendMany p0_2 q0_2
      obtain rfl := aC.ld (mC hs) p2_0 q2_0
      obtain rfl := d_isOf p4_1 q4_1
      exact absurd p5_0 q5_0
    · skip
      have ev2 : v6453 = v6453' := i32c (p9_0.symm.trans (ev.trans q17_0))
      have hi := ih _ _ hp' ev2
      subst ev2
      have u_ := u_way3 ht hh hp
      subst p3_0
      subst p7_0
      subst p9_0
      subst q3_0
      subst q7_0
      subst q11_0
      subst q12_0
      subst q13_0
      subst q15_0
      subst q17_0
      obtain rfl := d_bendMany p0_2 q0_2
      obtain rfl := aC.ld (mC hs) p2_0 q2_0
      obtain rfl := d_isOf p4_1 q4_1
      exact absurd p5_0 q5_0
  · intro v6453 fn6454 r6557 z6565 z6568 r6571 z6588 z6591 z6594 z6597 z6600 z6602 f6604 z6606 hp ih p0_0 p0_1 p0_2 p1_0 p2_0 p2_1 p3_0 p4_0 p4_1 p5_0 p6_0 p7_0 p8_0 p9_0 p10_0 p11_0 p12_0 p13_0 p14_0 v6453'' fn6454'' h' ev
    rcases I_laysWays_34_3.inv h' with ⟨rfl, rfl⟩ | ⟨v6453', fn6454', r6557', z6565', z6568', r6571', z6576', z6579', f6582', z6584', hp', q0_0, q0_1, q0_2, q1_0, q2_0, q2_1, q3_0, q4_0, q4_1, q5_0, q6_0, q7_0, q8_0, q9_0, rfl, rfl⟩ | ⟨v6453', fn6454', r6557', z6565', z6568', r6571', z6588', z6591', z6594', z6597', z6600', z6602', f6604', z6606', hp', q0_0, q0_1, q0_2, q1_0, q2_0, q2_1, q3_0, q4_0, q4_1, q5_0, q6_0, q7_0, q8_0, q9_0, q10_0, q11_0, q12_0, q13_0, q14_0, rfl, rfl⟩ | ⟨v6453', fn6454', r6557', z6565', z6568', r6571', z6609', r6612', z6617', z6620', f6623', z6625', hp', q0_0, q0_1, q0_2, q1_0, q2_0, q2_1, q3_0, q4_0, q4_1, q5_0, q6_0, q7_0, q8_0, q8_1, q9_0, q10_0, q11_0, q12_0, q13_0, rfl, rfl⟩ | ⟨v6453', fn6454', r6557', z6565', z6568', r6571', z6609', r6612', z6628', z6631', z6634', z6637', z6640', z6642', f6644', z6646', hp', q0_0, q0_1, q0_2, q1_0, q2_0, q2_1, q3_0, q4_0, q4_1, q5_0, q6_0, q7_0, q8_0, q8_1, q9_0, q10_0, q11_0, q12_0, q13_0, q14_0, q15_0, q16_0, q17_0, rfl, rfl⟩
    · skip
      have u_ := u_way3 ht hh hp
      have e_ := za p14_0 rfl (show (1 : Int32).toInt = 1 by decide) (by omega)
      have ee_ := congrArg Int32.toInt ev
      have e0_ : (0 : Int32).toInt = 0 := by decide
      have e1_ : (1 : Int32).toInt = 1 := by decide
      have em_ : (-1 : Int32).toInt = -1 := by decide
      exfalso; omega
    · skip
      have ev2 : v6453 = v6453' := i32c (p14_0.symm.trans (ev.trans q9_0))
      have hi := ih _ _ hp' ev2
      subst ev2
      have u_ := u_way3 ht hh hp
      subst p3_0
      subst p8_0
      subst p9_0
      subst p10_0
      subst p12_0
      subst p14_0
      subst q3_0
      subst q7_0
      subst q9_0
      obtain rfl := d_bendMany p0_2 q0_2
      obtain rfl := aC.ld (mC hs) p2_0 q2_0
      obtain rfl := d_isOf p4_1 q4_1
      exact absurd q5_0 p5_0
    · skip
      have ev2 : v6453 = v6453' := i32c (p14_0.symm.trans (ev.trans q14_0))
      have hi := ih _ _ hp' ev2
      subst ev2
      have u_ := u_way3 ht hh hp
      subst p3_0
      subst p8_0
      subst p9_0
      subst p10_0
      subst p12_0
      subst p14_0
      subst q3_0
      subst q8_0
      subst q9_0
      subst q10_0
      subst q12_0
      subst q14_0
      obtain rfl := d_bendMany p0_2 q0_2
      obtain rfl := aC.ld (mC hs) p2_0 q2_0
      obtain rfl := d_isOf p4_1 q4_1
      obtain rfl := hi.ld (.inr rfl) p7_0 q7_0
      obtain rfl := hi.ld (mO hb ht hh hs (by omega)) p11_0 q11_0
      have g13 := hi.st p13_0 q13_0 rfl
      exact g13.mono (fun _ h9 => .inl h9)
    · skip
      have ev2 : v6453 = v6453' := i32c (p14_0.symm.trans (ev.trans q13_0))
      have hi := ih _ _ hp' ev2
      subst ev2
      have u_ := u_way3 ht hh hp
      subst p3_0
      subst p8_0
      subst p9_0
      subst p10_0
      subst p12_0
      subst p14_0
      subst q3_0
      subst q7_0
      subst q11_0
      subst q13_0
      obtain rfl := d_bendMany p0_2 q0_2
      obtain rfl := aC.ld (mC hs) p2_0 q2_0
      obtain rfl := d_isOf p4_1 q4_1
      exact absurd q6_0 p6_0
    · skip
      have ev2 : v6453 = v6453' := i32c (p14_0.symm.trans (ev.trans q17_0))
      have hi := ih _ _ hp' ev2
      subst ev2
      have u_ := u_way3 ht hh hp
      subst p3_0
      subst p8_0
      subst p9_0
      subst p10_0
      subst p12_0
      subst p14_0
      subst q3_0
      subst q7_0
      subst q11_0
      subst q12_0
      subst q13_0
      subst q15_0
      subst q17_0
      obtain rfl := d_bendMany p0_2 q0_2
      obtain rfl := aC.ld (mC hs) p2_0 q2_0
      obtain rfl := d_isOf p4_1 q4_1
      exact absurd q6_0 p6_0
  · intro v6453 fn6454 r6557 z6565 z6568 r6571 z6609 r6612 z6617 z6620 f6623 z6625 hp ih p0_0 p0_1 p0_2 p1_0 p2_0 p2_1 p3_0 p4_0 p4_1 p5_0 p6_0 p7_0 p8_0 p8_1 p9_0 p10_0 p11_0 p12_0 p13_0 v6453'' fn6454'' h' ev
    rcases I_laysWays_34_3.inv h' with ⟨rfl, rfl⟩ | ⟨v6453', fn6454', r6557', z6565', z6568', r6571', z6576', z6579', f6582', z6584', hp', q0_0, q0_1, q0_2, q1_0, q2_0, q2_1, q3_0, q4_0, q4_1, q5_0, q6_0, q7_0, q8_0, q9_0, rfl, rfl⟩ | ⟨v6453', fn6454', r6557', z6565', z6568', r6571', z6588', z6591', z6594', z6597', z6600', z6602', f6604', z6606', hp', q0_0, q0_1, q0_2, q1_0, q2_0, q2_1, q3_0, q4_0, q4_1, q5_0, q6_0, q7_0, q8_0, q9_0, q10_0, q11_0, q12_0, q13_0, q14_0, rfl, rfl⟩ | ⟨v6453', fn6454', r6557', z6565', z6568', r6571', z6609', r6612', z6617', z6620', f6623', z6625', hp', q0_0, q0_1, q0_2, q1_0, q2_0, q2_1, q3_0, q4_0, q4_1, q5_0, q6_0, q7_0, q8_0, q8_1, q9_0, q10_0, q11_0, q12_0, q13_0, rfl, rfl⟩ | ⟨v6453', fn6454', r6557', z6565', z6568', r6571', z6609', r6612', z6628', z6631', z6634', z6637', z6640', z6642', f6644', z6646', hp', q0_0, q0_1, q0_2, q1_0, q2_0, q2_1, q3_0, q4_0, q4_1, q5_0, q6_0, q7_0, q8_0, q8_1, q9_0, q10_0, q11_0, q12_0, q13_0, q14_0, q15_0, q16_0, q17_0, rfl, rfl⟩
    · skip
      have u_ := u_way3 ht hh hp
      have e_ := za p13_0 rfl (show (1 : Int32).toInt = 1 by decide) (by omega)
      have ee_ := congrArg Int32.toInt ev
      have e0_ : (0 : Int32).toInt = 0 := by decide
      have e1_ : (1 : Int32).toInt = 1 := by decide
      have em_ : (-1 : Int32).toInt = -1 := by decide
      exfalso; omega
    · skip
      have ev2 : v6453 = v6453' := i32c (p13_0.symm.trans (ev.trans q9_0))
      have hi := ih _ _ hp' ev2
      subst ev2
      have u_ := u_way3 ht hh hp
      subst p3_0
      subst p7_0
      subst p11_0
      subst p13_0
      subst q3_0
      subst q7_0
      subst q9_0
      obtain rfl := d_bendMany p0_2 q0_2
      obtain rfl := aC.ld (mC hs) p2_0 q2_0
      obtain rfl := d_isOf p4_1 q4_1
      exact absurd q5_0 p5_0
    · skip
      have ev2 : v6453 = v6453' := i32c (p13_0.symm.trans (ev.trans q14_0))
      have hi := ih _ _ hp' ev2
      subst ev2
      have u_ := u_way3 ht hh hp
      subst p3_0
      subst p7_0
      subst p11_0
      subst p13_0
      subst q3_0
      subst q8_0
      subst q9_0
      subst q10_0
      subst q12_0
      subst q14_0
      obtain rfl := d_bendMany p0_2 q0_2
      obtain rfl := aC.ld (mC hs) p2_0 q2_0
      obtain rfl := d_isOf p4_1 q4_1
      exact absurd p6_0 q6_0
    · skip
      have ev2 : v6453 = v6453' := i32c (p13_0.symm.trans (ev.trans q13_0))
      have hi := ih _ _ hp' ev2
      subst ev2
      have u_ := u_way3 ht hh hp
      subst p3_0
      subst p7_0
      subst p11_0
      subst p13_0
      subst q3_0
      subst q7_0
      subst q11_0
      subst q13_0
      obtain rfl := d_bendMany p0_2 q0_2
      obtain rfl := aC.ld (mC hs) p2_0 q2_0
      obtain rfl := d_isOf p4_1 q4_1
      obtain rfl := d_isOf p8_1 q8_1
      obtain rfl := hi.ld (.inr rfl) p10_0 q10_0
      have g12 := hi.st p12_0 q12_0 rfl
      exact g12.mono (fun _ h9 => .inl h9)
    · skip
      have ev2 : v6453 = v6453' := i32c (p13_0.symm.trans (ev.trans q17_0))
      have hi := ih _ _ hp' ev2
      subst ev2
      have u_ := u_way3 ht hh hp
      subst p3_0
      subst p7_0
      subst p11_0
      subst p13_0
      subst q3_0
      subst q7_0
      subst q11_0
      subst q12_0
      subst q13_0
      subst q15_0
      subst q17_0
      obtain rfl := d_bendMany p0_2 q0_2
      obtain rfl := aC.ld (mC hs) p2_0 q2_0
      obtain rfl := d_isOf p4_1 q4_1
      obtain rfl := d_isOf p8_1 q8_1
      exact absurd p9_0 q9_0
  · intro v6453 fn6454 r6557 z6565 z6568 r6571 z6609 r6612 z6628 z6631 z6634 z6637 z6640 z6642 f6644 z6646 hp ih p0_0 p0_1 p0_2 p1_0 p2_0 p2_1 p3_0 p4_0 p4_1 p5_0 p6_0 p7_0 p8_0 p8_1 p9_0 p10_0 p11_0 p12_0 p13_0 p14_0 p15_0 p16_0 p17_0 v6453'' fn6454'' h' ev
    rcases I_laysWays_34_3.inv h' with ⟨rfl, rfl⟩ | ⟨v6453', fn6454', r6557', z6565', z6568', r6571', z6576', z6579', f6582', z6584', hp', q0_0, q0_1, q0_2, q1_0, q2_0, q2_1, q3_0, q4_0, q4_1, q5_0, q6_0, q7_0, q8_0, q9_0, rfl, rfl⟩ | ⟨v6453', fn6454', r6557', z6565', z6568', r6571', z6588', z6591', z6594', z6597', z6600', z6602', f6604', z6606', hp', q0_0, q0_1, q0_2, q1_0, q2_0, q2_1, q3_0, q4_0, q4_1, q5_0, q6_0, q7_0, q8_0, q9_0, q10_0, q11_0, q12_0, q13_0, q14_0, rfl, rfl⟩ | ⟨v6453', fn6454', r6557', z6565', z6568', r6571', z6609', r6612', z6617', z6620', f6623', z6625', hp', q0_0, q0_1, q0_2, q1_0, q2_0, q2_1, q3_0, q4_0, q4_1, q5_0, q6_0, q7_0, q8_0, q8_1, q9_0, q10_0, q11_0, q12_0, q13_0, rfl, rfl⟩ | ⟨v6453', fn6454', r6557', z6565', z6568', r6571', z6609', r6612', z6628', z6631', z6634', z6637', z6640', z6642', f6644', z6646', hp', q0_0, q0_1, q0_2, q1_0, q2_0, q2_1, q3_0, q4_0, q4_1, q5_0, q6_0, q7_0, q8_0, q8_1, q9_0, q10_0, q11_0, q12_0, q13_0, q14_0, q15_0, q16_0, q17_0, rfl, rfl⟩
    · skip
      have u_ := u_way3 ht hh hp
      have e_ := za p17_0 rfl (show (1 : Int32).toInt = 1 by decide) (by omega)
      have ee_ := congrArg Int32.toInt ev
      have e0_ : (0 : Int32).toInt = 0 := by decide
      have e1_ : (1 : Int32).toInt = 1 := by decide
      have em_ : (-1 : Int32).toInt = -1 := by decide
      exfalso; omega
    · skip
      have ev2 : v6453 = v6453' := i32c (p17_0.symm.trans (ev.trans q9_0))
      have hi := ih _ _ hp' ev2
      subst ev2
      have u_ := u_way3 ht hh hp
      subst p3_0
      subst p7_0
      subst p11_0
      subst p12_0
      subst p13_0
      subst p15_0
      subst p17_0
      subst q3_0
      subst q7_0
      subst q9_0
      obtain rfl := d_bendMany p0_2 q0_2
      obtain rfl := aC.ld (mC hs) p2_0 q2_0
      obtain rfl := d_isOf p4_1 q4_1
      exact absurd q5_0 p5_0
    · skip
      have ev2 : v6453 = v6453' := i32c (p17_0.symm.trans (ev.trans q14_0))
      have hi := ih _ _ hp' ev2
      subst ev2
      have u_ := u_way3 ht hh hp
      subst p3_0
      subst p7_0
      subst p11_0
      subst p12_0
      subst p13_0
      subst p15_0
      subst p17_0
      subst q3_0
      subst q8_0
      subst q9_0
      subst q10_0
      subst q12_0
      subst q14_0
      obtain rfl := d_bendMany p0_2 q0_2
      obtain rfl := aC.ld (mC hs) p2_0 q2_0
      obtain rfl := d_isOf p4_1 q4_1
      exact absurd p6_0 q6_0
    · skip
      have ev2 : v6453 = v6453' := i32c (p17_0.symm.trans (ev.trans q13_0))
      have hi := ih _ _ hp' ev2
      subst ev2
      have u_ := u_way3 ht hh hp
      subst p3_0
      subst p7_0
      subst p11_0
      subst p12_0
      subst p13_0
      subst p15_0
      subst p17_0
      subst q3_0
      subst q7_0
      subst q11_0
      subst q13_0
      obtain rfl := d_bendMany p0_2 q0_2
      obtain rfl := aC.ld (mC hs) p2_0 q2_0
      obtain rfl := d_isOf p4_1 q4_1
      obtain rfl := d_isOf p8_1 q8_1
      exact absurd q9_0 p9_0
    · skip
      have ev2 : v6453 = v6453' := i32c (p17_0.symm.trans (ev.trans q17_0))
      have hi := ih _ _ hp' ev2
      subst ev2
      have u_ := u_way3 ht hh hp
      subst p3_0
      subst p7_0
      subst p11_0
      subst p12_0
      subst p13_0
      subst p15_0
      subst p17_0
      subst q3_0
      subst q7_0
      subst q11_0
      subst q12_0
      subst q13_0
      subst q15_0
      subst q17_0
      obtain rfl := d_bendMany p0_2 q0_2
      obtain rfl := aC.ld (mC hs) p2_0 q2_0
      obtain rfl := d_isOf p4_1 q4_1
      obtain rfl := d_isOf p8_1 q8_1
      obtain rfl := hi.ld (.inr rfl) p10_0 q10_0
      obtain rfl := hi.ld (mO hb ht hh hs (by omega)) p14_0 q14_0
      have g16 := hi.st p16_0 q16_0 rfl
      exact g16.mono (fun _ h9 => .inl h9)
theorem u_way1 {f_h0_clear : (Nat → Int32)} {f_h0_ways : (Nat → Int32)} {h0_hasPart : Int32} {h0_told_3 : Int32} {r1 : Int32} {x1 : Int32} {x2 : Int32}  (hr : 0 ≤ r1.toInt ∧ r1.toInt ≤ 255) {v3314 : Int32} {fn3315 : (Nat → Int32)} (h : I_laysWays_8_1 f_h0_clear f_h0_ways h0_hasPart h0_told_3 r1 x1 x2 v3314 fn3315) : -1 ≤ v3314.toInt ∧ v3314.toInt ≤ r1.toInt := by
  refine I_laysWays_8_1.ind (Q_ := fun v3314 fn3315 => -1 ≤ v3314.toInt ∧ v3314.toInt ≤ r1.toInt) ?_ ?_ ?_ h
  · have e0_ : (0 : Int32).toInt = 0 := by decide
    have e1_ : (1 : Int32).toInt = 1 := by decide
    have em_ : (-1 : Int32).toInt = -1 := by decide
    omega
  · intro v3314 fn3315 f4983 v5620 fn5621 r5724 z5729 hp ih p0_0 p1_0 p2_0 p3_0 p3_1 p4_0 p4_1 p4_2 p5_0 p6_0
    have e_ : z5729.toInt = v3314.toInt + -1 := za p6_0 rfl (show (-1 : Int32).toInt = -1 by decide) (by omega)
    omega
  · intro v3314 fn3315 f5816 v6453 fn6454 r6557 z6562 hp ih p0_0 p1_0 p2_0 p3_0 p3_1 p4_0 p4_1 p4_2 p5_0 p6_0
    have e_ : z6562.toInt = v3314.toInt + -1 := za p6_0 rfl (show (-1 : Int32).toInt = -1 by decide) (by omega)
    omega
theorem d_way1 {f_h0_clear : (Nat → Int32)} {f_h0_ways : (Nat → Int32)} {h0_hasPart : Int32} {h0_told_3 : Int32} {r1 : Int32} {x1 : Int32} {x2 : Int32} {f_h0_clear' : (Nat → Int32)} {f_h0_ways' : (Nat → Int32)} (ht : 1 ≤ h0_told_3.toInt ∧ h0_told_3.toInt ≤ 9) (hh : h0_hasPart.toInt = 1) (hr : 0 ≤ r1.toInt ∧ r1.toInt ≤ 255) (hb : S_allBends h0_hasPart h0_told_3 r1) (aC : Ag (fun k => (k : Int) ≤ r1.toInt) f_h0_clear f_h0_clear') {v3314 : Int32} {fn3315 : (Nat → Int32)} (h : I_laysWays_8_1 f_h0_clear f_h0_ways h0_hasPart h0_told_3 r1 x1 x2 v3314 fn3315) : ∀ (v3314' : Int32) (fn3315' : (Nat → Int32)), I_laysWays_8_1 f_h0_clear' f_h0_ways' h0_hasPart h0_told_3 r1 x1 x2 v3314' fn3315' → v3314 = v3314' → Ag (Wy v3314 r1) fn3315 fn3315' := by
  refine I_laysWays_8_1.ind (Q_ := fun v3314 fn3315 => ∀ (v3314' : Int32) (fn3315' : (Nat → Int32)), I_laysWays_8_1 f_h0_clear' f_h0_ways' h0_hasPart h0_told_3 r1 x1 x2 v3314' fn3315' → v3314 = v3314' → Ag (Wy v3314 r1) fn3315 fn3315') ?_ ?_ ?_ h
  · intro v3314'' fn3315'' h' ev
    rcases I_laysWays_8_1.inv h' with ⟨rfl, rfl⟩ | ⟨v3314', fn3315', f4983', v5620', fn5621', r5724', z5729', hp', q0_0, q1_0, q2_0, q3_0, q3_1, q4_0, q4_1, q4_2, q5_0, q6_0, rfl, rfl⟩ | ⟨v3314', fn3315', f5816', v6453', fn6454', r6557', z6562', hp', q0_0, q1_0, q2_0, q3_0, q3_1, q4_0, q4_1, q4_2, q5_0, q6_0, rfl, rfl⟩
    · skip
      exact fun k hk => by unfold Wy at hk; omega
    · skip
      have u_ := u_way1 hr hp'
      have e_ := za q6_0 rfl (show (-1 : Int32).toInt = -1 by decide) (by omega)
      have ee_ := congrArg Int32.toInt ev
      have e0_ : (0 : Int32).toInt = 0 := by decide
      have e1_ : (1 : Int32).toInt = 1 := by decide
      have em_ : (-1 : Int32).toInt = -1 := by decide
      exfalso; omega
    · skip
      have u_ := u_way1 hr hp'
      have e_ := za q6_0 rfl (show (-1 : Int32).toInt = -1 by decide) (by omega)
      have ee_ := congrArg Int32.toInt ev
      have e0_ : (0 : Int32).toInt = 0 := by decide
      have e1_ : (1 : Int32).toInt = 1 := by decide
      have em_ : (-1 : Int32).toInt = -1 := by decide
      exfalso; omega
  · intro v3314 fn3315 f4983 v5620 fn5621 r5724 z5729 hp ih p0_0 p1_0 p2_0 p3_0 p3_1 p4_0 p4_1 p4_2 p5_0 p6_0 v3314'' fn3315'' h' ev
    rcases I_laysWays_8_1.inv h' with ⟨rfl, rfl⟩ | ⟨v3314', fn3315', f4983', v5620', fn5621', r5724', z5729', hp', q0_0, q1_0, q2_0, q3_0, q3_1, q4_0, q4_1, q4_2, q5_0, q6_0, rfl, rfl⟩ | ⟨v3314', fn3315', f5816', v6453', fn6454', r6557', z6562', hp', q0_0, q1_0, q2_0, q3_0, q3_1, q4_0, q4_1, q4_2, q5_0, q6_0, rfl, rfl⟩
    · skip
      have u_ := u_way1 hr hp
      have e_ := za p6_0 rfl (show (-1 : Int32).toInt = -1 by decide) (by omega)
      have ee_ := congrArg Int32.toInt ev
      have e0_ : (0 : Int32).toInt = 0 := by decide
      have e1_ : (1 : Int32).toInt = 1 := by decide
      have em_ : (-1 : Int32).toInt = -1 := by decide
      exfalso; omega
    · skip
      have ev2 : v3314 = v3314' := i32c (p6_0.symm.trans (ev.trans q6_0))
      have hi := ih _ _ hp' ev2
      subst ev2
      have u_ := u_way1 hr hp
      subst p6_0
      subst q6_0
      have g2 := hi.st p2_0 q2_0 rfl
      have u1 := u_way2 ht hh p3_0
      have u2 := u_way2 ht hh q3_0
      have ev3 : v5620 = v5620' := i32e (by omega)
      subst ev3
      have k3 := d_way2 ht hh hb (by omega) aC g2 p3_0 _ _ q3_0 rfl
      obtain rfl := d_bendMany p4_2 q4_2
      have e_ : (v3314 + (-1)).toInt = v3314.toInt + -1 := za rfl rfl (show (-1 : Int32).toInt = -1 by decide) (by omega)
      exact k3.mono (Ws (by omega) e_)
    · skip
      have ev2 : v3314 = v3314' := i32c (p6_0.symm.trans (ev.trans q6_0))
      have hi := ih _ _ hp' ev2
      subst ev2
      have u_ := u_way1 hr hp
      subst p6_0
      subst q6_0
      exact absurd q1_0 p1_0
  · intro v3314 fn3315 f5816 v6453 fn6454 r6557 z6562 hp ih p0_0 p1_0 p2_0 p3_0 p3_1 p4_0 p4_1 p4_2 p5_0 p6_0 v3314'' fn3315'' h' ev
    rcases I_laysWays_8_1.inv h' with ⟨rfl, rfl⟩ | ⟨v3314', fn3315', f4983', v5620', fn5621', r5724', z5729', hp', q0_0, q1_0, q2_0, q3_0, q3_1, q4_0, q4_1, q4_2, q5_0, q6_0, rfl, rfl⟩ | ⟨v3314', fn3315', f5816', v6453', fn6454', r6557', z6562', hp', q0_0, q1_0, q2_0, q3_0, q3_1, q4_0, q4_1, q4_2, q5_0, q6_0, rfl, rfl⟩
    · skip
      have u_ := u_way1 hr hp
      have e_ := za p6_0 rfl (show (-1 : Int32).toInt = -1 by decide) (by omega)
      have ee_ := congrArg Int32.toInt ev
      have e0_ : (0 : Int32).toInt = 0 := by decide
      have e1_ : (1 : Int32).toInt = 1 := by decide
      have em_ : (-1 : Int32).toInt = -1 := by decide
      exfalso; omega
    · skip
      have ev2 : v3314 = v3314' := i32c (p6_0.symm.trans (ev.trans q6_0))
      have hi := ih _ _ hp' ev2
      subst ev2
      have u_ := u_way1 hr hp
      subst p6_0
      subst q6_0
      exact absurd p1_0 q1_0
    · skip
      have ev2 : v3314 = v3314' := i32c (p6_0.symm.trans (ev.trans q6_0))
      have hi := ih _ _ hp' ev2
      subst ev2
      have u_ := u_way1 hr hp
      subst p6_0
      subst q6_0
      have g2 := hi.st p2_0 q2_0 rfl
      have u1 := u_way3 ht hh p3_0
      have u2 := u_way3 ht hh q3_0
      have ev3 : v6453 = v6453' := i32e (by omega)
      subst ev3
      have k3 := d_way3 ht hh hb (by omega) aC g2 p3_0 _ _ q3_0 rfl
      obtain rfl := d_bendMany p4_2 q4_2
      have e_ : (v3314 + (-1)).toInt = v3314.toInt + -1 := za rfl rfl (show (-1 : Int32).toInt = -1 by decide) (by omega)
      exact k3.mono (Ws (by omega) e_)
theorem d_laysWays {x1 : Int32} {x2 : Int32} {h0_hasPart : Int32} {h0_told_3 : Int32} {f_h0_clear : (Nat → Int32)} {f_h0_ways : (Nat → Int32)} {h0_now_0 : Int32} {f_h0_clear' : (Nat → Int32)} {f_h0_ways' : (Nat → Int32)} {o_u_h0_ways : (Nat → Int32)} {o_r : Int32} {o_u_h0_ways' : (Nat → Int32)} {o_r' : Int32} (h : S_laysWays x1 x2 h0_hasPart h0_told_3 f_h0_clear f_h0_ways h0_now_0 o_u_h0_ways o_r) (h' : S_laysWays x1 x2 h0_hasPart h0_told_3 f_h0_clear' f_h0_ways' h0_now_0 o_u_h0_ways' o_r') (ht : 1 ≤ h0_told_3.toInt ∧ h0_told_3.toInt ≤ 9) (hh : h0_hasPart.toInt = 1) (hn : ∀ a, S_allBends h0_hasPart h0_told_3 a → 0 ≤ h0_now_0.toInt ∧ h0_now_0.toInt ≤ a.toInt) (aC : ∀ a, S_allBends h0_hasPart h0_told_3 a → Ag (fun k => (k : Int) ≤ a.toInt) f_h0_clear f_h0_clear') : o_r = o_r' := by
  rcases h with ⟨r1, v3314, fn3315, z4980, p0_0, p0_1, p1_0, p1_1, p2_0, p3_0, rfl, rfl⟩ | h
  · rcases h' with ⟨r1', v3314', fn3315', z4980', q0_0, q0_1, q1_0, q1_1, q2_0, q3_0, rfl, rfl⟩ | h'
    · skip
      obtain rfl := d_allBends p0_1 q0_1
      have u1 := u_way1 p0_0 p1_0
      have u2 := u_way1 p0_0 q1_0
      have ev3 : v3314 = v3314' := i32e (by omega)
      subst ev3
      have kk := d_way1 ht hh p0_0 p0_1 (aC _ p0_1) p1_0 _ _ q1_0 rfl
      obtain rfl := kk.ld (mW p2_0 (hn _ p0_1)) p3_0 q3_0
      rfl
    · exact h'.elim
  · exact h.elim
theorem d_orderMany {h0_hasPart : Int32} {h0_isLaid : Int32} {f_h0_lain : (Nat → Int32)} {f_h0_told : (Nat → Int32)} {h0_told_3 : Int32} {h0_told_4 : Int32} {f_h0_clear : (Nat → Int32)} {f_h0_now : (Nat → Int32)} {h0_now_0 : Int32} {f_h0_flats : (Nat → Int32)} {f_h0_corner : (Nat → Int32)} {f_h0_wayX : (Nat → Int32)} {f_h0_wayY : (Nat → Int32)} {f_h0_normal : (Nat → Int32)} {f_h0_low : (Nat → Int32)} {f_h0_high : (Nat → Int32)} {f_h0_ways : (Nat → Int32)} {h0_isLaid' : Int32} {f_h0_lain' : (Nat → Int32)} {f_h0_clear' : (Nat → Int32)} {f_h0_flats' : (Nat → Int32)} {f_h0_corner' : (Nat → Int32)} {f_h0_wayX' : (Nat → Int32)} {f_h0_wayY' : (Nat → Int32)} {f_h0_normal' : (Nat → Int32)} {f_h0_low' : (Nat → Int32)} {f_h0_high' : (Nat → Int32)} {f_h0_ways' : (Nat → Int32)} {o_u_h0_isLaid : Int32} {o_u_h0_canTool : Int32} {o_u_h0_lain : (Nat → Int32)} {o_u_h0_clear : (Nat → Int32)} {o_u_h0_now : (Nat → Int32)} {o_u_h0_flats : (Nat → Int32)} {o_u_h0_corner : (Nat → Int32)} {o_u_h0_wayX : (Nat → Int32)} {o_u_h0_wayY : (Nat → Int32)} {o_u_h0_normal : (Nat → Int32)} {o_u_h0_low : (Nat → Int32)} {o_u_h0_high : (Nat → Int32)} {o_u_h0_ways : (Nat → Int32)} {o_r : Int32} {o_u_h0_isLaid' : Int32} {o_u_h0_canTool' : Int32} {o_u_h0_lain' : (Nat → Int32)} {o_u_h0_clear' : (Nat → Int32)} {o_u_h0_now' : (Nat → Int32)} {o_u_h0_flats' : (Nat → Int32)} {o_u_h0_corner' : (Nat → Int32)} {o_u_h0_wayX' : (Nat → Int32)} {o_u_h0_wayY' : (Nat → Int32)} {o_u_h0_normal' : (Nat → Int32)} {o_u_h0_low' : (Nat → Int32)} {o_u_h0_high' : (Nat → Int32)} {o_u_h0_ways' : (Nat → Int32)} {o_r' : Int32} (h : S_orderMany h0_hasPart h0_isLaid f_h0_lain f_h0_told h0_told_3 h0_told_4 f_h0_clear f_h0_now h0_now_0 f_h0_flats f_h0_corner f_h0_wayX f_h0_wayY f_h0_normal f_h0_low f_h0_high f_h0_ways o_u_h0_isLaid o_u_h0_canTool o_u_h0_lain o_u_h0_clear o_u_h0_now o_u_h0_flats o_u_h0_corner o_u_h0_wayX o_u_h0_wayY o_u_h0_normal o_u_h0_low o_u_h0_high o_u_h0_ways o_r) (h' : S_orderMany h0_hasPart h0_isLaid' f_h0_lain' f_h0_told h0_told_3 h0_told_4 f_h0_clear' f_h0_now h0_now_0 f_h0_flats' f_h0_corner' f_h0_wayX' f_h0_wayY' f_h0_normal' f_h0_low' f_h0_high' f_h0_ways' o_u_h0_isLaid' o_u_h0_canTool' o_u_h0_lain' o_u_h0_clear' o_u_h0_now' o_u_h0_flats' o_u_h0_corner' o_u_h0_wayX' o_u_h0_wayY' o_u_h0_normal' o_u_h0_low' o_u_h0_high' o_u_h0_ways' o_r') {FL : Nat → Int32} (ht : 1 ≤ h0_told_3.toInt ∧ h0_told_3.toInt ≤ 9) (hh : h0_hasPart.toInt = 1) (h4 : 0 ≤ h0_told_4.toInt ∧ h0_told_4.toInt ≤ 8) (hn : ∀ a, S_allBends h0_hasPart h0_told_3 a → 0 ≤ h0_now_0.toInt ∧ h0_now_0.toInt ≤ a.toInt) (hF : (¬ (o_u_h0_isLaid.toInt = 0) → o_u_h0_flats = FL)) (hF' : (¬ (o_u_h0_isLaid'.toInt = 0) → o_u_h0_flats' = FL)) : o_r = o_r' := by
  rcases h with ⟨v3, v4, f5, f6, f7, f8, f9, f10, f11, f12, f13, f14, f27, r25, p0_0, p0_1, p0_2, p1_0, rfl, rfl, rfl, rfl, rfl, rfl, rfl, rfl, rfl, rfl, rfl, rfl, rfl, rfl⟩ | h
  · rcases h' with ⟨v3', v4', f5', f6', f7', f8', f9', f10', f11', f12', f13', f14', f27', r25', q0_0, q0_1, q0_2, q1_0, rfl, rfl, rfl, rfl, rfl, rfl, rfl, rfl, rfl, rfl, rfl, rfl, rfl, rfl⟩ | h'
    · skip
      have k1 := d_laysClear p0_2 q0_2 ht hh h4 hF hF'
      obtain rfl := d_laysWays p1_0 q1_0 ht hh hn k1
      rfl
    · exact h'.elim
  · exact h.elim
theorem s_orderMany {h0_hasPart : Int32} {h0_isLaid : Int32} {f_h0_lain : (Nat → Int32)} {f_h0_told : (Nat → Int32)} {h0_told_3 : Int32} {h0_told_4 : Int32} {f_h0_clear : (Nat → Int32)} {f_h0_now : (Nat → Int32)} {h0_now_0 : Int32} {f_h0_flats : (Nat → Int32)} {f_h0_corner : (Nat → Int32)} {f_h0_wayX : (Nat → Int32)} {f_h0_wayY : (Nat → Int32)} {f_h0_normal : (Nat → Int32)} {f_h0_low : (Nat → Int32)} {f_h0_high : (Nat → Int32)} {f_h0_ways : (Nat → Int32)} {o_u_h0_isLaid : Int32} {o_u_h0_canTool : Int32} {o_u_h0_lain : (Nat → Int32)} {o_u_h0_clear : (Nat → Int32)} {o_u_h0_now : (Nat → Int32)} {o_u_h0_flats : (Nat → Int32)} {o_u_h0_corner : (Nat → Int32)} {o_u_h0_wayX : (Nat → Int32)} {o_u_h0_wayY : (Nat → Int32)} {o_u_h0_normal : (Nat → Int32)} {o_u_h0_low : (Nat → Int32)} {o_u_h0_high : (Nat → Int32)} {o_u_h0_ways : (Nat → Int32)} {o_r : Int32} (h : S_orderMany h0_hasPart h0_isLaid f_h0_lain f_h0_told h0_told_3 h0_told_4 f_h0_clear f_h0_now h0_now_0 f_h0_flats f_h0_corner f_h0_wayX f_h0_wayY f_h0_normal f_h0_low f_h0_high f_h0_ways o_u_h0_isLaid o_u_h0_canTool o_u_h0_lain o_u_h0_clear o_u_h0_now o_u_h0_flats o_u_h0_corner o_u_h0_wayX o_u_h0_wayY o_u_h0_normal o_u_h0_low o_u_h0_high o_u_h0_ways o_r) : o_u_h0_now = f_h0_now ∧ (¬ (h0_isLaid.toInt = 0) → ¬ (o_u_h0_isLaid.toInt = 0) ∧ o_u_h0_flats = f_h0_flats) := by
  rcases h with ⟨v3, v4, f5, f6, f7, f8, f9, f10, f11, f12, f13, f14, f27, r25, p0_0, p0_1, p0_2, p1_0, rfl, rfl, rfl, rfl, rfl, rfl, rfl, rfl, rfl, rfl, rfl, rfl, rfl, rfl⟩ | h
  · skip
    exact s_laysClear p0_2
  · exact h.elim
