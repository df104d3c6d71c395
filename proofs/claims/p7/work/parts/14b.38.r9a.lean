theorem and255 {z y : Int32} (e : z = y &&& 255) : z.toInt = y.toInt % 256 := by
  have h3 : z.toBitVec.toNat = y.toBitVec.toNat % 256 := by
    rw [e, Int32.toBitVec_and, BitVec.toNat_and, show ((255 : Int32).toBitVec.toNat) = 2 ^ 8 - 1 by decide]
    exact Nat.and_two_pow_sub_one_eq_mod _ 8
  have h5 := z_of h3 (by omega)
  have h1 : y.toInt = y.toBitVec.toInt := rfl
  rw [h5, h1, BitVec.toInt_eq_toNat_cond]
  have h2 := y.toBitVec.isLt
  split <;> omega
theorem nb_ {w z : Int32} (h1 : w = z.toInt8.toInt32) : (vp_nar .byte w &&& 255).toInt = (z &&& 255).toInt := by
  have k : ∀ x : Int, Int.bmod x (2 ^ 8) % 256 = x % 256 := fun x => Int.bmod_emod (x := x) (m := 2 ^ 8)
  rw [and255 rfl, and255 rfl, vp_nar_byte, Int8.toInt_toInt32, Int32.toInt_toInt8, h1, Int8.toInt_toInt32, Int32.toInt_toInt8, k, k]
def gB (f : Nat → Int32) (p : Int) : Int := (f p.toNat &&& 255).toInt
/-- the k-th byte of a number, the highest first -/
def BY (x : Int32) (k : Int) : Int := (x >>> (Int32.ofInt (24 - 8 * k) &&& 31) &&& 255).toInt
theorem BY.eq {x s : Int32} {k : Int} (h : s.toInt = 24 - 8 * k) : BY x k = (x >>> (s &&& 31) &&& 255).toInt := by
  unfold BY
  rw [← h, Int32.ofInt_toInt]
theorem BY.b (x : Int32) (k : Int) : 0 ≤ BY x k ∧ BY x k ≤ 255 := by
  unfold BY
  rw [and255 rfl]
  omega
theorem gB_eq {f g : Nat → Int32} {z v : Int32} {J : Int} (e : g = upd f z.toNatClampNeg v) (hz : z.toInt = J) : gB g J = (v &&& 255).toInt := by
  unfold gB
  rw [e, show J.toNat = z.toNatClampNeg by rw [← hz]; rfl, pk_us]
theorem gB_ne {f g : Nat → Int32} {z v : Int32} {J Z : Int} (e : g = upd f z.toNatClampNeg v) (hz : z.toInt = Z) (h : 0 ≤ J ∧ 0 ≤ Z ∧ ¬ J = Z) : gB g J = gB f J := by
  unfold gB
  rw [e, pk_un]
  show ¬ J.toNat = z.toInt.toNat
  rw [hz]; omega
/-- both tapes hold the same bytes -/
def PT (tb tp : Nat → Int32) (l : Int) : Prop := ∀ p : Int, 0 ≤ p → p < l → gB tb p = gG tp p ∧ 0 ≤ gG tp p ∧ gG tp p ≤ 255
def pTP (tb tp : Nat → Int32) (l : Int32) : Prop := PT tb tp l.toInt
theorem PT.put {tb tp tb2 tp2 : Nat → Int32} {l l2 : Int} {x : Int32} (h : PT tb tp l) (h0 : 0 ≤ l) (e : l2 = l + 4) (c1 : ∀ p : Int, 0 ≤ p → p < l → gB tb2 p = gB tb p) (c2 : ∀ k : Int, 0 ≤ k → k < 4 → gB tb2 (l + k) = BY x k) (m1 : ∀ p : Int, 0 ≤ p → p < l → gG tp2 p = gG tp p) (m2 : ∀ k : Int, 0 ≤ k → k < 4 → gG tp2 (l + k) = BY x k) : PT tb2 tp2 l2 := by
  intro p p0 p1
  by_cases q : p < l
  · rw [c1 p p0 q, m1 p p0 q]; exact h p p0 q
  · have k0 : 0 ≤ p - l := by omega
    have k1 : p - l < 4 := by omega
    have a := c2 (p - l) k0 k1
    have b := m2 (p - l) k0 k1
    rw [show l + (p - l) = p by omega] at a b
    rw [a, b]
    exact ⟨rfl, BY.b x _⟩
theorem pTP.zero {tb tp : Nat → Int32} {l : Int32} (h : l.toInt ≤ 0) : pTP tb tp l := fun p p0 p1 => by omega
theorem pTP.le {tb tp : Nat → Int32} {l l2 : Int32} {L L2 : Int} (h : pTP tb tp l) (hl : l.toInt = L) (hl2 : l2.toInt = L2) (hb : L2 ≤ L) : pTP tb tp l2 := fun p p0 p1 => h p p0 (by omega)
/-- the text on the tape -/
def TX (tp : Nat → Int32) (l : Int) (p : Int) : Int := if 0 ≤ p ∧ p < l then gG tp p else -1
theorem TX.b {tb tp : Nat → Int32} {l : Int} (h : PT tb tp l) (h0 : 0 ≤ l) (h1 : l ≤ 1200) : TXB (TX tp l) l := by
  refine ⟨h0, h1, fun p q => ?_, fun p q => ?_, fun p q q2 => ?_⟩
  · unfold TX; rw [if_neg (by omega)]
  · unfold TX; rw [if_neg (by omega)]
  · unfold TX; rw [if_pos ⟨q, q2⟩]; exact (h p q q2).2
theorem TX.c {tb tp : Nat → Int32} {l : Int32} (h : pTP tb tp l) (h0 : 0 ≤ l.toInt) (h1 : l.toInt ≤ 1200) : cTB tb l (TX tp l.toInt) := by
  refine ⟨TX.b h h0 h1, fun p q q2 => ?_⟩
  unfold TX; rw [if_pos ⟨q, q2⟩]; exact (h p q q2).1
theorem TX.r {tb tp : Nat → Int32} {l sz : Int32} (h : pTP tb tp l) (h0 : 0 ≤ l.toInt) (h1 : l.toInt ≤ 1200) (e : sz.toInt = l.toInt) : rTB tp sz (TX tp l.toInt) := by
  unfold rTB
  rw [e]
  refine ⟨TX.b h h0 h1, fun p q q2 => ?_⟩
  unfold TX; rw [if_pos ⟨q, q2⟩]
def pS0 (f : Nat → Int32) : Prop := gG f 0 = 0
theorem pS0.z : pS0 (fun _ => 0) := by
  unfold pS0 gG
  decide
theorem i_put {f_h0_bytes : (Nat → Int32)} {h0_length : Int32} {x1 : Int32} {v70 : Int32} {v71 : Int32} {fn72 : (Nat → Int32)} (h : I_T_put_3_1 f_h0_bytes h0_length x1 v70 v71 fn72) (h0 : 0 ≤ h0_length.toInt) : 0 ≤ v71.toInt - h0_length.toInt ∧ v70.toInt = 24 - 8 * (v71.toInt - h0_length.toInt) ∧ (∀ p : Int, 0 ≤ p → p < h0_length.toInt → gB fn72 p = gB f_h0_bytes p) ∧ (∀ k : Int, 0 ≤ k → k < v71.toInt - h0_length.toInt → gB fn72 (h0_length.toInt + k) = BY x1 k) := by
  refine I_T_put_3_1.ind (Q_ := fun v70 v71 fn72 => 0 ≤ v71.toInt - h0_length.toInt ∧ v70.toInt = 24 - 8 * (v71.toInt - h0_length.toInt) ∧ (∀ p : Int, 0 ≤ p → p < h0_length.toInt → gB fn72 p = gB f_h0_bytes p) ∧ (∀ k : Int, 0 ≤ k → k < v71.toInt - h0_length.toInt → gB fn72 (h0_length.toInt + k) = BY x1 k)) ?_ ?_ h
  · have e24 : (24 : Int32).toInt = 24 := by decide
    exact ⟨by omega, by omega, fun p _ _ => rfl, fun k k0 k1 => absurd k1 (by omega)⟩
  · intro v70 v71 fn72 z99 z101 f103 z105 z108 hp ih p0 p1 p2 p3 p4 p5 p6
    obtain ⟨i0, i1, i2, i3⟩ := ih
    refine ⟨by omega, by omega, fun p p0 p1 => ?_, fun k k0 k1 => ?_⟩
    · rw [gB_ne p4 rfl ⟨p0, by omega, by omega⟩]; exact i2 p p0 p1
    · by_cases q : k = v71.toInt - h0_length.toInt
      · rw [gB_eq p4 (by omega), nb_ p3, p2, q, BY.eq i1]
      · rw [gB_ne p4 rfl ⟨by omega, by omega, by omega⟩]; exact i3 k k0 (by omega)
theorem c_put {x1 : Int32} {h0_length : Int32} {f_h0_bytes : (Nat → Int32)} {o_u_h0_length : Int32} {o_u_h0_bytes : (Nat → Int32)} (h : S_T_put x1 h0_length f_h0_bytes o_u_h0_length o_u_h0_bytes) (h0 : 0 ≤ h0_length.toInt) (h1 : h0_length.toInt ≤ 1196) : o_u_h0_length.toInt = h0_length.toInt + 4 ∧ (∀ p : Int, 0 ≤ p → p < h0_length.toInt → gB o_u_h0_bytes p = gB f_h0_bytes p) ∧ (∀ k : Int, 0 ≤ k → k < 4 → gB o_u_h0_bytes (h0_length.toInt + k) = BY x1 k) := by
  rcases h with ⟨v70, v71, fn72, p0, p1, p2, p3, e0, e1⟩ | ⟨v70, v71, fn72, p0, p1, p2, p3, p4, e0, e1⟩ | h
  · obtain ⟨i0, i1, i2, i3⟩ := i_put p0 h0
    rw [e1]
    exact ⟨by omega, i2, fun k k0 k1 => i3 k k0 (by omega)⟩
  · obtain ⟨i0, i1, i2, i3⟩ := i_put p0 h0
    rw [e1]
    exact ⟨by omega, i2, fun k k0 k1 => i3 k k0 (by omega)⟩
  · exact h.elim
theorem i_lays {f_h0_tape : (Nat → Int32)} {h0_taped : Int32} {x1 : Int32} {v117 : Int32} {fn118 : (Nat → Int32)} (h : I_M_lays_2_1 f_h0_tape h0_taped x1 v117 fn118) (h0 : 0 ≤ h0_taped.toInt) : 0 ≤ v117.toInt ∧ (∀ p : Int, 0 ≤ p → p < h0_taped.toInt → gG fn118 p = gG f_h0_tape p) ∧ (∀ k : Int, 0 ≤ k → k < v117.toInt → gG fn118 (h0_taped.toInt + k) = BY x1 k) := by
  refine I_M_lays_2_1.ind (Q_ := fun v117 fn118 => 0 ≤ v117.toInt ∧ (∀ p : Int, 0 ≤ p → p < h0_taped.toInt → gG fn118 p = gG f_h0_tape p) ∧ (∀ k : Int, 0 ≤ k → k < v117.toInt → gG fn118 (h0_taped.toInt + k) = BY x1 k)) ?_ ?_ h
  · have e0_ : (0 : Int32).toInt = 0 := by decide
    exact ⟨by omega, fun p _ _ => rfl, fun k k0 k1 => absurd k1 (by omega)⟩
  · intro v117 fn118 z156 z159 z162 z165 z167 f170 z173 hp ih p0 p1 p2 p3 p4 p5 p6 p7 p8
    obtain ⟨i0, i2, i3⟩ := ih
    have hz : z156.toInt = h0_taped.toInt + v117.toInt := by omega
    have hs : z162.toInt = 24 - 8 * v117.toInt := by omega
    refine ⟨by omega, fun p p0 p1 => ?_, fun k k0 k1 => ?_⟩
    · rw [gU_ne p7 hz ⟨p0, by omega, by omega⟩]; exact i2 p p0 p1
    · by_cases q : k = v117.toInt
      · rw [q, gU_eq p7 hz, p5, p4, BY.eq hs]
      · rw [gU_ne p7 hz ⟨by omega, by omega, by omega⟩]; exact i3 k k0 (by omega)
theorem m_lays {x1 : Int32} {h0_taped : Int32} {f_h0_tape : (Nat → Int32)} {o_u_h0_taped : Int32} {o_u_h0_tape : (Nat → Int32)} (h : S_M_lays x1 h0_taped f_h0_tape o_u_h0_taped o_u_h0_tape) (h0 : 0 ≤ h0_taped.toInt) : o_u_h0_taped.toInt = h0_taped.toInt + 4 ∧ (∀ p : Int, 0 ≤ p → p < h0_taped.toInt → gG o_u_h0_tape p = gG f_h0_tape p) ∧ (∀ k : Int, 0 ≤ k → k < 4 → gG o_u_h0_tape (h0_taped.toInt + k) = BY x1 k) := by
  rcases h with ⟨v117, fn118, z153, p0, p1, p2, p3, e0, e1⟩ | h
  · obtain ⟨i0, i2, i3⟩ := i_lays p0 h0
    rw [e1]
    exact ⟨by omega, i2, fun k k0 k1 => i3 k k0 (by omega)⟩
  · exact h.elim
theorem fd_eq {x1 : Int32} {x2 : Int32} {x3 : Int32} {x4 : Int32} {x5 : Int32} {h0_tape_length : Int32} {f_h0_tape_bytes : (Nat → Int32)} {o_u_h0_tape_length : Int32} {o_u_h0_tape_bytes : (Nat → Int32)} {o_r : Int32} {x1' : Int32} {x2' : Int32} {x3' : Int32} {x4' : Int32} {x5' : Int32} {h0_taped' : Int32} {f_h0_tape' : (Nat → Int32)} {o_u_h0_taped' : Int32} {o_u_h0_tape' : (Nat → Int32)} {o_r' : Int32} (h : S_F_feed x1 x2 x3 x4 x5 h0_tape_length f_h0_tape_bytes o_u_h0_tape_length o_u_h0_tape_bytes o_r) (h' : S_M_feed x1' x2' x3' x4' x5' h0_taped' f_h0_tape' o_u_h0_taped' o_u_h0_tape' o_r') (hx1 : x1 = x1') (hx2 : x2 = x2') (hx3 : x3 = x3') (hx4 : x4 = x4') (hx5 : x5 = x5') (hl0 : 0 ≤ h0_tape_length.toInt) (ht : h0_tape_length.toInt = h0_taped'.toInt) (hT : PT f_h0_tape_bytes f_h0_tape' h0_tape_length.toInt) : PT o_u_h0_tape_bytes o_u_h0_tape' o_u_h0_tape_length.toInt ∧ o_u_h0_tape_length.toInt = o_u_h0_taped'.toInt ∧ o_r.toInt = o_r'.toInt := by
  subst hx1 hx2 hx3 hx4 hx5
  rcases h with ⟨r1, v8, f9, v15, f16, v22, f23, v29, f30, v36, f37, p0, p1, p2, p3, p4, p5, p6, p7, p8, p9, p10, p11, p12, p13, p14, p15, p16, p17, p18, e0, e1, e2⟩ | ⟨r1, p0, p1, p2, p3, e0, e1, e2⟩ | h
  · skip
    rcases h' with ⟨z1', v7', f8', v15', f16', v23', f24', v31', f32', v39', f40', q0, q1, q2, q3, q4, q5, q6, q7, q8, q9, q10, q11, q12, q13, q14, q15, q16, g0, g1, g2⟩ | ⟨z1', q0, q1, g0, g1, g2⟩ | h'
    · have e1m : ((-1 : Int32).toInt) = -1 := by decide
      have rm := p1
      have rl : h0_tape_length.toInt ≤ 1180 := by
        rcases rm with ⟨a, _⟩ | ⟨_, b⟩
        · exact absurd a p3
        · exact b
      clear rm
      have l0 := hl0
      have c0 := c_put p6 (by omega) (by omega)
      have m0 := m_lays q4 (by omega)
      have T0 := PT.put hT (by omega) c0.1 c0.2.1 c0.2.2 (by rw [ht]; exact m0.2.1) (by rw [ht]; exact m0.2.2)
      have t0 := c0.1
      have s0 := m0.1
      have w0 : v8.toInt = v7'.toInt := by omega
      have c1 := c_put p9 (by omega) (by omega)
      have m1 := m_lays q7 (by omega)
      have T1 := PT.put T0 (by omega) c1.1 c1.2.1 c1.2.2 (by rw [w0]; exact m1.2.1) (by rw [w0]; exact m1.2.2)
      have t1 := c1.1
      have s1 := m1.1
      have w1 : v15.toInt = v15'.toInt := by omega
      have c2 := c_put p12 (by omega) (by omega)
      have m2 := m_lays q10 (by omega)
      have T2 := PT.put T1 (by omega) c2.1 c2.2.1 c2.2.2 (by rw [w1]; exact m2.2.1) (by rw [w1]; exact m2.2.2)
      have t2 := c2.1
      have s2 := m2.1
      have w2 : v22.toInt = v23'.toInt := by omega
      have c3 := c_put p15 (by omega) (by omega)
      have m3 := m_lays q13 (by omega)
      have T3 := PT.put T2 (by omega) c3.1 c3.2.1 c3.2.2 (by rw [w2]; exact m3.2.1) (by rw [w2]; exact m3.2.2)
      have t3 := c3.1
      have s3 := m3.1
      have w3 : v29.toInt = v31'.toInt := by omega
      have c4 := c_put p18 (by omega) (by omega)
      have m4 := m_lays q16 (by omega)
      have T4 := PT.put T3 (by omega) c4.1 c4.2.1 c4.2.2 (by rw [w3]; exact m4.2.1) (by rw [w3]; exact m4.2.2)
      have t4 := c4.1
      have s4 := m4.1
      have w4 : v36.toInt = v39'.toInt := by omega
      rw [e0, e2, g0, g2, e1, g1]
      exact ⟨T4, w4, w4⟩
    · have e1m : ((-1 : Int32).toInt) = -1 := by decide
      have rm := p1
      exfalso
      rcases rm with ⟨a, b⟩ | ⟨a, b⟩
      · omega
      · omega
    · exact h'.elim
  · skip
    rcases h' with ⟨z1', v7', f8', v15', f16', v23', f24', v31', f32', v39', f40', q0, q1, q2, q3, q4, q5, q6, q7, q8, q9, q10, q11, q12, q13, q14, q15, q16, g0, g1, g2⟩ | ⟨z1', q0, q1, g0, g1, g2⟩ | h'
    · have e1m : ((-1 : Int32).toInt) = -1 := by decide
      have rm := p1
      exfalso
      rcases rm with ⟨a, b⟩ | ⟨a, b⟩
      · omega
      · omega
    · have e1m : ((-1 : Int32).toInt) = -1 := by decide
      have rm := p1
      rw [e0, e2, g0, g2]
      exact ⟨by rw [e1, g1]; exact hT, ht, rfl⟩
    · exact h'.elim
  · exact h.elim
