theorem j_sd {f_h0_tape_bytes : (Nat → Int32)} {h0_tape_length : Int32} {r14 : Int32} {v3 : Int32} {v4 : Int32} {v6 : Int32} {v7 : Int32} {v37 : Int32} {v38 : Int32} {v39 : Int32} (h : J_R_sideOf_66_1 f_h0_tape_bytes h0_tape_length r14 v3 v4 v6 v7 v37 v38 v39) {B : Int → Int} (c : cTB f_h0_tape_bytes h0_tape_length B) (w9 : (r14.toInt = 1 ∧ WIs B v4.toInt v3.toInt 9 4) ∨ (r14.toInt = 0 ∧ ¬ WIs B v4.toInt v3.toInt 9 4)) : ((OW B v4.toInt v3.toInt 8 ∧ v37.toInt = 0 ∧ v38.toInt = v6.toInt ∧ v39.toInt = v7.toInt) ∨ (OW B v4.toInt v3.toInt 9 ∧ v37.toInt = 1 ∧ v38.toInt = v6.toInt ∧ v39.toInt = v7.toInt) ∨ (OW B v4.toInt v3.toInt 10 ∧ v37.toInt = 2 ∧ v38.toInt = v6.toInt ∧ v39.toInt = v7.toInt) ∨ (OW B v4.toInt v3.toInt 11 ∧ v37.toInt = 3 ∧ v38.toInt = v6.toInt ∧ v39.toInt = v7.toInt) ∨ ((¬ OW B v4.toInt v3.toInt 8 ∧ ¬ OW B v4.toInt v3.toInt 9 ∧ ¬ OW B v4.toInt v3.toInt 10 ∧ ¬ OW B v4.toInt v3.toInt 11) ∧ ((¬ v6.toInt = 0 ∧ v38.toInt = v6.toInt ∧ v39.toInt = v7.toInt) ∨ (v6.toInt = 0 ∧ v38.toInt = 1 ∧ v39.toInt = v4.toInt)))) := by
  rcases h with ⟨r57, r61, r65, p0, p1, p2, p3, p4, p5, p6, p7, p8, p9, e0, e1, e2⟩ | ⟨r57, r61, r65, v71, v72, p0, p1, p2, p3, p4, p5, p6, p7, p8, p9, p10, p11, p12, e0, e1, e2⟩ | ⟨r57, r61, p0, p1, p2, p3, p4, p5, p6, e0, e1, e2⟩ | ⟨r57, p0, p1, p2, p3, e0, e1, e2⟩ | ⟨p0, e0, e1, e2⟩ | h
  · have k2 := c_wI_10 p2 c
    have k5 := c_wI_11 p5 c
    have k8 := c_wI_12 p8 c
    have e1_ : (1 : Int32).toInt = 1 := by decide
    have e0_ : (0 : Int32).toInt = 0 := by decide
    have e2_ : (2 : Int32).toInt = 2 := by decide
    have e3_ : (3 : Int32).toInt = 3 := by decide
    rw [ow_9] at w9
    rw [ow_10] at k2
    rw [ow_11] at k5
    rw [ow_12] at k8
    exact .inl ⟨(by rcases (k8.symm) with ⟨u1, u2⟩ | ⟨u1, u2⟩; (· omega); (· exact u2)), by omega⟩
  · have k2 := c_wI_10 p2 c
    have k5 := c_wI_11 p5 c
    have k8 := c_wI_12 p8 c
    have i1_ : (1 : Int32).toInt = 1 := by decide
    have k12 := c_fail p12
    have e1_ : (1 : Int32).toInt = 1 := by decide
    have e0_ : (0 : Int32).toInt = 0 := by decide
    have e2_ : (2 : Int32).toInt = 2 := by decide
    have e3_ : (3 : Int32).toInt = 3 := by decide
    rw [ow_9] at w9
    rw [ow_10] at k2
    rw [ow_11] at k5
    rw [ow_12] at k8
    exact .inr (.inr (.inr (.inr ⟨⟨(by rcases k8 with ⟨u1, u2⟩ | ⟨u1, u2⟩; (· omega); (· exact u2)), (by rcases w9 with ⟨u1, u2⟩ | ⟨u1, u2⟩; (· omega); (· exact u2)), (by rcases k2 with ⟨u1, u2⟩ | ⟨u1, u2⟩; (· omega); (· exact u2)), (by rcases k5 with ⟨u1, u2⟩ | ⟨u1, u2⟩; (· omega); (· exact u2))⟩, by omega⟩)))
  · have k2 := c_wI_10 p2 c
    have k5 := c_wI_11 p5 c
    have e1_ : (1 : Int32).toInt = 1 := by decide
    have e0_ : (0 : Int32).toInt = 0 := by decide
    have e2_ : (2 : Int32).toInt = 2 := by decide
    have e3_ : (3 : Int32).toInt = 3 := by decide
    rw [ow_9] at w9
    rw [ow_10] at k2
    rw [ow_11] at k5
    exact .inr (.inr (.inr (.inl ⟨(by rcases (k5.symm) with ⟨u1, u2⟩ | ⟨u1, u2⟩; (· omega); (· exact u2)), by omega⟩)))
  · have k2 := c_wI_10 p2 c
    have e1_ : (1 : Int32).toInt = 1 := by decide
    have e0_ : (0 : Int32).toInt = 0 := by decide
    have e2_ : (2 : Int32).toInt = 2 := by decide
    have e3_ : (3 : Int32).toInt = 3 := by decide
    rw [ow_9] at w9
    rw [ow_10] at k2
    exact .inr (.inr (.inl ⟨(by rcases (k2.symm) with ⟨u1, u2⟩ | ⟨u1, u2⟩; (· omega); (· exact u2)), by omega⟩))
  · have e1_ : (1 : Int32).toInt = 1 := by decide
    have e0_ : (0 : Int32).toInt = 0 := by decide
    have e2_ : (2 : Int32).toInt = 2 := by decide
    have e3_ : (3 : Int32).toInt = 3 := by decide
    rw [ow_9] at w9
    exact .inr (.inl ⟨(by rcases w9.symm with ⟨u1, u2⟩ | ⟨u1, u2⟩; (· omega); (· exact u2)), by omega⟩)
  · exact h.elim
theorem c_hangs {x1 : Int32} {x2 : Int32} {f_h0_side : (Nat → Int32)} {o_r : Int32} (h : S_P_hangsBy x1 x2 f_h0_side o_r) (h0_ : 0 ≤ x1.toInt) : ((o_r.toInt = 1 ∧ 0 < x1.toInt ∧ (gG f_h0_side x1.toInt + 2) % 4 = x2.toInt) ∨ (o_r.toInt = 0 ∧ ¬ (0 < x1.toInt ∧ (gG f_h0_side x1.toInt + 2) % 4 = x2.toInt))) := by
  rcases h with ⟨p0, e0⟩ | ⟨z2, z5, z8, p0, p1, p2, p3, p4, p5, e0⟩ | ⟨z2, z5, z8, p0, p1, p2, p3, p4, p5, e0⟩ | h
  · omega
  · omega
  · omega
  · exact h.elim
theorem cc_225 {r1264 : Int32} {v1237 : Int32} {v1238 : Int32} {v1239 : Int32} {v1277 : Int32} {v1278 : Int32} (h : J_M_readsFlange_225_6 r1264 v1237 v1238 v1239 v1277 v1278)  : ((¬ r1264.toInt = 0 ∧ v1277.toInt = v1238.toInt ∧ v1278.toInt = v1239.toInt) ∨ (r1264.toInt = 0 ∧ ((¬ v1238.toInt = 0 ∧ v1277.toInt = v1238.toInt ∧ v1278.toInt = v1239.toInt) ∨ (v1238.toInt = 0 ∧ v1277.toInt = 1 ∧ v1278.toInt = v1237.toInt)))) := by
  rcases h with ⟨p0, e0, e1⟩ | ⟨v1546, v1547, p0, p1, p2, p3, e0, e1⟩ | h
  · have e1_ : (1 : Int32).toInt = 1 := by decide
    omega
  · have i1_ : (1 : Int32).toInt = 1 := by decide
    have k3 := m_faults p3
    have e1_ : (1 : Int32).toInt = 1 := by decide
    omega
  · exact h.elim
theorem fzz_225 {r1264 : Int32} {v1237 : Int32} {v1238 : Int32} {v1239 : Int32} {v1277 : Int32} {v1278 : Int32} (h : J_M_readsFlange_225_6 r1264 v1237 v1238 v1239 v1277 v1278)  : ¬ v1238.toInt = 0 → v1277.toInt = v1238.toInt ∧ v1278.toInt = v1239.toInt := by
  rcases h with ⟨p0, e0, e1⟩ | ⟨v1546, v1547, p0, p1, p2, p3, e0, e1⟩ | h
  · have e1_ : (1 : Int32).toInt = 1 := by decide
    omega
  · have i1_ : (1 : Int32).toInt = 1 := by decide
    have k3 := m_faults p3
    have e1_ : (1 : Int32).toInt = 1 := by decide
    omega
  · exact h.elim
theorem cc_262 {fn638 : (Nat → Int32)} {r1287 : Int32} {v1223 : Int32} {v1237 : Int32} {v1257 : Int32} {v1277 : Int32} {v1278 : Int32} {v1313 : Int32} {v1314 : Int32} (h : J_M_readsFlange_262_7 fn638 r1287 v1223 v1237 v1257 v1277 v1278 v1313 v1314)  : ((r1287.toInt = 0 ∧ v1313.toInt = v1277.toInt ∧ v1314.toInt = v1278.toInt) ∨ (¬ r1287.toInt = 0 ∧ ¬ (0 < v1223.toInt ∧ v1257.toInt = (gG fn638 (22 + v1223.toInt) + 2) % 4) ∧ v1313.toInt = v1277.toInt ∧ v1314.toInt = v1278.toInt) ∨ (¬ r1287.toInt = 0 ∧ (0 < v1223.toInt ∧ v1257.toInt = (gG fn638 (22 + v1223.toInt) + 2) % 4) ∧ ((¬ v1277.toInt = 0 ∧ v1313.toInt = v1277.toInt ∧ v1314.toInt = v1278.toInt) ∨ (v1277.toInt = 0 ∧ v1313.toInt = 4 ∧ v1314.toInt = v1237.toInt)))) := by
  rcases h with ⟨p0, e0, e1⟩ | ⟨p0, p1, e0, e1⟩ | ⟨z1523, z1526, z1529, z1532, p0, p1, p2, p3, p4, p5, p6, p7, e0, e1⟩ | ⟨z1523, z1526, z1529, z1532, v1538, v1539, p0, p1, p2, p3, p4, p5, p6, p7, p8, p9, p10, e0, e1⟩ | h
  · have e1_ : (1 : Int32).toInt = 1 := by decide
    have e4_ : (4 : Int32).toInt = 4 := by decide
    omega
  · have e1_ : (1 : Int32).toInt = 1 := by decide
    have e4_ : (4 : Int32).toInt = 4 := by decide
    omega
  · have e1_ : (1 : Int32).toInt = 1 := by decide
    have e4_ : (4 : Int32).toInt = 4 := by decide
    have eg : gG fn638 z1523.toInt = gG fn638 (22 + v1223.toInt) := congrArg _ (by omega)
    omega
  · have i4_ : (4 : Int32).toInt = 4 := by decide
    have k10 := m_faults p10
    have e1_ : (1 : Int32).toInt = 1 := by decide
    have e4_ : (4 : Int32).toInt = 4 := by decide
    have eg : gG fn638 z1523.toInt = gG fn638 (22 + v1223.toInt) := congrArg _ (by omega)
    omega
  · exact h.elim
theorem fzz_262 {fn638 : (Nat → Int32)} {r1287 : Int32} {v1223 : Int32} {v1237 : Int32} {v1257 : Int32} {v1277 : Int32} {v1278 : Int32} {v1313 : Int32} {v1314 : Int32} (h : J_M_readsFlange_262_7 fn638 r1287 v1223 v1237 v1257 v1277 v1278 v1313 v1314)  : ¬ v1277.toInt = 0 → v1313.toInt = v1277.toInt ∧ v1314.toInt = v1278.toInt := by
  rcases h with ⟨p0, e0, e1⟩ | ⟨p0, p1, e0, e1⟩ | ⟨z1523, z1526, z1529, z1532, p0, p1, p2, p3, p4, p5, p6, p7, e0, e1⟩ | ⟨z1523, z1526, z1529, z1532, v1538, v1539, p0, p1, p2, p3, p4, p5, p6, p7, p8, p9, p10, e0, e1⟩ | h
  · have e4_ : (4 : Int32).toInt = 4 := by decide
    omega
  · have e4_ : (4 : Int32).toInt = 4 := by decide
    omega
  · have e4_ : (4 : Int32).toInt = 4 := by decide
    omega
  · have i4_ : (4 : Int32).toInt = 4 := by decide
    have k10 := m_faults p10
    have e4_ : (4 : Int32).toInt = 4 := by decide
    omega
  · exact h.elim
theorem sd_eq {B : Int → Int} {t a s F P F2 P2 q : Int} (h : ((OW B t a 8 ∧ s = 0 ∧ F2 = F ∧ P2 = P) ∨ (OW B t a 9 ∧ s = 1 ∧ F2 = F ∧ P2 = P) ∨ (OW B t a 10 ∧ s = 2 ∧ F2 = F ∧ P2 = P) ∨ (OW B t a 11 ∧ s = 3 ∧ F2 = F ∧ P2 = P) ∨ ((¬ OW B t a 8 ∧ ¬ OW B t a 9 ∧ ¬ OW B t a 10 ∧ ¬ OW B t a 11) ∧ ((¬ F = 0 ∧ F2 = F ∧ P2 = P) ∨ (F = 0 ∧ F2 = 1 ∧ P2 = t))))) (o : OWR B (t) (a) (q)) : (8 ≤ q ∧ q ≤ 11 ∧ s = q - 8 ∧ F2 = F ∧ P2 = P) ∨ (¬ (8 ≤ q ∧ q ≤ 11) ∧ ((¬ F = 0 ∧ F2 = F ∧ P2 = P) ∨ (F = 0 ∧ F2 = 1 ∧ P2 = t))) := by
  rcases h with ⟨w8, w2⟩ | ⟨w9, w2⟩ | ⟨w10, w2⟩ | ⟨w11, w2⟩ | ⟨⟨n8, n9, n10, n11⟩, w2⟩
  · rcases o with ⟨n, o1, o2, o3⟩ | ⟨o1, o2⟩
    · have := o3.uq w8 o1 (by decide); omega
    · exact absurd w8 (o2 _ (by decide))
  · rcases o with ⟨n, o1, o2, o3⟩ | ⟨o1, o2⟩
    · have := o3.uq w9 o1 (by decide); omega
    · exact absurd w9 (o2 _ (by decide))
  · rcases o with ⟨n, o1, o2, o3⟩ | ⟨o1, o2⟩
    · have := o3.uq w10 o1 (by decide); omega
    · exact absurd w10 (o2 _ (by decide))
  · rcases o with ⟨n, o1, o2, o3⟩ | ⟨o1, o2⟩
    · have := o3.uq w11 o1 (by decide); omega
    · exact absurd w11 (o2 _ (by decide))
  · rcases o with ⟨n, o1, o2, o3⟩ | ⟨o1, o2⟩
    · have h8 : ¬ n = 8 := fun e => n8 (e ▸ o3)
      have h9 : ¬ n = 9 := fun e => n9 (e ▸ o3)
      have h10 : ¬ n = 10 := fun e => n10 (e ▸ o3)
      have h11 : ¬ n = 11 := fun e => n11 (e ▸ o3)
      omega
    · omega
theorem own_b {t f a a2 n : Int} (e : t = f) (h0 : 0 ≤ t) (lt : t < a) (ea : a = a2) (le : a ≤ n) : 0 ≤ f ∧ f ≤ a2 ∧ a2 ≤ n := by omega
theorem OWR.le {B : Int → Int} {a b r : Int} (h : OWR B a b r) : -1 ≤ r ∧ r ≤ 17 := by
  rcases h with ⟨n, h1, h2, _⟩ | ⟨h1, _⟩ <;> omega
theorem z_w8 {z r : Int} (h : z = r - (8 : Int) ∨ z = r - (8 : Int) + 4294967296) (b : -1 ≤ r ∧ r ≤ 17) (c : -2147483648 ≤ z ∧ z < 2147483648) : z = r - 8 := by omega
theorem side_z {F P F2 P2 F3 P3 W WA w2 wa2 x9 xa9 t o i4 : Int} (hW : ¬ W = 0) (s1 : F = W) (s2 : P = WA) (fz : ¬ F = 0 → F2 = F ∧ P2 = P) (hc : (o = 0 ∧ F3 = F2 ∧ P3 = P2) ∨ (¬ o = 0 ∧ ((¬ F2 = 0 ∧ F3 = F2 ∧ P3 = P2) ∨ (F2 = 0 ∧ F3 = i4 ∧ P3 = t)))) (f2 : ¬ W = 0 → w2 = W ∧ wa2 = WA) (f3 : ¬ w2 = 0 → x9 = w2 ∧ xa9 = wa2) : F3 = x9 ∧ P3 = xa9 ∧ ¬ F3 = 0 := by
  have a := f2 hW
  have b := f3 (fun z => hW (a.1.symm.trans z))
  have e := fz (fun z => hW (s1.symm.trans z))
  have n2 : ¬ F2 = 0 := fun z => hW ((e.1.trans s1).symm.trans z)
  have g : F3 = F2 ∧ P3 = P2 := by
    rcases hc with ⟨_, g⟩ | ⟨_, ⟨_, g⟩ | ⟨z, _⟩⟩
    · exact g
    · exact g
    · exact absurd z n2
  exact ⟨by omega, by omega, by omega⟩
theorem side_p {F P F2 P2 F3 P3 W WA w2 wa2 x9 xa9 t s z q o ri rj x pa m1 m2 i0 i3 i4 : Int} (hF : F = 0) (hW : W = 0) (hP : P = WA) (sw : (8 ≤ q ∧ q ≤ 11 ∧ s = q - 8 ∧ F2 = F ∧ P2 = P) ∨ (¬ (8 ≤ q ∧ q ≤ 11) ∧ ((¬ F = 0 ∧ F2 = F ∧ P2 = P) ∨ (F = 0 ∧ F2 = 1 ∧ P2 = t)))) (hz : z = q - 8) (ii : (ri = 1 ∧ i0 ≤ z ∧ z ≤ i3) ∨ (ri = 0 ∧ ¬ (i0 ≤ z ∧ z ≤ i3))) (c2 : (¬ ri = 0 ∧ w2 = W ∧ wa2 = WA) ∨ (ri = 0 ∧ ((¬ W = 0 ∧ w2 = W ∧ wa2 = WA) ∨ (W = 0 ∧ w2 = 1 ∧ wa2 = t)))) (gw : (rj = 1 ∧ w2 = 0) ∨ (rj = 0 ∧ ¬ w2 = 0)) (c3 : (rj = 0 ∧ x9 = w2 ∧ xa9 = wa2) ∨ (¬ rj = 0 ∧ ¬ (0 < pa ∧ z = m2) ∧ x9 = w2 ∧ xa9 = wa2) ∨ (¬ rj = 0 ∧ (0 < pa ∧ z = m2) ∧ ((¬ w2 = 0 ∧ x9 = w2 ∧ xa9 = wa2) ∨ (w2 = 0 ∧ x9 = 4 ∧ xa9 = t)))) (hb : (o = 1 ∧ 0 < x ∧ m1 = s) ∨ (o = 0 ∧ ¬ (0 < x ∧ m1 = s))) (hc : (o = 0 ∧ F3 = F2 ∧ P3 = P2) ∨ (¬ o = 0 ∧ ((¬ F2 = 0 ∧ F3 = F2 ∧ P3 = P2) ∨ (F2 = 0 ∧ F3 = i4 ∧ P3 = t)))) (hp : pa = x) (hs : 0 < x → m1 = m2) (h4 : i4 = 4) (h0 : i0 = 0 := by decide) (h3 : i3 = 3 := by decide) : F3 = x9 ∧ P3 = xa9 ∧ (F3 = 0 → s = z ∧ 0 ≤ s ∧ s ≤ 3) := by
  subst hp hz hF hW hP h4 h0 h3
  rcases sw with ⟨q1, q2, e1, e2, e3⟩ | ⟨q1, e⟩
  · have r1 : ¬ ri = 0 := by
      rcases ii with ⟨a, _⟩ | ⟨_, b⟩
      · omega
      · exact absurd ⟨by omega, by omega⟩ b
    have w : w2 = 0 ∧ wa2 = P := by
      rcases c2 with ⟨_, a⟩ | ⟨a, _⟩
      · exact a
      · exact absurd a r1
    have j1 : ¬ rj = 0 := by
      rcases gw with ⟨a, _⟩ | ⟨_, b⟩
      · omega
      · exact absurd w.1 b
    by_cases H : 0 < pa ∧ m1 = s
    · have H2 : 0 < pa ∧ q - 8 = m2 := ⟨H.1, by have := hs H.1; omega⟩
      have o1 : ¬ o = 0 := by
        rcases hb with ⟨a, _⟩ | ⟨_, b⟩
        · omega
        · exact absurd H b
      have x : x9 = 4 ∧ xa9 = t := by
        rcases c3 with ⟨a, _⟩ | ⟨_, a, _⟩ | ⟨_, _, ⟨a, _⟩ | ⟨_, a⟩⟩
        · exact absurd a j1
        · exact absurd H2 a
        · exact absurd w.1 a
        · exact a
      have y : F3 = 4 ∧ P3 = t := by
        rcases hc with ⟨a, _⟩ | ⟨_, ⟨a, _⟩ | ⟨_, a⟩⟩
        · exact absurd a o1
        · exact absurd e2 a
        · exact a
      exact ⟨by omega, by omega, fun z => by omega⟩
    · have H2 : ¬ (0 < pa ∧ q - 8 = m2) := fun h => H ⟨h.1, by have := hs h.1; omega⟩
      have o0 : o = 0 := by
        rcases hb with ⟨_, a⟩ | ⟨b, _⟩
        · exact absurd a H
        · exact b
      have x : x9 = w2 ∧ xa9 = wa2 := by
        rcases c3 with ⟨a, _⟩ | ⟨_, _, a⟩ | ⟨_, a, _⟩
        · exact absurd a j1
        · exact a
        · exact absurd a H2
      have y : F3 = F2 ∧ P3 = P2 := by
        rcases hc with ⟨_, a⟩ | ⟨a, _⟩
        · exact a
        · exact absurd o0 a
      exact ⟨by omega, by omega, fun z => by omega⟩
  · have g : F2 = 1 ∧ P2 = t := by
      rcases e with ⟨a, _⟩ | ⟨_, a⟩
      · exact absurd rfl a
      · exact a
    have r0 : ri = 0 := by
      rcases ii with ⟨_, a⟩ | ⟨a, _⟩
      · exact absurd ⟨by omega, by omega⟩ q1
      · exact a
    have w : w2 = 1 ∧ wa2 = t := by
      rcases c2 with ⟨a, _⟩ | ⟨_, ⟨a, _⟩ | ⟨_, a⟩⟩
      · exact absurd r0 a
      · exact absurd rfl a
      · exact a
    have j0 : rj = 0 := by
      rcases gw with ⟨_, a⟩ | ⟨a, _⟩
      · omega
      · exact a
    have x : x9 = w2 ∧ xa9 = wa2 := by
      rcases c3 with ⟨_, a⟩ | ⟨a, _⟩ | ⟨a, _⟩
      · exact a
      · exact absurd j0 a
      · exact absurd j0 a
    have y : F3 = F2 ∧ P3 = P2 := by
      rcases hc with ⟨_, a⟩ | ⟨_, ⟨_, a⟩ | ⟨a, _⟩⟩
      · exact a
      · exact a
      · omega
    exact ⟨by omega, by omega, fun z => by omega⟩
theorem pw_side {B : Int → Int} {x1 : Int32} {h0_at : Int32} {h0_tokenEnd : Int32} {h0_fault : Int32} {h0_place : Int32} {h0_tape_length : Int32} {f_h0_tape_bytes : (Nat → Int32)} {f_h0_into_side : (Nat → Int32)} {o_u_h0_at : Int32} {o_u_h0_tokenStart : Int32} {o_u_h0_tokenEnd : Int32} {o_u_h0_fault : Int32} {o_u_h0_place : Int32} {o_r : Int32} {h0_size' : Int32} {h0_at' : Int32} {h0_from' : Int32} {h0_wrong' : Int32} {h0_wrongAt' : Int32} {f_h0_tape' : (Nat → Int32)} {o_u_h0_at' : Int32} {o_u_h0_from' : Int32} {o_u_h0_wrong' : Int32} {o_u_h0_wrongAt' : Int32} {ol rd : Nat → Int32} {r9 sd9 ri9 rj9 y9 ya9 pa9 x9 xa9 : Int32} (c : cTB f_h0_tape_bytes h0_tape_length B) (d : rTB f_h0_tape' h0_size' B) (h : S_R_sideOf x1 h0_at h0_tokenEnd h0_fault h0_place h0_tape_length f_h0_tape_bytes f_h0_into_side o_u_h0_at o_u_h0_tokenStart o_u_h0_tokenEnd o_u_h0_fault o_u_h0_place o_r) (h1 : S_M_word h0_size' h0_at' h0_from' h0_wrong' h0_wrongAt' f_h0_tape' o_u_h0_at' o_u_h0_from' o_u_h0_wrong' o_u_h0_wrongAt') (h2 : S_M_goesWell o_u_h0_wrong' r9) (h3 : J_M_readsFlange_206_5 ol f_h0_tape' r9 o_u_h0_at' o_u_h0_from' sd9) (h4 : S_M_isIn sd9 (0 : Int32) (3 : Int32) ri9) (h5 : J_M_readsFlange_225_6 ri9 o_u_h0_from' o_u_h0_wrong' o_u_h0_wrongAt' y9 ya9) (h6 : S_M_goesWell y9 rj9) (h7 : J_M_readsFlange_262_7 rd rj9 pa9 o_u_h0_from' sd9 y9 ya9 x9 xa9) (ho : pOwn ol) (hx0 : 0 ≤ x1.toInt) (hp : h0_fault.toInt = 0 → pa9.toInt = x1.toInt) (hs : 0 < x1.toInt → gG f_h0_into_side x1.toInt = gG rd (22 + x1.toInt)) (r : RC B h0_size'.toInt h0_at.toInt h0_tokenEnd.toInt h0_fault.toInt h0_place.toInt h0_at'.toInt h0_wrong'.toInt h0_wrongAt'.toInt) : RC B h0_size'.toInt o_u_h0_at.toInt o_u_h0_tokenEnd.toInt o_u_h0_fault.toInt o_u_h0_place.toInt o_u_h0_at'.toInt x9.toInt xa9.toInt ∧ (o_u_h0_fault.toInt = 0 → h0_fault.toInt = 0 ∧ o_r.toInt = sd9.toInt ∧ 0 ≤ o_r.toInt ∧ o_r.toInt ≤ 3) := by
  rcases h with ⟨v3, v4, v5, v6, v7, r14, v37, v38, v39, r45, p0, p1, p2, p3, -, p5, p6, p7, p8, p9, p10, p11, p12, p13, e0, e1, e2, e3, e4, e5⟩ | ⟨v3, v4, v5, v6, v7, r14, v37, v38, v39, r45, v51, v52, p0, p1, p2, p3, -, p5, p6, p7, p8, p9, p10, p11, p12, p13, p14, p15, p16, e0, e1, e2, e3, e4, e5⟩ | h
  · have po := pw_word c d p5 h1 r
    obtain ⟨⟨s1, s2, s3⟩, s4⟩ := po
    have gw := m_goesWell h2
    have wi := c_wI_9 p7 c
    have sd := j_sd p8 c wi
    have hb := c_hangs p12 hx0
    have fz1 := fz_R_sideOf_66_1 p8
    have e4_ : (4 : Int32).toInt = 4 := by decide
    have xe0 := xie e0
    subst xe0
    have xe1 := xie e1
    subst xe1
    have xe2 := xie e2
    subst xe2
    have xe3 := xie e3
    subst xe3
    have xe4 := xie e4
    subst xe4
    have xe5 := xie e5
    subst xe5
    rcases h3 with ⟨q0, g0⟩ | ⟨r1552', z1554', q0, q1, q2, q3, g0⟩ | h3
    · have nw := b10 gw q0
      have k := side_z (t := o_u_h0_tokenStart.toInt) (i4 := (4 : Int32).toInt) nw s1 s2 fz1 (.inl ⟨p13, rfl, rfl⟩) (fzz_225 h5) (fzz_262 h7)
      exact ⟨⟨k.1, k.2.1, fun z => absurd z k.2.2⟩, fun z => absurd z k.2.2⟩
    · have w0 := b11 gw q0
      have z0 := s1.trans w0
      have s5 := s3 z0
      have s6 := s4 z0
      have ow := m_own q1 d ho (own_b s6.2.1 s6.2.2.2.2 s6.2.2.2.1 s5.1 s5.2.2.1)
      rw [← s5.1, ← s6.2.1] at ow
      have ob := ow.le
      have hz := g0.trans (z_w8 q3 ob (zr z1554'))
      have sw := sd_eq sd ow
      have c225 := cc_225 h5
      have c262 := cc_262 h7
      rw [← s6.2.1] at c225 c262
      have hpx := hp s6.1
      have k := side_p z0 w0 s2 sw hz (m_isIn h4) c225 (m_goesWell h6) c262 hb (.inl ⟨p13, rfl, rfl⟩) hpx (fun z => by rw [hpx, hs z]) e4_
      exact ⟨⟨k.1, k.2.1, fun _ => s5⟩, fun z => ⟨s6.1, k.2.2 z⟩⟩
    · exact h3.elim
  · have po := pw_word c d p5 h1 r
    obtain ⟨⟨s1, s2, s3⟩, s4⟩ := po
    have gw := m_goesWell h2
    have wi := c_wI_9 p7 c
    have sd := j_sd p8 c wi
    have hb := c_hangs p12 hx0
    have fz1 := fz_R_sideOf_66_1 p8
    have e4_ : (4 : Int32).toInt = 4 := by decide
    have xe0 := xie e0
    subst xe0
    have xe1 := xie e1
    subst xe1
    have xe2 := xie e2
    subst xe2
    have xe3 := xie e3
    subst xe3
    have xe4 := xie e4
    subst xe4
    have xe5 := xie e5
    subst xe5
    have kf := c_fail p16
    rcases h3 with ⟨q0, g0⟩ | ⟨r1552', z1554', q0, q1, q2, q3, g0⟩ | h3
    · have nw := b10 gw q0
      have k := side_z (t := o_u_h0_tokenStart.toInt) (i4 := (4 : Int32).toInt) nw s1 s2 fz1 (.inr ⟨p13, kf⟩) (fzz_225 h5) (fzz_262 h7)
      exact ⟨⟨k.1, k.2.1, fun z => absurd z k.2.2⟩, fun z => absurd z k.2.2⟩
    · have w0 := b11 gw q0
      have z0 := s1.trans w0
      have s5 := s3 z0
      have s6 := s4 z0
      have ow := m_own q1 d ho (own_b s6.2.1 s6.2.2.2.2 s6.2.2.2.1 s5.1 s5.2.2.1)
      rw [← s5.1, ← s6.2.1] at ow
      have ob := ow.le
      have hz := g0.trans (z_w8 q3 ob (zr z1554'))
      have sw := sd_eq sd ow
      have c225 := cc_225 h5
      have c262 := cc_262 h7
      rw [← s6.2.1] at c225 c262
      have hpx := hp s6.1
      have k := side_p z0 w0 s2 sw hz (m_isIn h4) c225 (m_goesWell h6) c262 hb (.inr ⟨p13, kf⟩) hpx (fun z => by rw [hpx, hs z]) e4_
      exact ⟨⟨k.1, k.2.1, fun _ => s5⟩, fun z => ⟨s6.1, k.2.2 z⟩⟩
    · exact h3.elim
  · exact h.elim
