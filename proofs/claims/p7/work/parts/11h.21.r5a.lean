theorem nm_eq {B : Int → Int} {t a r F P F2 P2 W WA W2 WA2 : Int} (hN : NMR B (t) (a) (F) (P) (F2) (P2)) (ho : OWR B (t) (a) (r)) (hO : ((r = -1 ∧ a ≤ t + 4 ∧ W2 = W ∧ WA2 = WA) ∨ (r = -1 ∧ t + 4 < a ∧ ((¬ W = 0 ∧ W2 = W ∧ WA2 = WA) ∨ (W = 0 ∧ W2 = 1 ∧ WA2 = t + 4))) ∨ (¬ r = -1 ∧ ((¬ W = 0 ∧ W2 = W ∧ WA2 = WA) ∨ (W = 0 ∧ W2 = 1 ∧ WA2 = t))))) (e : F = W ∧ P = WA) : F2 = W2 ∧ P2 = WA2 := by
  rcases hN with ⟨⟨n, hn, w⟩, k⟩ | ⟨hn, k⟩
  · rcases ho with ⟨m, m1, m2, m3⟩ | ⟨m1, m2⟩
    · omega
    · exact absurd w (m2 n hn)
  · rcases ho with ⟨m, m1, m2, m3⟩ | ⟨m1, m2⟩
    · exact absurd m3 (hn m m1)
    · omega
/-- names as one number, and as four letters -/
def NMC (nm rd : Nat → Int32) (cnt : Int) : Prop := ∀ f : Int, 1 ≤ f → f < cnt → (0 ≤ gG rd (67 + 4 * f) ∧ gG rd (67 + 4 * f) < 32 ∧ 0 ≤ gG rd (67 + 4 * f + 1) ∧ gG rd (67 + 4 * f + 1) < 32 ∧ 0 ≤ gG rd (67 + 4 * f + 2) ∧ gG rd (67 + 4 * f + 2) < 32 ∧ 0 ≤ gG rd (67 + 4 * f + 3) ∧ gG rd (67 + 4 * f + 3) < 32) ∧ gG nm f = 32768 * gG rd (67 + 4 * f) + 1024 * gG rd (67 + 4 * f + 1) + 32 * gG rd (67 + 4 * f + 2) + gG rd (67 + 4 * f + 3)
def PKN (B : Int → Int) (t a : Int) : Int := 32768 * sgn B t a 0 + 1024 * sgn B t a 1 + 32 * sgn B t a 2 + sgn B t a 3
theorem NMC.iff {B : Int → Int} {nm rd : Nat → Int32} {cnt t a f : Int} (h : NMC nm rd cnt) (w : isWd B t a) (h1 : 1 ≤ f) (h2 : f < cnt) : gG nm f = PKN B t a ↔ NQ B t a rd f := by
  obtain ⟨b, e⟩ := h f h1 h2
  have s0 := sgn_b w (j := 0) (by decide)
  have s1 := sgn_b w (j := 1) (by decide)
  have s2 := sgn_b w (j := 2) (by decide)
  have s3 := sgn_b w (j := 3) (by decide)
  unfold PKN
  constructor
  · intro q i i0 i1
    rcases (show i = 0 ∨ i = 1 ∨ i = 2 ∨ i = 3 by omega) with z | z | z | z
    · rw [z, Int.add_zero]; omega
    · rw [z]; omega
    · rw [z]; omega
    · rw [z]; omega
  · intro q
    have q0 := q 0 (by decide) (by decide)
    have q1 := q 1 (by decide) (by decide)
    have q2 := q 2 (by decide) (by decide)
    have q3 := q 3 (by decide) (by decide)
    rw [Int.add_zero] at q0
    omega
theorem fn_eq {B : Int → Int} {nm rd : Nat → Int32} {cnt t a X r1 r2 W : Int} (h : NMC nm rd cnt) (w : isWd B t a) (hX : X = PKN B t a) (k : (r1 = -1 ∧ ∀ f : Int, 1 ≤ f → f < cnt → ¬ gG nm f = X) ∨ (1 ≤ r1 ∧ r1 < cnt ∧ gG nm r1 = X ∧ ∀ f : Int, 1 ≤ f → f < r1 → ¬ gG nm f = X)) (k2 : (¬ W = 0 ∧ r2 = -1) ∨ (r2 = -1 ∧ ∀ f : Int, 1 ≤ f → f < cnt → ¬ NQ B t a rd f) ∨ (1 ≤ r2 ∧ r2 < cnt ∧ NQ B t a rd r2 ∧ ∀ f : Int, 1 ≤ f → f < r2 → ¬ NQ B t a rd f)) (hW : W = 0) : r1 = r2 := by
  subst hX
  rcases k2 with ⟨z, _⟩ | ⟨e2, n2⟩ | ⟨a2, b2, y2, n2⟩
  · exact absurd hW z
  · rcases k with ⟨e1, n1⟩ | ⟨a1, b1, y1, n1⟩
    · omega
    · exact absurd ((h.iff w a1 b1).mp y1) (n2 r1 a1 b1)
  · rcases k with ⟨e1, n1⟩ | ⟨a1, b1, y1, n1⟩
    · exact absurd ((h.iff w a2 b2).mpr y2) (n1 r2 a2 b2)
    · rcases Int.lt_trichotomy r1 r2 with q | q | q
      · exact absurd ((h.iff w a1 b1).mp y1) (n2 r1 a1 q)
      · exact q
      · exact absurd ((h.iff w a2 b2).mpr y2) (n1 r2 a2 q)
theorem oc_0 {r z at_ f a t W WA : Int} (hr : r = -1) (hz : z = at_ - f) (h4 : z ≤ 4) (ha : a = at_) (ht : t = f) : ((r = -1 ∧ a ≤ t + 4 ∧ W = W ∧ WA = WA) ∨ (r = -1 ∧ t + 4 < a ∧ ((¬ W = 0 ∧ W = W ∧ WA = WA) ∨ (W = 0 ∧ W = 1 ∧ WA = t + 4))) ∨ (¬ r = -1 ∧ ((¬ W = 0 ∧ W = W ∧ WA = WA) ∨ (W = 0 ∧ W = 1 ∧ WA = t)))) := by
  subst ha ht hz
  exact .inl ⟨hr, by omega, rfl, rfl⟩
theorem oc_1 {r z z2 at_ f a t W WA W2 WA2 i1 : Int} (hr : r = -1) (hz : z = at_ - f) (h4 : ¬ z ≤ 4) (hz2 : z2 = f + 4) (ha : a = at_) (ht : t = f) (k : ((¬ W = 0 ∧ W2 = W ∧ WA2 = WA) ∨ (W = 0 ∧ W2 = i1 ∧ WA2 = z2))) (h1 : i1 = 1) : ((r = -1 ∧ a ≤ t + 4 ∧ W2 = W ∧ WA2 = WA) ∨ (r = -1 ∧ t + 4 < a ∧ ((¬ W = 0 ∧ W2 = W ∧ WA2 = WA) ∨ (W = 0 ∧ W2 = 1 ∧ WA2 = t + 4))) ∨ (¬ r = -1 ∧ ((¬ W = 0 ∧ W2 = W ∧ WA2 = WA) ∨ (W = 0 ∧ W2 = 1 ∧ WA2 = t)))) := by
  subst ha ht hz hz2 h1
  exact .inr (.inl ⟨hr, by omega, k⟩)
theorem oc_2 {r f a t W WA W2 WA2 i1 : Int} (hr : ¬ r = -1) (ht : t = f) (k : ((¬ W = 0 ∧ W2 = W ∧ WA2 = WA) ∨ (W = 0 ∧ W2 = i1 ∧ WA2 = f))) (h1 : i1 = 1) : ((r = -1 ∧ a ≤ t + 4 ∧ W2 = W ∧ WA2 = WA) ∨ (r = -1 ∧ t + 4 < a ∧ ((¬ W = 0 ∧ W2 = W ∧ WA2 = WA) ∨ (W = 0 ∧ W2 = 1 ∧ WA2 = t + 4))) ∨ (¬ r = -1 ∧ ((¬ W = 0 ∧ W2 = W ∧ WA2 = WA) ∨ (W = 0 ∧ W2 = 1 ∧ WA2 = t)))) := by
  subst ht h1
  exact .inr (.inr ⟨hr, k⟩)
theorem oc_l {z at_ f a t : Int} (hz : z = at_ - f) (h4 : z ≤ 4) (ha : a = at_) (ht : t = f) : a ≤ t + 4 := by omega
theorem pw_nm {B : Int → Int} {h0_at : Int32} {h0_tokenEnd : Int32} {h0_fault : Int32} {h0_place : Int32} {h0_tape_length : Int32} {f_h0_tape_bytes : (Nat → Int32)} {o_u_h0_at o_u_h0_tokenStart o_u_h0_tokenEnd f1 p1 f2 p2 r_ : Int32} {h0_size' : Int32} {h0_at' : Int32} {h0_from' : Int32} {h0_wrong' : Int32} {h0_wrongAt' : Int32} {f_h0_tape' : (Nat → Int32)} {f_h0_ownLetters' : (Nat → Int32)} {o_u_h0_at' : Int32} {o_u_h0_from' : Int32} {o_u_h0_wrong' : Int32} {o_u_h0_wrongAt' : Int32} (c : cTB f_h0_tape_bytes h0_tape_length B) (d : rTB f_h0_tape' h0_size' B) (hw : S_R_readWord h0_at h0_tokenEnd h0_fault h0_place h0_tape_length f_h0_tape_bytes o_u_h0_at o_u_h0_tokenStart o_u_h0_tokenEnd f1 p1) (hn : S_R_name o_u_h0_at o_u_h0_tokenStart f1 p1 h0_tape_length f_h0_tape_bytes f2 p2 r_) (h' : S_M_name h0_size' h0_at' h0_from' h0_wrong' h0_wrongAt' f_h0_tape' f_h0_ownLetters' o_u_h0_at' o_u_h0_from' o_u_h0_wrong' o_u_h0_wrongAt') (ho : pOwn f_h0_ownLetters') (r : RC B h0_size'.toInt h0_at.toInt h0_tokenEnd.toInt h0_fault.toInt h0_place.toInt h0_at'.toInt h0_wrong'.toInt h0_wrongAt'.toInt) : RC B h0_size'.toInt o_u_h0_at.toInt o_u_h0_tokenEnd.toInt f2.toInt p2.toInt o_u_h0_at'.toInt o_u_h0_wrong'.toInt o_u_h0_wrongAt'.toInt ∧ (f2.toInt = 0 → h0_fault.toInt = 0 ∧ o_u_h0_tokenStart.toInt = o_u_h0_from'.toInt ∧ isWd B o_u_h0_tokenStart.toInt o_u_h0_at.toInt ∧ o_u_h0_tokenStart.toInt < o_u_h0_at.toInt ∧ o_u_h0_at.toInt ≤ o_u_h0_tokenStart.toInt + 4 ∧ 0 ≤ o_u_h0_tokenStart.toInt ∧ r_.toInt = PKN B o_u_h0_tokenStart.toInt o_u_h0_at.toInt) := by
  rcases h' with ⟨v3', v4', v5', v6', r14', r19', z22', q0, q1, q2, -, q4, -, q6, q7, -, q9, q10, q11, q12, q13, q14, g0, g1, g2, g3⟩ | ⟨v3', v4', v5', v6', r14', r19', z22', z26', v31', v32', q0, q1, q2, -, q4, -, q6, q7, -, q9, q10, q11, q12, q13, q14, q15, q16, q17, q18, g0, g1, g2, g3⟩ | ⟨v3', v4', v5', v6', r14', r19', v38', v39', q0, q1, q2, -, q4, -, q6, q7, -, q9, q10, q11, q12, q13, q14, q15, g0, g1, g2, g3⟩ | ⟨v3', v4', v5', v6', r14', q0, q1, q2, -, q4, -, q6, q7, -, q9, q10, g0, g1, g2, g3⟩ | h'
  · have po := pw_word c d hw q6 r
    obtain ⟨⟨s1, s2, s3⟩, s4⟩ := po
    have gw := m_goesWell q9
    have z0 := s1.trans (b11 gw q10)
    have s5 := s3 z0
    have s6 := s4 z0
    have ow := m_own q11 d ho ⟨by omega, by omega, by omega⟩
    rw [← s5.1, ← s6.2.1] at ow
    have xg0 := xie g0
    subst xg0
    have xg1 := xie g1
    subst xg1
    have xg2 := xie g2
    subst xg2
    have xg3 := xie g3
    subst xg3
    have cn := c_name hn c s6.2.2.1
    have oc := oc_0 (W := o_u_h0_wrong'.toInt) (WA := o_u_h0_wrongAt'.toInt) q12 q13 q14 s5.1 s6.2.1
    have ne := nm_eq cn.1 ow oc ⟨s1, s2⟩
    exact ⟨⟨ne.1, ne.2, fun _ => s5⟩, fun z => ⟨s6.1, s6.2.1, s6.2.2.1, s6.2.2.2.1, oc_l q13 q14 s5.1 s6.2.1, s6.2.2.2.2, by unfold PKN; exact cn.2 z⟩⟩
  · have po := pw_word c d hw q6 r
    obtain ⟨⟨s1, s2, s3⟩, s4⟩ := po
    have gw := m_goesWell q9
    have z0 := s1.trans (b11 gw q10)
    have s5 := s3 z0
    have s6 := s4 z0
    have ow := m_own q11 d ho ⟨by omega, by omega, by omega⟩
    rw [← s5.1, ← s6.2.1] at ow
    have xg0 := xie g0
    subst xg0
    have xg1 := xie g1
    subst xg1
    have xg2 := xie g2
    subst xg2
    have xg3 := xie g3
    subst xg3
    have cn := c_name hn c s6.2.2.1
    have e1_ : (1 : Int32).toInt = 1 := by decide
    have mf := m_faults q18
    have oc := oc_1 q12 q13 q14 q15 s5.1 s6.2.1 mf e1_
    have ne := nm_eq cn.1 ow oc ⟨s1, s2⟩
    exact ⟨⟨ne.1, ne.2, fun _ => s5⟩, fun z => absurd (ne.1.symm.trans z) q17⟩
  · have po := pw_word c d hw q6 r
    obtain ⟨⟨s1, s2, s3⟩, s4⟩ := po
    have gw := m_goesWell q9
    have z0 := s1.trans (b11 gw q10)
    have s5 := s3 z0
    have s6 := s4 z0
    have ow := m_own q11 d ho ⟨by omega, by omega, by omega⟩
    rw [← s5.1, ← s6.2.1] at ow
    have xg0 := xie g0
    subst xg0
    have xg1 := xie g1
    subst xg1
    have xg2 := xie g2
    subst xg2
    have xg3 := xie g3
    subst xg3
    have cn := c_name hn c s6.2.2.1
    have e1_ : (1 : Int32).toInt = 1 := by decide
    have mf := m_faults q15
    have oc := oc_2 (a := o_u_h0_at.toInt) q12 s6.2.1 mf e1_
    have ne := nm_eq cn.1 ow oc ⟨s1, s2⟩
    exact ⟨⟨ne.1, ne.2, fun _ => s5⟩, fun z => absurd (ne.1.symm.trans z) q14⟩
  · have po := pw_word c d hw q6 r
    obtain ⟨⟨s1, s2, s3⟩, s4⟩ := po
    have gw := m_goesWell q9
    have xg0 := xie g0
    subst xg0
    have xg1 := xie g1
    subst xg1
    have xg2 := xie g2
    subst xg2
    have xg3 := xie g3
    subst xg3
    have nf : ¬ f1.toInt = 0 := fun z => b10 gw q10 (s1.symm.trans z)
    have fz := fz_R_name hn nf
    exact ⟨⟨fz.1.trans s1, fz.2.trans s2, fun z => absurd (fz.1.symm.trans z) nf⟩, fun z => absurd (fz.1.symm.trans z) nf⟩
  · exact h'.elim
theorem j48_ {B : Int → Int} {rd tp : Nat → Int32} {cn r9 a9 f9 w9 wa9 x9 xa9 sz_ : Int32} (h : J_M_readsFlange_48_2 rd tp cn r9 a9 f9 w9 wa9 x9 xa9) (c : rTB tp sz_ B) (hf : 0 ≤ f9.toInt ∧ a9.toInt ≤ sz_.toInt) (hr : (r9.toInt = 1 ∧ w9.toInt = 0) ∨ (r9.toInt = 0 ∧ ¬ w9.toInt = 0)) : (¬ w9.toInt = 0 ∧ x9.toInt = w9.toInt ∧ xa9.toInt = wa9.toInt) ∨ (w9.toInt = 0 ∧ ∃ q : Int, ((¬ w9.toInt = 0 ∧ q = -1) ∨ (q = -1 ∧ ∀ f : Int, 1 ≤ f → f < cn.toInt → ¬ NQ B f9.toInt a9.toInt rd f) ∨ (1 ≤ q ∧ q < cn.toInt ∧ NQ B f9.toInt a9.toInt rd q ∧ ∀ f : Int, 1 ≤ f → f < q → ¬ NQ B f9.toInt a9.toInt rd f)) ∧ ((q = -1 ∧ x9.toInt = w9.toInt ∧ xa9.toInt = wa9.toInt) ∨ (¬ q = -1 ∧ x9.toInt = 3 ∧ xa9.toInt = f9.toInt))) := by
  rcases h with ⟨p0, e0, e1⟩ | ⟨r1648, p0, p1, p2, p3, p4, e0, e1⟩ | ⟨r1648, v1655, v1656, p0, p1, p2, p3, p4, p5, p6, p7, e0, e1⟩ | h
  · exact .inl (by omega)
  · exact .inr ⟨by omega, _, m_named p3 c hf, .inl (by omega)⟩
  · have k := m_faults p7
    have e3 : (3 : Int32).toInt = 3 := by decide
    exact .inr ⟨by omega, _, m_named p3 c hf, .inr (by omega)⟩
  · exact h.elim
theorem pw_nn {B : Int → Int} {h0_at : Int32} {h0_tokenEnd : Int32} {h0_fault : Int32} {h0_place : Int32} {h0_tape_length : Int32} {f_h0_tape_bytes : (Nat → Int32)} {h0_into_count : Int32} {f_h0_into_name : (Nat → Int32)} {o_u_h0_at : Int32} {o_u_h0_tokenStart : Int32} {o_u_h0_tokenEnd : Int32} {o_u_h0_fault : Int32} {o_u_h0_place : Int32} {o_r : Int32} {h0_size' : Int32} {h0_at' : Int32} {h0_from' : Int32} {h0_wrong' : Int32} {h0_wrongAt' : Int32} {f_h0_tape' : (Nat → Int32)} {f_h0_ownLetters' : (Nat → Int32)} {o_u_h0_at' : Int32} {o_u_h0_from' : Int32} {o_u_h0_wrong' : Int32} {o_u_h0_wrongAt' : Int32} {rd : Nat → Int32} {cn r9 x9 xa9 : Int32} (c : cTB f_h0_tape_bytes h0_tape_length B) (d : rTB f_h0_tape' h0_size' B) (h : S_R_newName h0_at h0_tokenEnd h0_fault h0_place h0_tape_length f_h0_tape_bytes h0_into_count f_h0_into_name o_u_h0_at o_u_h0_tokenStart o_u_h0_tokenEnd o_u_h0_fault o_u_h0_place o_r) (h1 : S_M_name h0_size' h0_at' h0_from' h0_wrong' h0_wrongAt' f_h0_tape' f_h0_ownLetters' o_u_h0_at' o_u_h0_from' o_u_h0_wrong' o_u_h0_wrongAt') (h2 : S_M_goesWell o_u_h0_wrong' r9) (h3 : J_M_readsFlange_48_2 rd f_h0_tape' cn r9 o_u_h0_at' o_u_h0_from' o_u_h0_wrong' o_u_h0_wrongAt' x9 xa9) (ho : pOwn f_h0_ownLetters') (nm : NMC f_h0_into_name rd cn.toInt) (hc : h0_into_count.toInt = cn.toInt) (hfa : 0 ≤ o_u_h0_from'.toInt) (hsz : o_u_h0_at'.toInt ≤ h0_size'.toInt) (r : RC B h0_size'.toInt h0_at.toInt h0_tokenEnd.toInt h0_fault.toInt h0_place.toInt h0_at'.toInt h0_wrong'.toInt h0_wrongAt'.toInt) : RC B h0_size'.toInt o_u_h0_at.toInt o_u_h0_tokenEnd.toInt o_u_h0_fault.toInt o_u_h0_place.toInt o_u_h0_at'.toInt x9.toInt xa9.toInt ∧ (o_u_h0_fault.toInt = 0 → h0_fault.toInt = 0 ∧ o_u_h0_tokenStart.toInt = o_u_h0_from'.toInt ∧ isWd B o_u_h0_tokenStart.toInt o_u_h0_at.toInt ∧ o_u_h0_tokenStart.toInt < o_u_h0_at.toInt ∧ o_u_h0_at.toInt ≤ o_u_h0_tokenStart.toInt + 4 ∧ 0 ≤ o_u_h0_tokenStart.toInt ∧ o_r.toInt = PKN B o_u_h0_tokenStart.toInt o_u_h0_at.toInt) := by
  rcases h with ⟨v3, v4, v5, v6, v7, v16, v17, r14, r21, p0, p1, p2, p3, -, p5, p6, -, p8, p9, -, p11, p12, e0, e1, e2, e3, e4, e5⟩ | ⟨v3, v4, v5, v6, v7, v16, v17, r14, r21, v28, v29, p0, p1, p2, p3, -, p5, p6, -, p8, p9, -, p11, p12, p13, p14, p15, e0, e1, e2, e3, e4, e5⟩ | h
  · have po := pw_nm c d p5 p8 h1 ho r
    obtain ⟨⟨s1, s2, s3⟩, s4⟩ := po
    have gw := m_goesWell h2
    have cf := c_find p11
    have xe0 := xie e0
    subst xe0
    have xe1 := xie e1
    subst xe1
    have xe2 := xie e2
    subst xe2
    have xe3 := xie e3
    subst xe3
    have xe4 := xie e4
    subst xe4
    have xe5 := xie e5
    subst xe5
    have j9 := j48_ h3 d ⟨hfa, hsz⟩ gw
    rcases j9 with ⟨j0, j1, j2⟩ | ⟨j0, q, j1, j2⟩
    · exact ⟨⟨s1.trans j1.symm, s2.trans j2.symm, fun z => absurd (s1.symm.trans z) j0⟩, fun z => absurd (s1.symm.trans z) j0⟩
    · skip
      have z0 := s1.trans j0
      have s6 := s4 z0
      have s5 := s3 z0
      rw [← s5.1, ← s6.2.1] at j1
      rw [hc] at cf
      have fe := fn_eq nm s6.2.2.1 s6.2.2.2.2.2.2 cf j1 j0
      have h9 := j2.resolve_right (fun u => u.1 (fe.symm.trans p12))
      exact ⟨⟨s1.trans h9.2.1.symm, s2.trans h9.2.2.symm, fun _ => s5⟩, fun _ => ⟨s6.1, s6.2.1, s6.2.2.1, s6.2.2.2.1, s6.2.2.2.2.1, s6.2.2.2.2.2.1, s6.2.2.2.2.2.2⟩⟩
  · have po := pw_nm c d p5 p8 h1 ho r
    obtain ⟨⟨s1, s2, s3⟩, s4⟩ := po
    have gw := m_goesWell h2
    have cf := c_find p11
    have xe0 := xie e0
    subst xe0
    have xe1 := xie e1
    subst xe1
    have xe2 := xie e2
    subst xe2
    have xe3 := xie e3
    subst xe3
    have xe4 := xie e4
    subst xe4
    have xe5 := xie e5
    subst xe5
    have kf := c_fail p15
    have e3 : (3 : Int32).toInt = 3 := by decide
    have j9 := j48_ h3 d ⟨hfa, hsz⟩ gw
    rcases j9 with ⟨j0, j1, j2⟩ | ⟨j0, q, j1, j2⟩
    · have g9 := kf.resolve_right (fun u => j0 (s1.symm.trans u.1))
      exact ⟨⟨g9.2.1.trans (s1.trans j1.symm), g9.2.2.trans (s2.trans j2.symm), fun z => absurd z p14⟩, fun z => absurd z p14⟩
    · skip
      have z0 := s1.trans j0
      have s6 := s4 z0
      have s5 := s3 z0
      rw [← s5.1, ← s6.2.1] at j1
      rw [hc] at cf
      have fe := fn_eq nm s6.2.2.1 s6.2.2.2.2.2.2 cf j1 j0
      have h9 := j2.resolve_left (fun u => p12 (fe.trans u.1))
      have g9 := kf.resolve_left (fun u => u.1 z0)
      exact ⟨⟨g9.2.1.trans (e3.trans h9.2.1.symm), g9.2.2.trans (s6.2.1.trans h9.2.2.symm), fun z => absurd z p14⟩, fun z => absurd z p14⟩
  · exact h.elim
theorem j165_ {r1561 : Int32} {v1143 : Int32} {v1144 : Int32} {v1145 : Int32} {v1146 : Int32} {v1585 : Int32} {v1586 : Int32} (h : J_M_readsFlange_165_11 r1561 v1143 v1144 v1145 v1146 v1585 v1586)  : ((r1561.toInt = -1 ∧ v1143.toInt ≤ v1144.toInt + 4 ∧ v1585.toInt = v1145.toInt ∧ v1586.toInt = v1146.toInt) ∨ (r1561.toInt = -1 ∧ v1144.toInt + 4 < v1143.toInt ∧ ((¬ v1145.toInt = 0 ∧ v1585.toInt = v1145.toInt ∧ v1586.toInt = v1146.toInt) ∨ (v1145.toInt = 0 ∧ v1585.toInt = 1 ∧ v1586.toInt = v1144.toInt + 4))) ∨ (¬ r1561.toInt = -1 ∧ ((¬ v1145.toInt = 0 ∧ v1585.toInt = v1145.toInt ∧ v1586.toInt = v1146.toInt) ∨ (v1145.toInt = 0 ∧ v1585.toInt = 1 ∧ v1586.toInt = v1144.toInt)))) := by
  rcases h with ⟨z1606, p0, p1, p2, e0, e1⟩ | ⟨z1606, z1610, v1615, v1616, p0, p1, p2, p3, p4, p5, p6, e0, e1⟩ | ⟨v1622, v1623, p0, p1, p2, p3, e0, e1⟩ | h
  · have e1_ : (1 : Int32).toInt = 1 := by decide
    omega
  · have i1_ : (1 : Int32).toInt = 1 := by decide
    have k6 := m_faults p6
    have e1_ : (1 : Int32).toInt = 1 := by decide
    omega
  · have i1_ : (1 : Int32).toInt = 1 := by decide
    have k3 := m_faults p3
    have e1_ : (1 : Int32).toInt = 1 := by decide
    omega
  · exact h.elim
