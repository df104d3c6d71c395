def alB (B : Int → Int) (p : Int) : Prop := (97 ≤ B p ∧ B p ≤ 122) ∨ (48 ≤ B p ∧ B p ≤ 57)
/-- where the class's reader is (a, te), its fault (F, P); where the reference's is (a2), its fault (W, WA) -/
def RC (B : Int → Int) (n a te F P a2 W WA : Int) : Prop := F = W ∧ P = WA ∧ (F = 0 → a = a2 ∧ 0 ≤ a ∧ a ≤ n ∧ ((te = a ∧ alB B (a - 1)) ∨ (te = -1 ∧ ¬ alB B (a - 1))))
theorem adj {B : Int → Int} {a te s : Int} (h : (te = a ∧ alB B (a - 1)) ∨ (te = -1 ∧ ¬ alB B (a - 1))) (h0 : 0 ≤ a) (k : isSk B a s) : s = te ↔ alB B (s - 1) := by
  have k1 := k.1
  by_cases e : s = a
  · subst e
    rcases h with ⟨h1, h2⟩ | ⟨h1, h2⟩
    · exact ⟨fun _ => h2, fun _ => h1.symm⟩
    · exact ⟨fun q => by omega, fun q => absurd q h2⟩
  · have b := k.2.1 (s - 1) (by omega) (by omega)
    have nb : ¬ alB B (s - 1) := by unfold alB; omega
    exact ⟨fun q => by omega, fun q => absurd q nb⟩
theorem isWd.st {B : Int → Int} {a b : Int} (h : isWd B a b) : (b = a ∧ ¬ (97 ≤ B a ∧ B a ≤ 122)) ∨ (a < b ∧ 97 ≤ B a ∧ B a ≤ 122) := by
  have h1 := h.1
  by_cases e : b = a
  · exact .inl ⟨e, by have := h.2.2; rwa [e] at this⟩
  · exact .inr ⟨by omega, h.2.1 a (by omega) (by omega)⟩
theorem isWd.al {B : Int → Int} {a b : Int} (h : isWd B a b) (q : a < b) : alB B (b - 1) := .inl (h.2.1 (b - 1) (by omega) (by omega))
theorem TXB.le {B : Int → Int} {n p : Int} (h : TXB B n) (q : alB B p) : 0 ≤ p ∧ p < n := by
  unfold alB at q
  constructor
  · rcases Int.lt_or_le p 0 with z | z
    · have := h.2.2.1 p z; omega
    · exact z
  · rcases Int.lt_or_le p n with z | z
    · exact z
    · have := h.2.2.2.1 p z; omega
theorem pw_word {B : Int → Int}  {h0_at : Int32} {h0_tokenEnd : Int32} {h0_fault : Int32} {h0_place : Int32} {h0_tape_length : Int32} {f_h0_tape_bytes : (Nat → Int32)} {o_u_h0_at : Int32} {o_u_h0_tokenStart : Int32} {o_u_h0_tokenEnd : Int32} {o_u_h0_fault : Int32} {o_u_h0_place : Int32} {h0_size' : Int32} {h0_at' : Int32} {h0_from' : Int32} {h0_wrong' : Int32} {h0_wrongAt' : Int32} {f_h0_tape' : (Nat → Int32)} {o_u_h0_at' : Int32} {o_u_h0_from' : Int32} {o_u_h0_wrong' : Int32} {o_u_h0_wrongAt' : Int32} (c : cTB f_h0_tape_bytes h0_tape_length B) (d : rTB f_h0_tape' h0_size' B) (h : S_R_readWord h0_at h0_tokenEnd h0_fault h0_place h0_tape_length f_h0_tape_bytes o_u_h0_at o_u_h0_tokenStart o_u_h0_tokenEnd o_u_h0_fault o_u_h0_place) (h' : S_M_word h0_size' h0_at' h0_from' h0_wrong' h0_wrongAt' f_h0_tape' o_u_h0_at' o_u_h0_from' o_u_h0_wrong' o_u_h0_wrongAt') (r : RC B h0_size'.toInt h0_at.toInt h0_tokenEnd.toInt h0_fault.toInt h0_place.toInt h0_at'.toInt h0_wrong'.toInt h0_wrongAt'.toInt) : RC B h0_size'.toInt o_u_h0_at.toInt o_u_h0_tokenEnd.toInt o_u_h0_fault.toInt o_u_h0_place.toInt o_u_h0_at'.toInt o_u_h0_wrong'.toInt o_u_h0_wrongAt'.toInt ∧ (o_u_h0_fault.toInt = 0 → h0_fault.toInt = 0 ∧ o_u_h0_tokenStart.toInt = o_u_h0_from'.toInt ∧ isWd B o_u_h0_tokenStart.toInt o_u_h0_at.toInt ∧ o_u_h0_tokenStart.toInt < o_u_h0_at.toInt ∧ 0 ≤ o_u_h0_tokenStart.toInt) := by
  have k := c_word h c
  have k' := m_word h' d
  obtain ⟨r1, r2, r3⟩ := r
  by_cases q : h0_fault.toInt = 0
  · obtain ⟨a1, a2, a3, a4⟩ := r3 q
    rcases k' with k' | ⟨w0, sk', rest⟩
    · exfalso; omega
    · have es := isSk.uq k.1 (by rw [a1]; exact sk')
      have ad := adj a4 a2 k.1
      have wd := k.2.1
      have ws := wd.st
      have k4 := k.2.2.2
      have ke := k.2.2.1
      have eF := xie es
      subst eF
      rcases rest with ⟨n1, n2, n3⟩ | ⟨n1, n2, n3, n4⟩ | ⟨n1, n2, n3, n4, n5⟩
      · exact ⟨⟨by omega, by omega, fun z => by omega⟩, fun z => by omega⟩
      · have n2' : alB B (o_u_h0_tokenStart.toInt - 1) := n2
        have z := ad.mpr n2'
        exact ⟨⟨by omega, by omega, fun z => by omega⟩, fun z => by omega⟩
      · have n2' : ¬ alB B (o_u_h0_tokenStart.toInt - 1) := n2
        have z : ¬ o_u_h0_tokenStart.toInt = h0_tokenEnd.toInt := fun z => n2' (ad.mp z)
        have ew := wd.uq n3
        have lt : o_u_h0_tokenStart.toInt < o_u_h0_at.toInt := by omega
        have al := wd.al lt
        have bl := d.1.le al
        have k0 := k.1.1
        exact ⟨⟨by omega, by omega, fun _ => ⟨ew, by omega, by omega, .inl ⟨ke, al⟩⟩⟩, fun _ => ⟨q, rfl, wd, lt, by omega⟩⟩
  · have k4 := k.2.2.2
    rcases k' with k' | ⟨w0, _⟩
    · exact ⟨⟨by omega, by omega, fun z => by omega⟩, fun z => by omega⟩
    · exfalso; omega
theorem pw_kw_0 {B : Int → Int}  {h0_at : Int32} {h0_tokenEnd : Int32} {h0_fault : Int32} {h0_place : Int32} {h0_tape_length : Int32} {f_h0_tape_bytes : (Nat → Int32)} {o_u_h0_at : Int32} {o_u_h0_tokenStart : Int32} {o_u_h0_tokenEnd : Int32} {o_u_h0_fault : Int32} {o_u_h0_place : Int32} {x1' : Int32} {h0_size' : Int32} {h0_at' : Int32} {h0_from' : Int32} {h0_wrong' : Int32} {h0_wrongAt' : Int32} {f_h0_tape' : (Nat → Int32)} {f_h0_ownLetters' : (Nat → Int32)} {o_u_h0_at' : Int32} {o_u_h0_from' : Int32} {o_u_h0_wrong' : Int32} {o_u_h0_wrongAt' : Int32} (c : cTB f_h0_tape_bytes h0_tape_length B) (d : rTB f_h0_tape' h0_size' B) (h : S_R_keyword_0 h0_at h0_tokenEnd h0_fault h0_place h0_tape_length f_h0_tape_bytes o_u_h0_at o_u_h0_tokenStart o_u_h0_tokenEnd o_u_h0_fault o_u_h0_place) (h' : S_M_must x1' h0_size' h0_at' h0_from' h0_wrong' h0_wrongAt' f_h0_tape' f_h0_ownLetters' o_u_h0_at' o_u_h0_from' o_u_h0_wrong' o_u_h0_wrongAt') (r : RC B h0_size'.toInt h0_at.toInt h0_tokenEnd.toInt h0_fault.toInt h0_place.toInt h0_at'.toInt h0_wrong'.toInt h0_wrongAt'.toInt) (ho : pOwn f_h0_ownLetters') (hx : x1'.toInt = 0) : RC B h0_size'.toInt o_u_h0_at.toInt o_u_h0_tokenEnd.toInt o_u_h0_fault.toInt o_u_h0_place.toInt o_u_h0_at'.toInt o_u_h0_wrong'.toInt o_u_h0_wrongAt'.toInt ∧ (o_u_h0_fault.toInt = 0 → h0_fault.toInt = 0) := by
  rcases h with ⟨v3, v4, v5, v6, v7, r14, p0, p1, p2, p3, p4, p5, p6, p7, p8, e0, e1, e2, e3, e4⟩ | ⟨v3, v4, v5, v6, v7, r14, v20, v21, p0, p1, p2, p3, p4, p5, p6, p7, p8, p9, p10, p11, e0, e1, e2, e3, e4⟩ | h
  · skip
    rcases h' with ⟨v3', v4', v5', v6', r14', q0, q1, q2, q3, q4, q5, q6, q7, q8, q9, q10, g0, g1, g2, g3⟩ | ⟨v3', v4', v5', v6', r14', r19', q0, q1, q2, q3, q4, q5, q6, q7, q8, q9, q10, q11, q12, g0, g1, g2, g3⟩ | ⟨v3', v4', v5', v6', r14', r19', v24', v25', q0, q1, q2, q3, q4, q5, q6, q7, q8, q9, q10, q11, q12, q13, q14, q15, g0, g1, g2, g3⟩ | h'
    · have e1_ : (1 : Int32).toInt = 1 := by decide
      have po := pw_word c d p5 q6 r
      obtain ⟨⟨s1, s2, s3⟩, s4⟩ := po
      have wI := c_wI_0 p7 c
      have gw := m_goesWell q9
      have xe0 := xie e0
      subst xe0
      have xe1 := xie e1
      subst xe1
      have xe2 := xie e2
      subst xe2
      have xe3 := xie e3
      subst xe3
      have xe4 := xie e4
      subst xe4
      have xg0 := xie g0
      subst xg0
      have xg1 := xie g1
      subst xg1
      have xg2 := xie g2
      subst xg2
      have xg3 := xie g3
      subst xg3
      exact ⟨⟨by omega, by omega, fun z => by omega⟩, fun z => by omega⟩
    · have e1_ : (1 : Int32).toInt = 1 := by decide
      have po := pw_word c d p5 q6 r
      obtain ⟨⟨s1, s2, s3⟩, s4⟩ := po
      have wI := c_wI_0 p7 c
      have gw := m_goesWell q9
      have xe0 := xie e0
      subst xe0
      have xe1 := xie e1
      subst xe1
      have xe2 := xie e2
      subst xe2
      have xe3 := xie e3
      subst xe3
      have xe4 := xie e4
      subst xe4
      have xg0 := xie g0
      subst xg0
      have xg1 := xie g1
      subst xg1
      have xg2 := xie g2
      subst xg2
      have xg3 := xie g3
      subst xg3
      have s5 := s3 (by omega)
      have s6 := s4 (by omega)
      have ow := m_own q11 d ho ⟨by omega, by omega, by omega⟩
      rw [← s5.1, ← s6.2.1] at ow
      clear ow wI
      exact ⟨⟨by omega, by omega, fun z => s3 (by omega)⟩, fun z => s6.1⟩
    · have e1_ : (1 : Int32).toInt = 1 := by decide
      have po := pw_word c d p5 q6 r
      obtain ⟨⟨s1, s2, s3⟩, s4⟩ := po
      have wI := c_wI_0 p7 c
      have gw := m_goesWell q9
      have xe0 := xie e0
      subst xe0
      have xe1 := xie e1
      subst xe1
      have xe2 := xie e2
      subst xe2
      have xe3 := xie e3
      subst xe3
      have xe4 := xie e4
      subst xe4
      have xg0 := xie g0
      subst xg0
      have xg1 := xie g1
      subst xg1
      have xg2 := xie g2
      subst xg2
      have xg3 := xie g3
      subst xg3
      have mf := m_faults q15
      have s5 := s3 (by omega)
      have s6 := s4 (by omega)
      have ow := m_own q11 d ho ⟨by omega, by omega, by omega⟩
      rw [← s5.1, ← s6.2.1] at ow
      exfalso
      rcases wI with ⟨w1, w2⟩ | ⟨w1, w2⟩
      · rw [ow_0] at w2
        rcases ow with ⟨n, o1, o2, o3⟩ | ⟨o1, o2⟩
        · have := o3.uq w2 o1 (by decide); omega
        · exact o2 _ (by decide) w2
      · omega
    · exact h'.elim
  · skip
    rcases h' with ⟨v3', v4', v5', v6', r14', q0, q1, q2, q3, q4, q5, q6, q7, q8, q9, q10, g0, g1, g2, g3⟩ | ⟨v3', v4', v5', v6', r14', r19', q0, q1, q2, q3, q4, q5, q6, q7, q8, q9, q10, q11, q12, g0, g1, g2, g3⟩ | ⟨v3', v4', v5', v6', r14', r19', v24', v25', q0, q1, q2, q3, q4, q5, q6, q7, q8, q9, q10, q11, q12, q13, q14, q15, g0, g1, g2, g3⟩ | h'
    · have e1_ : (1 : Int32).toInt = 1 := by decide
      have po := pw_word c d p5 q6 r
      obtain ⟨⟨s1, s2, s3⟩, s4⟩ := po
      have wI := c_wI_0 p7 c
      have gw := m_goesWell q9
      have xe0 := xie e0
      subst xe0
      have xe1 := xie e1
      subst xe1
      have xe2 := xie e2
      subst xe2
      have xe3 := xie e3
      subst xe3
      have xe4 := xie e4
      subst xe4
      have xg0 := xie g0
      subst xg0
      have xg1 := xie g1
      subst xg1
      have xg2 := xie g2
      subst xg2
      have xg3 := xie g3
      subst xg3
      have kf := c_fail p11
      exact ⟨⟨by omega, by omega, fun z => by omega⟩, fun z => by omega⟩
    · have e1_ : (1 : Int32).toInt = 1 := by decide
      have po := pw_word c d p5 q6 r
      obtain ⟨⟨s1, s2, s3⟩, s4⟩ := po
      have wI := c_wI_0 p7 c
      have gw := m_goesWell q9
      have xe0 := xie e0
      subst xe0
      have xe1 := xie e1
      subst xe1
      have xe2 := xie e2
      subst xe2
      have xe3 := xie e3
      subst xe3
      have xe4 := xie e4
      subst xe4
      have xg0 := xie g0
      subst xg0
      have xg1 := xie g1
      subst xg1
      have xg2 := xie g2
      subst xg2
      have xg3 := xie g3
      subst xg3
      have kf := c_fail p11
      have s5 := s3 (by omega)
      have s6 := s4 (by omega)
      have ow := m_own q11 d ho ⟨by omega, by omega, by omega⟩
      rw [← s5.1, ← s6.2.1] at ow
      exfalso
      rcases wI with ⟨w1, w2⟩ | ⟨w1, w2⟩
      · omega
      · rw [ow_0] at w2
        rcases ow with ⟨n, o1, o2, o3⟩ | ⟨o1, o2⟩
        · exact w2 (by rw [show 0 = n by omega]; exact o3)
        · omega
    · have e1_ : (1 : Int32).toInt = 1 := by decide
      have po := pw_word c d p5 q6 r
      obtain ⟨⟨s1, s2, s3⟩, s4⟩ := po
      have wI := c_wI_0 p7 c
      have gw := m_goesWell q9
      have xe0 := xie e0
      subst xe0
      have xe1 := xie e1
      subst xe1
      have xe2 := xie e2
      subst xe2
      have xe3 := xie e3
      subst xe3
      have xe4 := xie e4
      subst xe4
      have xg0 := xie g0
      subst xg0
      have xg1 := xie g1
      subst xg1
      have xg2 := xie g2
      subst xg2
      have xg3 := xie g3
      subst xg3
      have kf := c_fail p11
      have mf := m_faults q15
      have s5 := s3 (by omega)
      have s6 := s4 (by omega)
      have ow := m_own q11 d ho ⟨by omega, by omega, by omega⟩
      rw [← s5.1, ← s6.2.1] at ow
      clear ow wI
      exact ⟨⟨by omega, by omega, fun z => by omega⟩, fun z => by omega⟩
    · exact h'.elim
  · exact h.elim
theorem pw_kw_1 {B : Int → Int}  {h0_at : Int32} {h0_tokenEnd : Int32} {h0_fault : Int32} {h0_place : Int32} {h0_tape_length : Int32} {f_h0_tape_bytes : (Nat → Int32)} {o_u_h0_at : Int32} {o_u_h0_tokenStart : Int32} {o_u_h0_tokenEnd : Int32} {o_u_h0_fault : Int32} {o_u_h0_place : Int32} {x1' : Int32} {h0_size' : Int32} {h0_at' : Int32} {h0_from' : Int32} {h0_wrong' : Int32} {h0_wrongAt' : Int32} {f_h0_tape' : (Nat → Int32)} {f_h0_ownLetters' : (Nat → Int32)} {o_u_h0_at' : Int32} {o_u_h0_from' : Int32} {o_u_h0_wrong' : Int32} {o_u_h0_wrongAt' : Int32} (c : cTB f_h0_tape_bytes h0_tape_length B) (d : rTB f_h0_tape' h0_size' B) (h : S_R_keyword_1 h0_at h0_tokenEnd h0_fault h0_place h0_tape_length f_h0_tape_bytes o_u_h0_at o_u_h0_tokenStart o_u_h0_tokenEnd o_u_h0_fault o_u_h0_place) (h' : S_M_must x1' h0_size' h0_at' h0_from' h0_wrong' h0_wrongAt' f_h0_tape' f_h0_ownLetters' o_u_h0_at' o_u_h0_from' o_u_h0_wrong' o_u_h0_wrongAt') (r : RC B h0_size'.toInt h0_at.toInt h0_tokenEnd.toInt h0_fault.toInt h0_place.toInt h0_at'.toInt h0_wrong'.toInt h0_wrongAt'.toInt) (ho : pOwn f_h0_ownLetters') (hx : x1'.toInt = 1) : RC B h0_size'.toInt o_u_h0_at.toInt o_u_h0_tokenEnd.toInt o_u_h0_fault.toInt o_u_h0_place.toInt o_u_h0_at'.toInt o_u_h0_wrong'.toInt o_u_h0_wrongAt'.toInt ∧ (o_u_h0_fault.toInt = 0 → h0_fault.toInt = 0) := by
  rcases h with ⟨v3, v4, v5, v6, v7, r14, p0, p1, p2, p3, p4, p5, p6, p7, p8, e0, e1, e2, e3, e4⟩ | ⟨v3, v4, v5, v6, v7, r14, v20, v21, p0, p1, p2, p3, p4, p5, p6, p7, p8, p9, p10, p11, e0, e1, e2, e3, e4⟩ | h
  · skip
    rcases h' with ⟨v3', v4', v5', v6', r14', q0, q1, q2, q3, q4, q5, q6, q7, q8, q9, q10, g0, g1, g2, g3⟩ | ⟨v3', v4', v5', v6', r14', r19', q0, q1, q2, q3, q4, q5, q6, q7, q8, q9, q10, q11, q12, g0, g1, g2, g3⟩ | ⟨v3', v4', v5', v6', r14', r19', v24', v25', q0, q1, q2, q3, q4, q5, q6, q7, q8, q9, q10, q11, q12, q13, q14, q15, g0, g1, g2, g3⟩ | h'
    · have e1_ : (1 : Int32).toInt = 1 := by decide
      have po := pw_word c d p5 q6 r
      obtain ⟨⟨s1, s2, s3⟩, s4⟩ := po
      have wI := c_wI_1 p7 c
      have gw := m_goesWell q9
      have xe0 := xie e0
      subst xe0
      have xe1 := xie e1
      subst xe1
      have xe2 := xie e2
      subst xe2
      have xe3 := xie e3
      subst xe3
      have xe4 := xie e4
      subst xe4
      have xg0 := xie g0
      subst xg0
      have xg1 := xie g1
      subst xg1
      have xg2 := xie g2
      subst xg2
      have xg3 := xie g3
      subst xg3
      exact ⟨⟨by omega, by omega, fun z => by omega⟩, fun z => by omega⟩
    · have e1_ : (1 : Int32).toInt = 1 := by decide
      have po := pw_word c d p5 q6 r
      obtain ⟨⟨s1, s2, s3⟩, s4⟩ := po
      have wI := c_wI_1 p7 c
      have gw := m_goesWell q9
      have xe0 := xie e0
      subst xe0
      have xe1 := xie e1
      subst xe1
      have xe2 := xie e2
      subst xe2
      have xe3 := xie e3
      subst xe3
      have xe4 := xie e4
      subst xe4
      have xg0 := xie g0
      subst xg0
      have xg1 := xie g1
      subst xg1
      have xg2 := xie g2
      subst xg2
      have xg3 := xie g3
      subst xg3
      have s5 := s3 (by omega)
      have s6 := s4 (by omega)
      have ow := m_own q11 d ho ⟨by omega, by omega, by omega⟩
      rw [← s5.1, ← s6.2.1] at ow
      clear ow wI
      exact ⟨⟨by omega, by omega, fun z => s3 (by omega)⟩, fun z => s6.1⟩
    · have e1_ : (1 : Int32).toInt = 1 := by decide
      have po := pw_word c d p5 q6 r
      obtain ⟨⟨s1, s2, s3⟩, s4⟩ := po
      have wI := c_wI_1 p7 c
      have gw := m_goesWell q9
      have xe0 := xie e0
      subst xe0
      have xe1 := xie e1
      subst xe1
      have xe2 := xie e2
      subst xe2
      have xe3 := xie e3
      subst xe3
      have xe4 := xie e4
      subst xe4
      have xg0 := xie g0
      subst xg0
      have xg1 := xie g1
      subst xg1
      have xg2 := xie g2
      subst xg2
      have xg3 := xie g3
      subst xg3
      have mf := m_faults q15
      have s5 := s3 (by omega)
      have s6 := s4 (by omega)
      have ow := m_own q11 d ho ⟨by omega, by omega, by omega⟩
      rw [← s5.1, ← s6.2.1] at ow
      exfalso
      rcases wI with ⟨w1, w2⟩ | ⟨w1, w2⟩
      · rw [ow_1] at w2
        rcases ow with ⟨n, o1, o2, o3⟩ | ⟨o1, o2⟩
        · have := o3.uq w2 o1 (by decide); omega
        · exact o2 _ (by decide) w2
      · omega
    · exact h'.elim
  · skip
    rcases h' with ⟨v3', v4', v5', v6', r14', q0, q1, q2, q3, q4, q5, q6, q7, q8, q9, q10, g0, g1, g2, g3⟩ | ⟨v3', v4', v5', v6', r14', r19', q0, q1, q2, q3, q4, q5, q6, q7, q8, q9, q10, q11, q12, g0, g1, g2, g3⟩ | ⟨v3', v4', v5', v6', r14', r19', v24', v25', q0, q1, q2, q3, q4, q5, q6, q7, q8, q9, q10, q11, q12, q13, q14, q15, g0, g1, g2, g3⟩ | h'
    · have e1_ : (1 : Int32).toInt = 1 := by decide
      have po := pw_word c d p5 q6 r
      obtain ⟨⟨s1, s2, s3⟩, s4⟩ := po
      have wI := c_wI_1 p7 c
      have gw := m_goesWell q9
      have xe0 := xie e0
      subst xe0
      have xe1 := xie e1
      subst xe1
      have xe2 := xie e2
      subst xe2
      have xe3 := xie e3
      subst xe3
      have xe4 := xie e4
      subst xe4
      have xg0 := xie g0
      subst xg0
      have xg1 := xie g1
      subst xg1
      have xg2 := xie g2
      subst xg2
      have xg3 := xie g3
      subst xg3
      have kf := c_fail p11
      exact ⟨⟨by omega, by omega, fun z => by omega⟩, fun z => by omega⟩
    · have e1_ : (1 : Int32).toInt = 1 := by decide
      have po := pw_word c d p5 q6 r
      obtain ⟨⟨s1, s2, s3⟩, s4⟩ := po
      have wI := c_wI_1 p7 c
      have gw := m_goesWell q9
      have xe0 := xie e0
      subst xe0
      have xe1 := xie e1
      subst xe1
      have xe2 := xie e2
      subst xe2
      have xe3 := xie e3
      subst xe3
      have xe4 := xie e4
      subst xe4
      have xg0 := xie g0
      subst xg0
      have xg1 := xie g1
      subst xg1
      have xg2 := xie g2
      subst xg2
      have xg3 := xie g3
      subst xg3
      have kf := c_fail p11
      have s5 := s3 (by omega)
      have s6 := s4 (by omega)
      have ow := m_own q11 d ho ⟨by omega, by omega, by omega⟩
      rw [← s5.1, ← s6.2.1] at ow
      exfalso
      rcases wI with ⟨w1, w2⟩ | ⟨w1, w2⟩
      · omega
      · rw [ow_1] at w2
        rcases ow with ⟨n, o1, o2, o3⟩ | ⟨o1, o2⟩
        · exact w2 (by rw [show 1 = n by omega]; exact o3)
        · omega
    · have e1_ : (1 : Int32).toInt = 1 := by decide
      have po := pw_word c d p5 q6 r
      obtain ⟨⟨s1, s2, s3⟩, s4⟩ := po
      have wI := c_wI_1 p7 c
      have gw := m_goesWell q9
      have xe0 := xie e0
      subst xe0
      have xe1 := xie e1
      subst xe1
      have xe2 := xie e2
      subst xe2
      have xe3 := xie e3
      subst xe3
      have xe4 := xie e4
      subst xe4
      have xg0 := xie g0
      subst xg0
      have xg1 := xie g1
      subst xg1
      have xg2 := xie g2
      subst xg2
      have xg3 := xie g3
      subst xg3
      have kf := c_fail p11
      have mf := m_faults q15
      have s5 := s3 (by omega)
      have s6 := s4 (by omega)
      have ow := m_own q11 d ho ⟨by omega, by omega, by omega⟩
      rw [← s5.1, ← s6.2.1] at ow
      clear ow wI
      exact ⟨⟨by omega, by omega, fun z => by omega⟩, fun z => by omega⟩
    · exact h'.elim
  · exact h.elim
theorem pw_kw_2 {B : Int → Int}  {h0_at : Int32} {h0_tokenEnd : Int32} {h0_fault : Int32} {h0_place : Int32} {h0_tape_length : Int32} {f_h0_tape_bytes : (Nat → Int32)} {o_u_h0_at : Int32} {o_u_h0_tokenStart : Int32} {o_u_h0_tokenEnd : Int32} {o_u_h0_fault : Int32} {o_u_h0_place : Int32} {x1' : Int32} {h0_size' : Int32} {h0_at' : Int32} {h0_from' : Int32} {h0_wrong' : Int32} {h0_wrongAt' : Int32} {f_h0_tape' : (Nat → Int32)} {f_h0_ownLetters' : (Nat → Int32)} {o_u_h0_at' : Int32} {o_u_h0_from' : Int32} {o_u_h0_wrong' : Int32} {o_u_h0_wrongAt' : Int32} (c : cTB f_h0_tape_bytes h0_tape_length B) (d : rTB f_h0_tape' h0_size' B) (h : S_R_keyword_2 h0_at h0_tokenEnd h0_fault h0_place h0_tape_length f_h0_tape_bytes o_u_h0_at o_u_h0_tokenStart o_u_h0_tokenEnd o_u_h0_fault o_u_h0_place) (h' : S_M_must x1' h0_size' h0_at' h0_from' h0_wrong' h0_wrongAt' f_h0_tape' f_h0_ownLetters' o_u_h0_at' o_u_h0_from' o_u_h0_wrong' o_u_h0_wrongAt') (r : RC B h0_size'.toInt h0_at.toInt h0_tokenEnd.toInt h0_fault.toInt h0_place.toInt h0_at'.toInt h0_wrong'.toInt h0_wrongAt'.toInt) (ho : pOwn f_h0_ownLetters') (hx : x1'.toInt = 2) : RC B h0_size'.toInt o_u_h0_at.toInt o_u_h0_tokenEnd.toInt o_u_h0_fault.toInt o_u_h0_place.toInt o_u_h0_at'.toInt o_u_h0_wrong'.toInt o_u_h0_wrongAt'.toInt ∧ (o_u_h0_fault.toInt = 0 → h0_fault.toInt = 0) := by
  rcases h with ⟨v3, v4, v5, v6, v7, r14, p0, p1, p2, p3, p4, p5, p6, p7, p8, e0, e1, e2, e3, e4⟩ | ⟨v3, v4, v5, v6, v7, r14, v20, v21, p0, p1, p2, p3, p4, p5, p6, p7, p8, p9, p10, p11, e0, e1, e2, e3, e4⟩ | h
  · skip
    rcases h' with ⟨v3', v4', v5', v6', r14', q0, q1, q2, q3, q4, q5, q6, q7, q8, q9, q10, g0, g1, g2, g3⟩ | ⟨v3', v4', v5', v6', r14', r19', q0, q1, q2, q3, q4, q5, q6, q7, q8, q9, q10, q11, q12, g0, g1, g2, g3⟩ | ⟨v3', v4', v5', v6', r14', r19', v24', v25', q0, q1, q2, q3, q4, q5, q6, q7, q8, q9, q10, q11, q12, q13, q14, q15, g0, g1, g2, g3⟩ | h'
    · have e1_ : (1 : Int32).toInt = 1 := by decide
      have po := pw_word c d p5 q6 r
      obtain ⟨⟨s1, s2, s3⟩, s4⟩ := po
      have wI := c_wI_2 p7 c
      have gw := m_goesWell q9
      have xe0 := xie e0
      subst xe0
      have xe1 := xie e1
      subst xe1
      have xe2 := xie e2
      subst xe2
      have xe3 := xie e3
      subst xe3
      have xe4 := xie e4
      subst xe4
      have xg0 := xie g0
      subst xg0
      have xg1 := xie g1
      subst xg1
      have xg2 := xie g2
      subst xg2
      have xg3 := xie g3
      subst xg3
      exact ⟨⟨by omega, by omega, fun z => by omega⟩, fun z => by omega⟩
    · have e1_ : (1 : Int32).toInt = 1 := by decide
      have po := pw_word c d p5 q6 r
      obtain ⟨⟨s1, s2, s3⟩, s4⟩ := po
      have wI := c_wI_2 p7 c
      have gw := m_goesWell q9
      have xe0 := xie e0
      subst xe0
      have xe1 := xie e1
      subst xe1
      have xe2 := xie e2
      subst xe2
      have xe3 := xie e3
      subst xe3
      have xe4 := xie e4
      subst xe4
      have xg0 := xie g0
      subst xg0
      have xg1 := xie g1
      subst xg1
      have xg2 := xie g2
      subst xg2
      have xg3 := xie g3
      subst xg3
      have s5 := s3 (by omega)
      have s6 := s4 (by omega)
      have ow := m_own q11 d ho ⟨by omega, by omega, by omega⟩
      rw [← s5.1, ← s6.2.1] at ow
      clear ow wI
      exact ⟨⟨by omega, by omega, fun z => s3 (by omega)⟩, fun z => s6.1⟩
    · have e1_ : (1 : Int32).toInt = 1 := by decide
      have po := pw_word c d p5 q6 r
      obtain ⟨⟨s1, s2, s3⟩, s4⟩ := po
      have wI := c_wI_2 p7 c
      have gw := m_goesWell q9
      have xe0 := xie e0
      subst xe0
      have xe1 := xie e1
      subst xe1
      have xe2 := xie e2
      subst xe2
      have xe3 := xie e3
      subst xe3
      have xe4 := xie e4
      subst xe4
      have xg0 := xie g0
      subst xg0
      have xg1 := xie g1
      subst xg1
      have xg2 := xie g2
      subst xg2
      have xg3 := xie g3
      subst xg3
      have mf := m_faults q15
      have s5 := s3 (by omega)
      have s6 := s4 (by omega)
      have ow := m_own q11 d ho ⟨by omega, by omega, by omega⟩
      rw [← s5.1, ← s6.2.1] at ow
      exfalso
      rcases wI with ⟨w1, w2⟩ | ⟨w1, w2⟩
      · rw [ow_2] at w2
        rcases ow with ⟨n, o1, o2, o3⟩ | ⟨o1, o2⟩
        · have := o3.uq w2 o1 (by decide); omega
        · exact o2 _ (by decide) w2
      · omega
    · exact h'.elim
  · skip
    rcases h' with ⟨v3', v4', v5', v6', r14', q0, q1, q2, q3, q4, q5, q6, q7, q8, q9, q10, g0, g1, g2, g3⟩ | ⟨v3', v4', v5', v6', r14', r19', q0, q1, q2, q3, q4, q5, q6, q7, q8, q9, q10, q11, q12, g0, g1, g2, g3⟩ | ⟨v3', v4', v5', v6', r14', r19', v24', v25', q0, q1, q2, q3, q4, q5, q6, q7, q8, q9, q10, q11, q12, q13, q14, q15, g0, g1, g2, g3⟩ | h'
    · have e1_ : (1 : Int32).toInt = 1 := by decide
      have po := pw_word c d p5 q6 r
      obtain ⟨⟨s1, s2, s3⟩, s4⟩ := po
      have wI := c_wI_2 p7 c
      have gw := m_goesWell q9
      have xe0 := xie e0
      subst xe0
      have xe1 := xie e1
      subst xe1
      have xe2 := xie e2
      subst xe2
      have xe3 := xie e3
      subst xe3
      have xe4 := xie e4
      subst xe4
      have xg0 := xie g0
      subst xg0
      have xg1 := xie g1
      subst xg1
      have xg2 := xie g2
      subst xg2
      have xg3 := xie g3
      subst xg3
      have kf := c_fail p11
      exact ⟨⟨by omega, by omega, fun z => by omega⟩, fun z => by omega⟩
    · have e1_ : (1 : Int32).toInt = 1 := by decide
      have po := pw_word c d p5 q6 r
      obtain ⟨⟨s1, s2, s3⟩, s4⟩ := po
      have wI := c_wI_2 p7 c
      have gw := m_goesWell q9
      have xe0 := xie e0
      subst xe0
      have xe1 := xie e1
      subst xe1
      have xe2 := xie e2
      subst xe2
      have xe3 := xie e3
      subst xe3
      have xe4 := xie e4
      subst xe4
      have xg0 := xie g0
      subst xg0
      have xg1 := xie g1
      subst xg1
      have xg2 := xie g2
      subst xg2
      have xg3 := xie g3
      subst xg3
      have kf := c_fail p11
      have s5 := s3 (by omega)
      have s6 := s4 (by omega)
      have ow := m_own q11 d ho ⟨by omega, by omega, by omega⟩
      rw [← s5.1, ← s6.2.1] at ow
      exfalso
      rcases wI with ⟨w1, w2⟩ | ⟨w1, w2⟩
      · omega
      · rw [ow_2] at w2
        rcases ow with ⟨n, o1, o2, o3⟩ | ⟨o1, o2⟩
        · exact w2 (by rw [show 2 = n by omega]; exact o3)
        · omega
    · have e1_ : (1 : Int32).toInt = 1 := by decide
      have po := pw_word c d p5 q6 r
      obtain ⟨⟨s1, s2, s3⟩, s4⟩ := po
      have wI := c_wI_2 p7 c
      have gw := m_goesWell q9
      have xe0 := xie e0
      subst xe0
      have xe1 := xie e1
      subst xe1
      have xe2 := xie e2
      subst xe2
      have xe3 := xie e3
      subst xe3
      have xe4 := xie e4
      subst xe4
      have xg0 := xie g0
      subst xg0
      have xg1 := xie g1
      subst xg1
      have xg2 := xie g2
      subst xg2
      have xg3 := xie g3
      subst xg3
      have kf := c_fail p11
      have mf := m_faults q15
      have s5 := s3 (by omega)
      have s6 := s4 (by omega)
      have ow := m_own q11 d ho ⟨by omega, by omega, by omega⟩
      rw [← s5.1, ← s6.2.1] at ow
      clear ow wI
      exact ⟨⟨by omega, by omega, fun z => by omega⟩, fun z => by omega⟩
    · exact h'.elim
  · exact h.elim
theorem pw_kw_8 {B : Int → Int}  {h0_at : Int32} {h0_tokenEnd : Int32} {h0_fault : Int32} {h0_place : Int32} {h0_tape_length : Int32} {f_h0_tape_bytes : (Nat → Int32)} {o_u_h0_at : Int32} {o_u_h0_tokenStart : Int32} {o_u_h0_tokenEnd : Int32} {o_u_h0_fault : Int32} {o_u_h0_place : Int32} {x1' : Int32} {h0_size' : Int32} {h0_at' : Int32} {h0_from' : Int32} {h0_wrong' : Int32} {h0_wrongAt' : Int32} {f_h0_tape' : (Nat → Int32)} {f_h0_ownLetters' : (Nat → Int32)} {o_u_h0_at' : Int32} {o_u_h0_from' : Int32} {o_u_h0_wrong' : Int32} {o_u_h0_wrongAt' : Int32} (c : cTB f_h0_tape_bytes h0_tape_length B) (d : rTB f_h0_tape' h0_size' B) (h : S_R_keyword_8 h0_at h0_tokenEnd h0_fault h0_place h0_tape_length f_h0_tape_bytes o_u_h0_at o_u_h0_tokenStart o_u_h0_tokenEnd o_u_h0_fault o_u_h0_place) (h' : S_M_must x1' h0_size' h0_at' h0_from' h0_wrong' h0_wrongAt' f_h0_tape' f_h0_ownLetters' o_u_h0_at' o_u_h0_from' o_u_h0_wrong' o_u_h0_wrongAt') (r : RC B h0_size'.toInt h0_at.toInt h0_tokenEnd.toInt h0_fault.toInt h0_place.toInt h0_at'.toInt h0_wrong'.toInt h0_wrongAt'.toInt) (ho : pOwn f_h0_ownLetters') (hx : x1'.toInt = 7) : RC B h0_size'.toInt o_u_h0_at.toInt o_u_h0_tokenEnd.toInt o_u_h0_fault.toInt o_u_h0_place.toInt o_u_h0_at'.toInt o_u_h0_wrong'.toInt o_u_h0_wrongAt'.toInt ∧ (o_u_h0_fault.toInt = 0 → h0_fault.toInt = 0) := by
  rcases h with ⟨v3, v4, v5, v6, v7, r14, p0, p1, p2, p3, p4, p5, p6, p7, p8, e0, e1, e2, e3, e4⟩ | ⟨v3, v4, v5, v6, v7, r14, v20, v21, p0, p1, p2, p3, p4, p5, p6, p7, p8, p9, p10, p11, e0, e1, e2, e3, e4⟩ | h
  · skip
    rcases h' with ⟨v3', v4', v5', v6', r14', q0, q1, q2, q3, q4, q5, q6, q7, q8, q9, q10, g0, g1, g2, g3⟩ | ⟨v3', v4', v5', v6', r14', r19', q0, q1, q2, q3, q4, q5, q6, q7, q8, q9, q10, q11, q12, g0, g1, g2, g3⟩ | ⟨v3', v4', v5', v6', r14', r19', v24', v25', q0, q1, q2, q3, q4, q5, q6, q7, q8, q9, q10, q11, q12, q13, q14, q15, g0, g1, g2, g3⟩ | h'
    · have e1_ : (1 : Int32).toInt = 1 := by decide
      have po := pw_word c d p5 q6 r
      obtain ⟨⟨s1, s2, s3⟩, s4⟩ := po
      have wI := c_wI_8 p7 c
      have gw := m_goesWell q9
      have xe0 := xie e0
      subst xe0
      have xe1 := xie e1
      subst xe1
      have xe2 := xie e2
      subst xe2
      have xe3 := xie e3
      subst xe3
      have xe4 := xie e4
      subst xe4
      have xg0 := xie g0
      subst xg0
      have xg1 := xie g1
      subst xg1
      have xg2 := xie g2
      subst xg2
      have xg3 := xie g3
      subst xg3
      exact ⟨⟨by omega, by omega, fun z => by omega⟩, fun z => by omega⟩
    · have e1_ : (1 : Int32).toInt = 1 := by decide
      have po := pw_word c d p5 q6 r
      obtain ⟨⟨s1, s2, s3⟩, s4⟩ := po
      have wI := c_wI_8 p7 c
      have gw := m_goesWell q9
      have xe0 := xie e0
      subst xe0
      have xe1 := xie e1
      subst xe1
      have xe2 := xie e2
      subst xe2
      have xe3 := xie e3
      subst xe3
      have xe4 := xie e4
      subst xe4
      have xg0 := xie g0
      subst xg0
      have xg1 := xie g1
      subst xg1
      have xg2 := xie g2
      subst xg2
      have xg3 := xie g3
      subst xg3
      have s5 := s3 (by omega)
      have s6 := s4 (by omega)
      have ow := m_own q11 d ho ⟨by omega, by omega, by omega⟩
      rw [← s5.1, ← s6.2.1] at ow
      clear ow wI
      exact ⟨⟨by omega, by omega, fun z => s3 (by omega)⟩, fun z => s6.1⟩
    · have e1_ : (1 : Int32).toInt = 1 := by decide
      have po := pw_word c d p5 q6 r
      obtain ⟨⟨s1, s2, s3⟩, s4⟩ := po
      have wI := c_wI_8 p7 c
      have gw := m_goesWell q9
      have xe0 := xie e0
      subst xe0
      have xe1 := xie e1
      subst xe1
      have xe2 := xie e2
      subst xe2
      have xe3 := xie e3
      subst xe3
      have xe4 := xie e4
      subst xe4
      have xg0 := xie g0
      subst xg0
      have xg1 := xie g1
      subst xg1
      have xg2 := xie g2
      subst xg2
      have xg3 := xie g3
      subst xg3
      have mf := m_faults q15
      have s5 := s3 (by omega)
      have s6 := s4 (by omega)
      have ow := m_own q11 d ho ⟨by omega, by omega, by omega⟩
      rw [← s5.1, ← s6.2.1] at ow
      exfalso
      rcases wI with ⟨w1, w2⟩ | ⟨w1, w2⟩
      · rw [ow_8] at w2
        rcases ow with ⟨n, o1, o2, o3⟩ | ⟨o1, o2⟩
        · have := o3.uq w2 o1 (by decide); omega
        · exact o2 _ (by decide) w2
      · omega
    · exact h'.elim
  · skip
    rcases h' with ⟨v3', v4', v5', v6', r14', q0, q1, q2, q3, q4, q5, q6, q7, q8, q9, q10, g0, g1, g2, g3⟩ | ⟨v3', v4', v5', v6', r14', r19', q0, q1, q2, q3, q4, q5, q6, q7, q8, q9, q10, q11, q12, g0, g1, g2, g3⟩ | ⟨v3', v4', v5', v6', r14', r19', v24', v25', q0, q1, q2, q3, q4, q5, q6, q7, q8, q9, q10, q11, q12, q13, q14, q15, g0, g1, g2, g3⟩ | h'
    · have e1_ : (1 : Int32).toInt = 1 := by decide
      have po := pw_word c d p5 q6 r
      obtain ⟨⟨s1, s2, s3⟩, s4⟩ := po
      have wI := c_wI_8 p7 c
      have gw := m_goesWell q9
      have xe0 := xie e0
      subst xe0
      have xe1 := xie e1
      subst xe1
      have xe2 := xie e2
      subst xe2
      have xe3 := xie e3
      subst xe3
      have xe4 := xie e4
      subst xe4
      have xg0 := xie g0
      subst xg0
      have xg1 := xie g1
      subst xg1
      have xg2 := xie g2
      subst xg2
      have xg3 := xie g3
      subst xg3
      have kf := c_fail p11
      exact ⟨⟨by omega, by omega, fun z => by omega⟩, fun z => by omega⟩
    · have e1_ : (1 : Int32).toInt = 1 := by decide
      have po := pw_word c d p5 q6 r
      obtain ⟨⟨s1, s2, s3⟩, s4⟩ := po
      have wI := c_wI_8 p7 c
      have gw := m_goesWell q9
      have xe0 := xie e0
      subst xe0
      have xe1 := xie e1
      subst xe1
      have xe2 := xie e2
      subst xe2
      have xe3 := xie e3
      subst xe3
      have xe4 := xie e4
      subst xe4
      have xg0 := xie g0
      subst xg0
      have xg1 := xie g1
      subst xg1
      have xg2 := xie g2
      subst xg2
      have xg3 := xie g3
      subst xg3
      have kf := c_fail p11
      have s5 := s3 (by omega)
      have s6 := s4 (by omega)
      have ow := m_own q11 d ho ⟨by omega, by omega, by omega⟩
      rw [← s5.1, ← s6.2.1] at ow
      exfalso
      rcases wI with ⟨w1, w2⟩ | ⟨w1, w2⟩
      · omega
      · rw [ow_8] at w2
        rcases ow with ⟨n, o1, o2, o3⟩ | ⟨o1, o2⟩
        · exact w2 (by rw [show 7 = n by omega]; exact o3)
        · omega
    · have e1_ : (1 : Int32).toInt = 1 := by decide
      have po := pw_word c d p5 q6 r
      obtain ⟨⟨s1, s2, s3⟩, s4⟩ := po
      have wI := c_wI_8 p7 c
      have gw := m_goesWell q9
      have xe0 := xie e0
      subst xe0
      have xe1 := xie e1
      subst xe1
      have xe2 := xie e2
      subst xe2
      have xe3 := xie e3
      subst xe3
      have xe4 := xie e4
      subst xe4
      have xg0 := xie g0
      subst xg0
      have xg1 := xie g1
      subst xg1
      have xg2 := xie g2
      subst xg2
      have xg3 := xie g3
      subst xg3
      have kf := c_fail p11
      have mf := m_faults q15
      have s5 := s3 (by omega)
      have s6 := s4 (by omega)
      have ow := m_own q11 d ho ⟨by omega, by omega, by omega⟩
      rw [← s5.1, ← s6.2.1] at ow
      clear ow wI
      exact ⟨⟨by omega, by omega, fun z => by omega⟩, fun z => by omega⟩
    · exact h'.elim
  · exact h.elim
theorem pw_kw_13 {B : Int → Int}  {h0_at : Int32} {h0_tokenEnd : Int32} {h0_fault : Int32} {h0_place : Int32} {h0_tape_length : Int32} {f_h0_tape_bytes : (Nat → Int32)} {o_u_h0_at : Int32} {o_u_h0_tokenStart : Int32} {o_u_h0_tokenEnd : Int32} {o_u_h0_fault : Int32} {o_u_h0_place : Int32} {x1' : Int32} {h0_size' : Int32} {h0_at' : Int32} {h0_from' : Int32} {h0_wrong' : Int32} {h0_wrongAt' : Int32} {f_h0_tape' : (Nat → Int32)} {f_h0_ownLetters' : (Nat → Int32)} {o_u_h0_at' : Int32} {o_u_h0_from' : Int32} {o_u_h0_wrong' : Int32} {o_u_h0_wrongAt' : Int32} (c : cTB f_h0_tape_bytes h0_tape_length B) (d : rTB f_h0_tape' h0_size' B) (h : S_R_keyword_13 h0_at h0_tokenEnd h0_fault h0_place h0_tape_length f_h0_tape_bytes o_u_h0_at o_u_h0_tokenStart o_u_h0_tokenEnd o_u_h0_fault o_u_h0_place) (h' : S_M_must x1' h0_size' h0_at' h0_from' h0_wrong' h0_wrongAt' f_h0_tape' f_h0_ownLetters' o_u_h0_at' o_u_h0_from' o_u_h0_wrong' o_u_h0_wrongAt') (r : RC B h0_size'.toInt h0_at.toInt h0_tokenEnd.toInt h0_fault.toInt h0_place.toInt h0_at'.toInt h0_wrong'.toInt h0_wrongAt'.toInt) (ho : pOwn f_h0_ownLetters') (hx : x1'.toInt = 12) : RC B h0_size'.toInt o_u_h0_at.toInt o_u_h0_tokenEnd.toInt o_u_h0_fault.toInt o_u_h0_place.toInt o_u_h0_at'.toInt o_u_h0_wrong'.toInt o_u_h0_wrongAt'.toInt ∧ (o_u_h0_fault.toInt = 0 → h0_fault.toInt = 0) := by
  rcases h with ⟨v3, v4, v5, v6, v7, r14, p0, p1, p2, p3, p4, p5, p6, p7, p8, e0, e1, e2, e3, e4⟩ | ⟨v3, v4, v5, v6, v7, r14, v20, v21, p0, p1, p2, p3, p4, p5, p6, p7, p8, p9, p10, p11, e0, e1, e2, e3, e4⟩ | h
  · skip
    rcases h' with ⟨v3', v4', v5', v6', r14', q0, q1, q2, q3, q4, q5, q6, q7, q8, q9, q10, g0, g1, g2, g3⟩ | ⟨v3', v4', v5', v6', r14', r19', q0, q1, q2, q3, q4, q5, q6, q7, q8, q9, q10, q11, q12, g0, g1, g2, g3⟩ | ⟨v3', v4', v5', v6', r14', r19', v24', v25', q0, q1, q2, q3, q4, q5, q6, q7, q8, q9, q10, q11, q12, q13, q14, q15, g0, g1, g2, g3⟩ | h'
    · have e1_ : (1 : Int32).toInt = 1 := by decide
      have po := pw_word c d p5 q6 r
      obtain ⟨⟨s1, s2, s3⟩, s4⟩ := po
      have wI := c_wI_13 p7 c
      have gw := m_goesWell q9
      have xe0 := xie e0
      subst xe0
      have xe1 := xie e1
      subst xe1
      have xe2 := xie e2
      subst xe2
      have xe3 := xie e3
      subst xe3
      have xe4 := xie e4
      subst xe4
      have xg0 := xie g0
      subst xg0
      have xg1 := xie g1
      subst xg1
      have xg2 := xie g2
      subst xg2
      have xg3 := xie g3
      subst xg3
      exact ⟨⟨by omega, by omega, fun z => by omega⟩, fun z => by omega⟩
    · have e1_ : (1 : Int32).toInt = 1 := by decide
      have po := pw_word c d p5 q6 r
      obtain ⟨⟨s1, s2, s3⟩, s4⟩ := po
      have wI := c_wI_13 p7 c
      have gw := m_goesWell q9
      have xe0 := xie e0
      subst xe0
      have xe1 := xie e1
      subst xe1
      have xe2 := xie e2
      subst xe2
      have xe3 := xie e3
      subst xe3
      have xe4 := xie e4
      subst xe4
      have xg0 := xie g0
      subst xg0
      have xg1 := xie g1
      subst xg1
      have xg2 := xie g2
      subst xg2
      have xg3 := xie g3
      subst xg3
      have s5 := s3 (by omega)
      have s6 := s4 (by omega)
      have ow := m_own q11 d ho ⟨by omega, by omega, by omega⟩
      rw [← s5.1, ← s6.2.1] at ow
      clear ow wI
      exact ⟨⟨by omega, by omega, fun z => s3 (by omega)⟩, fun z => s6.1⟩
    · have e1_ : (1 : Int32).toInt = 1 := by decide
      have po := pw_word c d p5 q6 r
      obtain ⟨⟨s1, s2, s3⟩, s4⟩ := po
      have wI := c_wI_13 p7 c
      have gw := m_goesWell q9
      have xe0 := xie e0
      subst xe0
      have xe1 := xie e1
      subst xe1
      have xe2 := xie e2
      subst xe2
      have xe3 := xie e3
      subst xe3
      have xe4 := xie e4
      subst xe4
      have xg0 := xie g0
      subst xg0
      have xg1 := xie g1
      subst xg1
      have xg2 := xie g2
      subst xg2
      have xg3 := xie g3
      subst xg3
      have mf := m_faults q15
      have s5 := s3 (by omega)
      have s6 := s4 (by omega)
      have ow := m_own q11 d ho ⟨by omega, by omega, by omega⟩
      rw [← s5.1, ← s6.2.1] at ow
      exfalso
      rcases wI with ⟨w1, w2⟩ | ⟨w1, w2⟩
      · rw [ow_13] at w2
        rcases ow with ⟨n, o1, o2, o3⟩ | ⟨o1, o2⟩
        · have := o3.uq w2 o1 (by decide); omega
        · exact o2 _ (by decide) w2
      · omega
    · exact h'.elim
  · skip
    rcases h' with ⟨v3', v4', v5', v6', r14', q0, q1, q2, q3, q4, q5, q6, q7, q8, q9, q10, g0, g1, g2, g3⟩ | ⟨v3', v4', v5', v6', r14', r19', q0, q1, q2, q3, q4, q5, q6, q7, q8, q9, q10, q11, q12, g0, g1, g2, g3⟩ | ⟨v3', v4', v5', v6', r14', r19', v24', v25', q0, q1, q2, q3, q4, q5, q6, q7, q8, q9, q10, q11, q12, q13, q14, q15, g0, g1, g2, g3⟩ | h'
    · have e1_ : (1 : Int32).toInt = 1 := by decide
      have po := pw_word c d p5 q6 r
      obtain ⟨⟨s1, s2, s3⟩, s4⟩ := po
      have wI := c_wI_13 p7 c
      have gw := m_goesWell q9
      have xe0 := xie e0
      subst xe0
      have xe1 := xie e1
      subst xe1
      have xe2 := xie e2
      subst xe2
      have xe3 := xie e3
      subst xe3
      have xe4 := xie e4
      subst xe4
      have xg0 := xie g0
      subst xg0
      have xg1 := xie g1
      subst xg1
      have xg2 := xie g2
      subst xg2
      have xg3 := xie g3
      subst xg3
      have kf := c_fail p11
      exact ⟨⟨by omega, by omega, fun z => by omega⟩, fun z => by omega⟩
    · have e1_ : (1 : Int32).toInt = 1 := by decide
      have po := pw_word c d p5 q6 r
      obtain ⟨⟨s1, s2, s3⟩, s4⟩ := po
      have wI := c_wI_13 p7 c
      have gw := m_goesWell q9
      have xe0 := xie e0
      subst xe0
      have xe1 := xie e1
      subst xe1
      have xe2 := xie e2
      subst xe2
      have xe3 := xie e3
      subst xe3
      have xe4 := xie e4
      subst xe4
      have xg0 := xie g0
      subst xg0
      have xg1 := xie g1
      subst xg1
      have xg2 := xie g2
      subst xg2
      have xg3 := xie g3
      subst xg3
      have kf := c_fail p11
      have s5 := s3 (by omega)
      have s6 := s4 (by omega)
      have ow := m_own q11 d ho ⟨by omega, by omega, by omega⟩
      rw [← s5.1, ← s6.2.1] at ow
      exfalso
      rcases wI with ⟨w1, w2⟩ | ⟨w1, w2⟩
      · omega
      · rw [ow_13] at w2
        rcases ow with ⟨n, o1, o2, o3⟩ | ⟨o1, o2⟩
        · exact w2 (by rw [show 12 = n by omega]; exact o3)
        · omega
    · have e1_ : (1 : Int32).toInt = 1 := by decide
      have po := pw_word c d p5 q6 r
      obtain ⟨⟨s1, s2, s3⟩, s4⟩ := po
      have wI := c_wI_13 p7 c
      have gw := m_goesWell q9
      have xe0 := xie e0
      subst xe0
      have xe1 := xie e1
      subst xe1
      have xe2 := xie e2
      subst xe2
      have xe3 := xie e3
      subst xe3
      have xe4 := xie e4
      subst xe4
      have xg0 := xie g0
      subst xg0
      have xg1 := xie g1
      subst xg1
      have xg2 := xie g2
      subst xg2
      have xg3 := xie g3
      subst xg3
      have kf := c_fail p11
      have mf := m_faults q15
      have s5 := s3 (by omega)
      have s6 := s4 (by omega)
      have ow := m_own q11 d ho ⟨by omega, by omega, by omega⟩
      rw [← s5.1, ← s6.2.1] at ow
      clear ow wI
      exact ⟨⟨by omega, by omega, fun z => by omega⟩, fun z => by omega⟩
    · exact h'.elim
  · exact h.elim
theorem pw_kw_14 {B : Int → Int}  {h0_at : Int32} {h0_tokenEnd : Int32} {h0_fault : Int32} {h0_place : Int32} {h0_tape_length : Int32} {f_h0_tape_bytes : (Nat → Int32)} {o_u_h0_at : Int32} {o_u_h0_tokenStart : Int32} {o_u_h0_tokenEnd : Int32} {o_u_h0_fault : Int32} {o_u_h0_place : Int32} {x1' : Int32} {h0_size' : Int32} {h0_at' : Int32} {h0_from' : Int32} {h0_wrong' : Int32} {h0_wrongAt' : Int32} {f_h0_tape' : (Nat → Int32)} {f_h0_ownLetters' : (Nat → Int32)} {o_u_h0_at' : Int32} {o_u_h0_from' : Int32} {o_u_h0_wrong' : Int32} {o_u_h0_wrongAt' : Int32} (c : cTB f_h0_tape_bytes h0_tape_length B) (d : rTB f_h0_tape' h0_size' B) (h : S_R_keyword_14 h0_at h0_tokenEnd h0_fault h0_place h0_tape_length f_h0_tape_bytes o_u_h0_at o_u_h0_tokenStart o_u_h0_tokenEnd o_u_h0_fault o_u_h0_place) (h' : S_M_must x1' h0_size' h0_at' h0_from' h0_wrong' h0_wrongAt' f_h0_tape' f_h0_ownLetters' o_u_h0_at' o_u_h0_from' o_u_h0_wrong' o_u_h0_wrongAt') (r : RC B h0_size'.toInt h0_at.toInt h0_tokenEnd.toInt h0_fault.toInt h0_place.toInt h0_at'.toInt h0_wrong'.toInt h0_wrongAt'.toInt) (ho : pOwn f_h0_ownLetters') (hx : x1'.toInt = 13) : RC B h0_size'.toInt o_u_h0_at.toInt o_u_h0_tokenEnd.toInt o_u_h0_fault.toInt o_u_h0_place.toInt o_u_h0_at'.toInt o_u_h0_wrong'.toInt o_u_h0_wrongAt'.toInt ∧ (o_u_h0_fault.toInt = 0 → h0_fault.toInt = 0) := by
  rcases h with ⟨v3, v4, v5, v6, v7, r14, p0, p1, p2, p3, p4, p5, p6, p7, p8, e0, e1, e2, e3, e4⟩ | ⟨v3, v4, v5, v6, v7, r14, v20, v21, p0, p1, p2, p3, p4, p5, p6, p7, p8, p9, p10, p11, e0, e1, e2, e3, e4⟩ | h
  · skip
    rcases h' with ⟨v3', v4', v5', v6', r14', q0, q1, q2, q3, q4, q5, q6, q7, q8, q9, q10, g0, g1, g2, g3⟩ | ⟨v3', v4', v5', v6', r14', r19', q0, q1, q2, q3, q4, q5, q6, q7, q8, q9, q10, q11, q12, g0, g1, g2, g3⟩ | ⟨v3', v4', v5', v6', r14', r19', v24', v25', q0, q1, q2, q3, q4, q5, q6, q7, q8, q9, q10, q11, q12, q13, q14, q15, g0, g1, g2, g3⟩ | h'
    · have e1_ : (1 : Int32).toInt = 1 := by decide
      have po := pw_word c d p5 q6 r
      obtain ⟨⟨s1, s2, s3⟩, s4⟩ := po
      have wI := c_wI_14 p7 c
      have gw := m_goesWell q9
      have xe0 := xie e0
      subst xe0
      have xe1 := xie e1
      subst xe1
      have xe2 := xie e2
      subst xe2
      have xe3 := xie e3
      subst xe3
      have xe4 := xie e4
      subst xe4
      have xg0 := xie g0
      subst xg0
      have xg1 := xie g1
      subst xg1
      have xg2 := xie g2
      subst xg2
      have xg3 := xie g3
      subst xg3
      exact ⟨⟨by omega, by omega, fun z => by omega⟩, fun z => by omega⟩
    · have e1_ : (1 : Int32).toInt = 1 := by decide
      have po := pw_word c d p5 q6 r
      obtain ⟨⟨s1, s2, s3⟩, s4⟩ := po
      have wI := c_wI_14 p7 c
      have gw := m_goesWell q9
      have xe0 := xie e0
      subst xe0
      have xe1 := xie e1
      subst xe1
      have xe2 := xie e2
      subst xe2
      have xe3 := xie e3
      subst xe3
      have xe4 := xie e4
      subst xe4
      have xg0 := xie g0
      subst xg0
      have xg1 := xie g1
      subst xg1
      have xg2 := xie g2
      subst xg2
      have xg3 := xie g3
      subst xg3
      have s5 := s3 (by omega)
      have s6 := s4 (by omega)
      have ow := m_own q11 d ho ⟨by omega, by omega, by omega⟩
      rw [← s5.1, ← s6.2.1] at ow
      clear ow wI
      exact ⟨⟨by omega, by omega, fun z => s3 (by omega)⟩, fun z => s6.1⟩
    · have e1_ : (1 : Int32).toInt = 1 := by decide
      have po := pw_word c d p5 q6 r
      obtain ⟨⟨s1, s2, s3⟩, s4⟩ := po
      have wI := c_wI_14 p7 c
      have gw := m_goesWell q9
      have xe0 := xie e0
      subst xe0
      have xe1 := xie e1
      subst xe1
      have xe2 := xie e2
      subst xe2
      have xe3 := xie e3
      subst xe3
      have xe4 := xie e4
      subst xe4
      have xg0 := xie g0
      subst xg0
      have xg1 := xie g1
      subst xg1
      have xg2 := xie g2
      subst xg2
      have xg3 := xie g3
      subst xg3
      have mf := m_faults q15
      have s5 := s3 (by omega)
      have s6 := s4 (by omega)
      have ow := m_own q11 d ho ⟨by omega, by omega, by omega⟩
      rw [← s5.1, ← s6.2.1] at ow
      exfalso
      rcases wI with ⟨w1, w2⟩ | ⟨w1, w2⟩
      · rw [ow_14] at w2
        rcases ow with ⟨n, o1, o2, o3⟩ | ⟨o1, o2⟩
        · have := o3.uq w2 o1 (by decide); omega
        · exact o2 _ (by decide) w2
      · omega
    · exact h'.elim
  · skip
    rcases h' with ⟨v3', v4', v5', v6', r14', q0, q1, q2, q3, q4, q5, q6, q7, q8, q9, q10, g0, g1, g2, g3⟩ | ⟨v3', v4', v5', v6', r14', r19', q0, q1, q2, q3, q4, q5, q6, q7, q8, q9, q10, q11, q12, g0, g1, g2, g3⟩ | ⟨v3', v4', v5', v6', r14', r19', v24', v25', q0, q1, q2, q3, q4, q5, q6, q7, q8, q9, q10, q11, q12, q13, q14, q15, g0, g1, g2, g3⟩ | h'
    · have e1_ : (1 : Int32).toInt = 1 := by decide
      have po := pw_word c d p5 q6 r
      obtain ⟨⟨s1, s2, s3⟩, s4⟩ := po
      have wI := c_wI_14 p7 c
      have gw := m_goesWell q9
      have xe0 := xie e0
      subst xe0
      have xe1 := xie e1
      subst xe1
      have xe2 := xie e2
      subst xe2
      have xe3 := xie e3
      subst xe3
      have xe4 := xie e4
      subst xe4
      have xg0 := xie g0
      subst xg0
      have xg1 := xie g1
      subst xg1
      have xg2 := xie g2
      subst xg2
      have xg3 := xie g3
      subst xg3
      have kf := c_fail p11
      exact ⟨⟨by omega, by omega, fun z => by omega⟩, fun z => by omega⟩
    · have e1_ : (1 : Int32).toInt = 1 := by decide
      have po := pw_word c d p5 q6 r
      obtain ⟨⟨s1, s2, s3⟩, s4⟩ := po
      have wI := c_wI_14 p7 c
      have gw := m_goesWell q9
      have xe0 := xie e0
      subst xe0
      have xe1 := xie e1
      subst xe1
      have xe2 := xie e2
      subst xe2
      have xe3 := xie e3
      subst xe3
      have xe4 := xie e4
      subst xe4
      have xg0 := xie g0
      subst xg0
      have xg1 := xie g1
      subst xg1
      have xg2 := xie g2
      subst xg2
      have xg3 := xie g3
      subst xg3
      have kf := c_fail p11
      have s5 := s3 (by omega)
      have s6 := s4 (by omega)
      have ow := m_own q11 d ho ⟨by omega, by omega, by omega⟩
      rw [← s5.1, ← s6.2.1] at ow
      exfalso
      rcases wI with ⟨w1, w2⟩ | ⟨w1, w2⟩
      · omega
      · rw [ow_14] at w2
        rcases ow with ⟨n, o1, o2, o3⟩ | ⟨o1, o2⟩
        · exact w2 (by rw [show 13 = n by omega]; exact o3)
        · omega
    · have e1_ : (1 : Int32).toInt = 1 := by decide
      have po := pw_word c d p5 q6 r
      obtain ⟨⟨s1, s2, s3⟩, s4⟩ := po
      have wI := c_wI_14 p7 c
      have gw := m_goesWell q9
      have xe0 := xie e0
      subst xe0
      have xe1 := xie e1
      subst xe1
      have xe2 := xie e2
      subst xe2
      have xe3 := xie e3
      subst xe3
      have xe4 := xie e4
      subst xe4
      have xg0 := xie g0
      subst xg0
      have xg1 := xie g1
      subst xg1
      have xg2 := xie g2
      subst xg2
      have xg3 := xie g3
      subst xg3
      have kf := c_fail p11
      have mf := m_faults q15
      have s5 := s3 (by omega)
      have s6 := s4 (by omega)
      have ow := m_own q11 d ho ⟨by omega, by omega, by omega⟩
      rw [← s5.1, ← s6.2.1] at ow
      clear ow wI
      exact ⟨⟨by omega, by omega, fun z => by omega⟩, fun z => by omega⟩
    · exact h'.elim
  · exact h.elim
theorem pw_kw_15 {B : Int → Int}  {h0_at : Int32} {h0_tokenEnd : Int32} {h0_fault : Int32} {h0_place : Int32} {h0_tape_length : Int32} {f_h0_tape_bytes : (Nat → Int32)} {o_u_h0_at : Int32} {o_u_h0_tokenStart : Int32} {o_u_h0_tokenEnd : Int32} {o_u_h0_fault : Int32} {o_u_h0_place : Int32} {x1' : Int32} {h0_size' : Int32} {h0_at' : Int32} {h0_from' : Int32} {h0_wrong' : Int32} {h0_wrongAt' : Int32} {f_h0_tape' : (Nat → Int32)} {f_h0_ownLetters' : (Nat → Int32)} {o_u_h0_at' : Int32} {o_u_h0_from' : Int32} {o_u_h0_wrong' : Int32} {o_u_h0_wrongAt' : Int32} (c : cTB f_h0_tape_bytes h0_tape_length B) (d : rTB f_h0_tape' h0_size' B) (h : S_R_keyword_15 h0_at h0_tokenEnd h0_fault h0_place h0_tape_length f_h0_tape_bytes o_u_h0_at o_u_h0_tokenStart o_u_h0_tokenEnd o_u_h0_fault o_u_h0_place) (h' : S_M_must x1' h0_size' h0_at' h0_from' h0_wrong' h0_wrongAt' f_h0_tape' f_h0_ownLetters' o_u_h0_at' o_u_h0_from' o_u_h0_wrong' o_u_h0_wrongAt') (r : RC B h0_size'.toInt h0_at.toInt h0_tokenEnd.toInt h0_fault.toInt h0_place.toInt h0_at'.toInt h0_wrong'.toInt h0_wrongAt'.toInt) (ho : pOwn f_h0_ownLetters') (hx : x1'.toInt = 14) : RC B h0_size'.toInt o_u_h0_at.toInt o_u_h0_tokenEnd.toInt o_u_h0_fault.toInt o_u_h0_place.toInt o_u_h0_at'.toInt o_u_h0_wrong'.toInt o_u_h0_wrongAt'.toInt ∧ (o_u_h0_fault.toInt = 0 → h0_fault.toInt = 0) := by
  rcases h with ⟨v3, v4, v5, v6, v7, r14, p0, p1, p2, p3, p4, p5, p6, p7, p8, e0, e1, e2, e3, e4⟩ | ⟨v3, v4, v5, v6, v7, r14, v20, v21, p0, p1, p2, p3, p4, p5, p6, p7, p8, p9, p10, p11, e0, e1, e2, e3, e4⟩ | h
  · skip
    rcases h' with ⟨v3', v4', v5', v6', r14', q0, q1, q2, q3, q4, q5, q6, q7, q8, q9, q10, g0, g1, g2, g3⟩ | ⟨v3', v4', v5', v6', r14', r19', q0, q1, q2, q3, q4, q5, q6, q7, q8, q9, q10, q11, q12, g0, g1, g2, g3⟩ | ⟨v3', v4', v5', v6', r14', r19', v24', v25', q0, q1, q2, q3, q4, q5, q6, q7, q8, q9, q10, q11, q12, q13, q14, q15, g0, g1, g2, g3⟩ | h'
    · have e1_ : (1 : Int32).toInt = 1 := by decide
      have po := pw_word c d p5 q6 r
      obtain ⟨⟨s1, s2, s3⟩, s4⟩ := po
      have wI := c_wI_15 p7 c
      have gw := m_goesWell q9
      have xe0 := xie e0
      subst xe0
      have xe1 := xie e1
      subst xe1
      have xe2 := xie e2
      subst xe2
      have xe3 := xie e3
      subst xe3
      have xe4 := xie e4
      subst xe4
      have xg0 := xie g0
      subst xg0
      have xg1 := xie g1
      subst xg1
      have xg2 := xie g2
      subst xg2
      have xg3 := xie g3
      subst xg3
      exact ⟨⟨by omega, by omega, fun z => by omega⟩, fun z => by omega⟩
    · have e1_ : (1 : Int32).toInt = 1 := by decide
      have po := pw_word c d p5 q6 r
      obtain ⟨⟨s1, s2, s3⟩, s4⟩ := po
      have wI := c_wI_15 p7 c
      have gw := m_goesWell q9
      have xe0 := xie e0
      subst xe0
      have xe1 := xie e1
      subst xe1
      have xe2 := xie e2
      subst xe2
      have xe3 := xie e3
      subst xe3
      have xe4 := xie e4
      subst xe4
      have xg0 := xie g0
      subst xg0
      have xg1 := xie g1
      subst xg1
      have xg2 := xie g2
      subst xg2
      have xg3 := xie g3
      subst xg3
      have s5 := s3 (by omega)
      have s6 := s4 (by omega)
      have ow := m_own q11 d ho ⟨by omega, by omega, by omega⟩
      rw [← s5.1, ← s6.2.1] at ow
      clear ow wI
      exact ⟨⟨by omega, by omega, fun z => s3 (by omega)⟩, fun z => s6.1⟩
    · have e1_ : (1 : Int32).toInt = 1 := by decide
      have po := pw_word c d p5 q6 r
      obtain ⟨⟨s1, s2, s3⟩, s4⟩ := po
      have wI := c_wI_15 p7 c
      have gw := m_goesWell q9
      have xe0 := xie e0
      subst xe0
      have xe1 := xie e1
      subst xe1
      have xe2 := xie e2
      subst xe2
      have xe3 := xie e3
      subst xe3
      have xe4 := xie e4
      subst xe4
      have xg0 := xie g0
      subst xg0
      have xg1 := xie g1
      subst xg1
      have xg2 := xie g2
      subst xg2
      have xg3 := xie g3
      subst xg3
      have mf := m_faults q15
      have s5 := s3 (by omega)
      have s6 := s4 (by omega)
      have ow := m_own q11 d ho ⟨by omega, by omega, by omega⟩
      rw [← s5.1, ← s6.2.1] at ow
      exfalso
      rcases wI with ⟨w1, w2⟩ | ⟨w1, w2⟩
      · rw [ow_15] at w2
        rcases ow with ⟨n, o1, o2, o3⟩ | ⟨o1, o2⟩
        · have := o3.uq w2 o1 (by decide); omega
        · exact o2 _ (by decide) w2
      · omega
    · exact h'.elim
  · skip
    rcases h' with ⟨v3', v4', v5', v6', r14', q0, q1, q2, q3, q4, q5, q6, q7, q8, q9, q10, g0, g1, g2, g3⟩ | ⟨v3', v4', v5', v6', r14', r19', q0, q1, q2, q3, q4, q5, q6, q7, q8, q9, q10, q11, q12, g0, g1, g2, g3⟩ | ⟨v3', v4', v5', v6', r14', r19', v24', v25', q0, q1, q2, q3, q4, q5, q6, q7, q8, q9, q10, q11, q12, q13, q14, q15, g0, g1, g2, g3⟩ | h'
    · have e1_ : (1 : Int32).toInt = 1 := by decide
      have po := pw_word c d p5 q6 r
      obtain ⟨⟨s1, s2, s3⟩, s4⟩ := po
      have wI := c_wI_15 p7 c
      have gw := m_goesWell q9
      have xe0 := xie e0
      subst xe0
      have xe1 := xie e1
      subst xe1
      have xe2 := xie e2
      subst xe2
      have xe3 := xie e3
      subst xe3
      have xe4 := xie e4
      subst xe4
      have xg0 := xie g0
      subst xg0
      have xg1 := xie g1
      subst xg1
      have xg2 := xie g2
      subst xg2
      have xg3 := xie g3
      subst xg3
      have kf := c_fail p11
      exact ⟨⟨by omega, by omega, fun z => by omega⟩, fun z => by omega⟩
    · have e1_ : (1 : Int32).toInt = 1 := by decide
      have po := pw_word c d p5 q6 r
      obtain ⟨⟨s1, s2, s3⟩, s4⟩ := po
      have wI := c_wI_15 p7 c
      have gw := m_goesWell q9
      have xe0 := xie e0
      subst xe0
      have xe1 := xie e1
      subst xe1
      have xe2 := xie e2
      subst xe2
      have xe3 := xie e3
      subst xe3
      have xe4 := xie e4
      subst xe4
      have xg0 := xie g0
      subst xg0
      have xg1 := xie g1
      subst xg1
      have xg2 := xie g2
      subst xg2
      have xg3 := xie g3
      subst xg3
      have kf := c_fail p11
      have s5 := s3 (by omega)
      have s6 := s4 (by omega)
      have ow := m_own q11 d ho ⟨by omega, by omega, by omega⟩
      rw [← s5.1, ← s6.2.1] at ow
      exfalso
      rcases wI with ⟨w1, w2⟩ | ⟨w1, w2⟩
      · omega
      · rw [ow_15] at w2
        rcases ow with ⟨n, o1, o2, o3⟩ | ⟨o1, o2⟩
        · exact w2 (by rw [show 14 = n by omega]; exact o3)
        · omega
    · have e1_ : (1 : Int32).toInt = 1 := by decide
      have po := pw_word c d p5 q6 r
      obtain ⟨⟨s1, s2, s3⟩, s4⟩ := po
      have wI := c_wI_15 p7 c
      have gw := m_goesWell q9
      have xe0 := xie e0
      subst xe0
      have xe1 := xie e1
      subst xe1
      have xe2 := xie e2
      subst xe2
      have xe3 := xie e3
      subst xe3
      have xe4 := xie e4
      subst xe4
      have xg0 := xie g0
      subst xg0
      have xg1 := xie g1
      subst xg1
      have xg2 := xie g2
      subst xg2
      have xg3 := xie g3
      subst xg3
      have kf := c_fail p11
      have mf := m_faults q15
      have s5 := s3 (by omega)
      have s6 := s4 (by omega)
      have ow := m_own q11 d ho ⟨by omega, by omega, by omega⟩
      rw [← s5.1, ← s6.2.1] at ow
      clear ow wI
      exact ⟨⟨by omega, by omega, fun z => by omega⟩, fun z => by omega⟩
    · exact h'.elim
  · exact h.elim
theorem pw_kw_18 {B : Int → Int}  {h0_at : Int32} {h0_tokenEnd : Int32} {h0_fault : Int32} {h0_place : Int32} {h0_tape_length : Int32} {f_h0_tape_bytes : (Nat → Int32)} {o_u_h0_at : Int32} {o_u_h0_tokenStart : Int32} {o_u_h0_tokenEnd : Int32} {o_u_h0_fault : Int32} {o_u_h0_place : Int32} {x1' : Int32} {h0_size' : Int32} {h0_at' : Int32} {h0_from' : Int32} {h0_wrong' : Int32} {h0_wrongAt' : Int32} {f_h0_tape' : (Nat → Int32)} {f_h0_ownLetters' : (Nat → Int32)} {o_u_h0_at' : Int32} {o_u_h0_from' : Int32} {o_u_h0_wrong' : Int32} {o_u_h0_wrongAt' : Int32} (c : cTB f_h0_tape_bytes h0_tape_length B) (d : rTB f_h0_tape' h0_size' B) (h : S_R_keyword_18 h0_at h0_tokenEnd h0_fault h0_place h0_tape_length f_h0_tape_bytes o_u_h0_at o_u_h0_tokenStart o_u_h0_tokenEnd o_u_h0_fault o_u_h0_place) (h' : S_M_must x1' h0_size' h0_at' h0_from' h0_wrong' h0_wrongAt' f_h0_tape' f_h0_ownLetters' o_u_h0_at' o_u_h0_from' o_u_h0_wrong' o_u_h0_wrongAt') (r : RC B h0_size'.toInt h0_at.toInt h0_tokenEnd.toInt h0_fault.toInt h0_place.toInt h0_at'.toInt h0_wrong'.toInt h0_wrongAt'.toInt) (ho : pOwn f_h0_ownLetters') (hx : x1'.toInt = 17) : RC B h0_size'.toInt o_u_h0_at.toInt o_u_h0_tokenEnd.toInt o_u_h0_fault.toInt o_u_h0_place.toInt o_u_h0_at'.toInt o_u_h0_wrong'.toInt o_u_h0_wrongAt'.toInt ∧ (o_u_h0_fault.toInt = 0 → h0_fault.toInt = 0) := by
  rcases h with ⟨v3, v4, v5, v6, v7, r14, p0, p1, p2, p3, p4, p5, p6, p7, p8, e0, e1, e2, e3, e4⟩ | ⟨v3, v4, v5, v6, v7, r14, v20, v21, p0, p1, p2, p3, p4, p5, p6, p7, p8, p9, p10, p11, e0, e1, e2, e3, e4⟩ | h
  · skip
    rcases h' with ⟨v3', v4', v5', v6', r14', q0, q1, q2, q3, q4, q5, q6, q7, q8, q9, q10, g0, g1, g2, g3⟩ | ⟨v3', v4', v5', v6', r14', r19', q0, q1, q2, q3, q4, q5, q6, q7, q8, q9, q10, q11, q12, g0, g1, g2, g3⟩ | ⟨v3', v4', v5', v6', r14', r19', v24', v25', q0, q1, q2, q3, q4, q5, q6, q7, q8, q9, q10, q11, q12, q13, q14, q15, g0, g1, g2, g3⟩ | h'
    · have e1_ : (1 : Int32).toInt = 1 := by decide
      have po := pw_word c d p5 q6 r
      obtain ⟨⟨s1, s2, s3⟩, s4⟩ := po
      have wI := c_wI_18 p7 c
      have gw := m_goesWell q9
      have xe0 := xie e0
      subst xe0
      have xe1 := xie e1
      subst xe1
      have xe2 := xie e2
      subst xe2
      have xe3 := xie e3
      subst xe3
      have xe4 := xie e4
      subst xe4
      have xg0 := xie g0
      subst xg0
      have xg1 := xie g1
      subst xg1
      have xg2 := xie g2
      subst xg2
      have xg3 := xie g3
      subst xg3
      exact ⟨⟨by omega, by omega, fun z => by omega⟩, fun z => by omega⟩
    · have e1_ : (1 : Int32).toInt = 1 := by decide
      have po := pw_word c d p5 q6 r
      obtain ⟨⟨s1, s2, s3⟩, s4⟩ := po
      have wI := c_wI_18 p7 c
      have gw := m_goesWell q9
      have xe0 := xie e0
      subst xe0
      have xe1 := xie e1
      subst xe1
      have xe2 := xie e2
      subst xe2
      have xe3 := xie e3
      subst xe3
      have xe4 := xie e4
      subst xe4
      have xg0 := xie g0
      subst xg0
      have xg1 := xie g1
      subst xg1
      have xg2 := xie g2
      subst xg2
      have xg3 := xie g3
      subst xg3
      have s5 := s3 (by omega)
      have s6 := s4 (by omega)
      have ow := m_own q11 d ho ⟨by omega, by omega, by omega⟩
      rw [← s5.1, ← s6.2.1] at ow
      clear ow wI
      exact ⟨⟨by omega, by omega, fun z => s3 (by omega)⟩, fun z => s6.1⟩
    · have e1_ : (1 : Int32).toInt = 1 := by decide
      have po := pw_word c d p5 q6 r
      obtain ⟨⟨s1, s2, s3⟩, s4⟩ := po
      have wI := c_wI_18 p7 c
      have gw := m_goesWell q9
      have xe0 := xie e0
      subst xe0
      have xe1 := xie e1
      subst xe1
      have xe2 := xie e2
      subst xe2
      have xe3 := xie e3
      subst xe3
      have xe4 := xie e4
      subst xe4
      have xg0 := xie g0
      subst xg0
      have xg1 := xie g1
      subst xg1
      have xg2 := xie g2
      subst xg2
      have xg3 := xie g3
      subst xg3
      have mf := m_faults q15
      have s5 := s3 (by omega)
      have s6 := s4 (by omega)
      have ow := m_own q11 d ho ⟨by omega, by omega, by omega⟩
      rw [← s5.1, ← s6.2.1] at ow
      exfalso
      rcases wI with ⟨w1, w2⟩ | ⟨w1, w2⟩
      · rw [ow_18] at w2
        rcases ow with ⟨n, o1, o2, o3⟩ | ⟨o1, o2⟩
        · have := o3.uq w2 o1 (by decide); omega
        · exact o2 _ (by decide) w2
      · omega
    · exact h'.elim
  · skip
    rcases h' with ⟨v3', v4', v5', v6', r14', q0, q1, q2, q3, q4, q5, q6, q7, q8, q9, q10, g0, g1, g2, g3⟩ | ⟨v3', v4', v5', v6', r14', r19', q0, q1, q2, q3, q4, q5, q6, q7, q8, q9, q10, q11, q12, g0, g1, g2, g3⟩ | ⟨v3', v4', v5', v6', r14', r19', v24', v25', q0, q1, q2, q3, q4, q5, q6, q7, q8, q9, q10, q11, q12, q13, q14, q15, g0, g1, g2, g3⟩ | h'
    · have e1_ : (1 : Int32).toInt = 1 := by decide
      have po := pw_word c d p5 q6 r
      obtain ⟨⟨s1, s2, s3⟩, s4⟩ := po
      have wI := c_wI_18 p7 c
      have gw := m_goesWell q9
      have xe0 := xie e0
      subst xe0
      have xe1 := xie e1
      subst xe1
      have xe2 := xie e2
      subst xe2
      have xe3 := xie e3
      subst xe3
      have xe4 := xie e4
      subst xe4
      have xg0 := xie g0
      subst xg0
      have xg1 := xie g1
      subst xg1
      have xg2 := xie g2
      subst xg2
      have xg3 := xie g3
      subst xg3
      have kf := c_fail p11
      exact ⟨⟨by omega, by omega, fun z => by omega⟩, fun z => by omega⟩
    · have e1_ : (1 : Int32).toInt = 1 := by decide
      have po := pw_word c d p5 q6 r
      obtain ⟨⟨s1, s2, s3⟩, s4⟩ := po
      have wI := c_wI_18 p7 c
      have gw := m_goesWell q9
      have xe0 := xie e0
      subst xe0
      have xe1 := xie e1
      subst xe1
      have xe2 := xie e2
      subst xe2
      have xe3 := xie e3
      subst xe3
      have xe4 := xie e4
      subst xe4
      have xg0 := xie g0
      subst xg0
      have xg1 := xie g1
      subst xg1
      have xg2 := xie g2
      subst xg2
      have xg3 := xie g3
      subst xg3
      have kf := c_fail p11
      have s5 := s3 (by omega)
      have s6 := s4 (by omega)
      have ow := m_own q11 d ho ⟨by omega, by omega, by omega⟩
      rw [← s5.1, ← s6.2.1] at ow
      exfalso
      rcases wI with ⟨w1, w2⟩ | ⟨w1, w2⟩
      · omega
      · rw [ow_18] at w2
        rcases ow with ⟨n, o1, o2, o3⟩ | ⟨o1, o2⟩
        · exact w2 (by rw [show 17 = n by omega]; exact o3)
        · omega
    · have e1_ : (1 : Int32).toInt = 1 := by decide
      have po := pw_word c d p5 q6 r
      obtain ⟨⟨s1, s2, s3⟩, s4⟩ := po
      have wI := c_wI_18 p7 c
      have gw := m_goesWell q9
      have xe0 := xie e0
      subst xe0
      have xe1 := xie e1
      subst xe1
      have xe2 := xie e2
      subst xe2
      have xe3 := xie e3
      subst xe3
      have xe4 := xie e4
      subst xe4
      have xg0 := xie g0
      subst xg0
      have xg1 := xie g1
      subst xg1
      have xg2 := xie g2
      subst xg2
      have xg3 := xie g3
      subst xg3
      have kf := c_fail p11
      have mf := m_faults q15
      have s5 := s3 (by omega)
      have s6 := s4 (by omega)
      have ow := m_own q11 d ho ⟨by omega, by omega, by omega⟩
      rw [← s5.1, ← s6.2.1] at ow
      clear ow wI
      exact ⟨⟨by omega, by omega, fun z => by omega⟩, fun z => by omega⟩
    · exact h'.elim
  · exact h.elim
theorem pnum {t te a r x1 x2 F P F2 P2 WA W2 WA2 a2 r2 b0 b1 b2 ba : Int} {al : Prop} (hal : t = te ↔ al) (hv : (a = t ∧ r = 0 ∧ ¬ (48 ≤ b0 ∧ b0 ≤ 57) ∧ ba = b0) ∨ (a = t + 1 ∧ (48 ≤ b0 ∧ b0 ≤ 57) ∧ ¬ (48 ≤ b1 ∧ b1 ≤ 57) ∧ r = b0 - 48 ∧ ba = b1) ∨ (a = t + 2 ∧ (48 ≤ b0 ∧ b0 ≤ 57) ∧ (48 ≤ b1 ∧ b1 ≤ 57) ∧ r = 10 * (b0 - 48) + (b1 - 48) ∧ ba = b2)) (hn : (¬ F = 0 ∧ F2 = F ∧ P2 = P) ∨ (F = 0 ∧ ((t = te ∧ F2 = 1 ∧ P2 = t) ∨ (¬ t = te ∧ (a = t ∨ (48 ≤ ba ∧ ba ≤ 57)) ∧ F2 = 1 ∧ P2 = a) ∨ (¬ t = te ∧ ¬ (a = t ∨ (48 ≤ ba ∧ ba ≤ 57)) ∧ (r < x1 ∨ x2 < r) ∧ F2 = 2 ∧ P2 = t) ∨ (¬ t = te ∧ ¬ (a = t ∨ (48 ≤ ba ∧ ba ≤ 57)) ∧ ¬ (r < x1 ∨ x2 < r) ∧ F2 = 0 ∧ P2 = P)))) (hc : (¬ (48 ≤ b0 ∧ b0 ≤ 57) ∧ W2 = 1 ∧ WA2 = t) ∨ ((48 ≤ b0 ∧ b0 ≤ 57) ∧ al ∧ W2 = 1 ∧ WA2 = t) ∨ ((48 ≤ b0 ∧ b0 ≤ 57) ∧ ¬ al ∧ (48 ≤ b1 ∧ b1 ≤ 57) ∧ (48 ≤ b2 ∧ b2 ≤ 57) ∧ W2 = 1 ∧ WA2 = t + 2) ∨ ((48 ≤ b0 ∧ b0 ≤ 57) ∧ ¬ al ∧ ¬ (48 ≤ b1 ∧ b1 ≤ 57) ∧ a2 = t + 1 ∧ ((x1 ≤ (b0 - 48) ∧ (b0 - 48) ≤ x2 ∧ W2 = 0 ∧ WA2 = WA ∧ r2 = (b0 - 48)) ∨ (¬ (x1 ≤ (b0 - 48) ∧ (b0 - 48) ≤ x2) ∧ W2 = 2 ∧ WA2 = t))) ∨ ((48 ≤ b0 ∧ b0 ≤ 57) ∧ ¬ al ∧ (48 ≤ b1 ∧ b1 ≤ 57) ∧ ¬ (48 ≤ b2 ∧ b2 ≤ 57) ∧ a2 = t + 2 ∧ ((x1 ≤ (10 * (b0 - 48) + (b1 - 48)) ∧ (10 * (b0 - 48) + (b1 - 48)) ≤ x2 ∧ W2 = 0 ∧ WA2 = WA ∧ r2 = (10 * (b0 - 48) + (b1 - 48))) ∨ (¬ (x1 ≤ (10 * (b0 - 48) + (b1 - 48)) ∧ (10 * (b0 - 48) + (b1 - 48)) ≤ x2) ∧ W2 = 2 ∧ WA2 = t)))) (hF : F = 0 ∧ P = WA) : F2 = W2 ∧ P2 = WA2 ∧ (F2 = 0 → ((a = t + 1 ∧ (48 ≤ b0 ∧ b0 ≤ 57)) ∨ (a = t + 2 ∧ (48 ≤ b1 ∧ b1 ≤ 57))) ∧ a = a2 ∧ r = r2) := by
  rcases hn with hn | ⟨_, hn⟩
  · omega
  · by_cases z : t = te
    · have za := hal.mp z
      have f : F2 = 1 ∧ P2 = t := by rcases hn with hn | hn | hn | hn <;> omega
      rcases hc with ⟨c0, c1, c2⟩ | ⟨c0, _, c1, c2⟩ | ⟨_, c, _⟩ | ⟨_, c, _⟩ | ⟨_, c, _⟩
      · omega
      · omega
      · exact absurd za c
      · exact absurd za c
      · exact absurd za c
    · have za : ¬ al := fun q => z (hal.mpr q)
      rcases hv with ⟨v1, v2, v3, v4⟩ | ⟨v1, v2, v3, v4, v5⟩ | ⟨v1, v2, v3, v4, v5⟩
      · have f : F2 = 1 ∧ P2 = t := by rcases hn with hn | hn | hn | hn <;> omega
        rcases hc with ⟨c0, c1, c2⟩ | ⟨c0, _, c1, c2⟩ | ⟨c0, c⟩ | ⟨c0, c⟩ | ⟨c0, c⟩ <;> omega
      · rcases hc with ⟨c0, c1, c2⟩ | ⟨c0, c, c1, c2⟩ | ⟨c0, c, c1, c2⟩ | ⟨c0, c, c1, c2, c3⟩ | ⟨c0, c, c1, c2, c3⟩
        · omega
        · exact absurd c za
        · omega
        · rcases hn with hn | hn | hn | hn
          · omega
          · omega
          · have g : W2 = 2 ∧ WA2 = t := by rcases c3 with c3 | c3 <;> omega
            omega
          · have g : W2 = 0 ∧ WA2 = WA ∧ r2 = r := by rcases c3 with c3 | c3 <;> omega
            exact ⟨by omega, by omega, fun _ => ⟨.inl ⟨v1, v2⟩, by omega, by omega⟩⟩
        · omega
      · rcases hc with ⟨c0, c1, c2⟩ | ⟨c0, c, c1, c2⟩ | ⟨c0, c, c1, c2, c3⟩ | ⟨c0, c, c1, c2, c3⟩ | ⟨c0, c, c1, c2, c3, c4⟩
        · omega
        · exact absurd c za
        · have f : F2 = 1 ∧ P2 = a := by rcases hn with hn | hn | hn | hn <;> omega
          omega
        · omega
        · rcases hn with hn | hn | hn | hn
          · omega
          · omega
          · have g : W2 = 2 ∧ WA2 = t := by rcases c4 with c4 | c4 <;> omega
            omega
          · have g : W2 = 0 ∧ WA2 = WA ∧ r2 = r := by rcases c4 with c4 | c4 <;> omega
            exact ⟨by omega, by omega, fun _ => ⟨.inr ⟨v1, v3⟩, by omega, by omega⟩⟩
theorem pw_num {B : Int → Int}  {x1 : Int32} {x2 : Int32} {h0_at : Int32} {h0_tokenEnd : Int32} {h0_fault : Int32} {h0_place : Int32} {h0_tape_length : Int32} {f_h0_tape_bytes : (Nat → Int32)} {o_u_h0_at : Int32} {o_u_h0_tokenStart : Int32} {o_u_h0_tokenEnd : Int32} {o_u_h0_fault : Int32} {o_u_h0_place : Int32} {o_r : Int32} {x1' : Int32} {x2' : Int32} {h0_size' : Int32} {h0_at' : Int32} {h0_from' : Int32} {h0_wrong' : Int32} {h0_wrongAt' : Int32} {f_h0_tape' : (Nat → Int32)} {o_u_h0_at' : Int32} {o_u_h0_from' : Int32} {o_u_h0_wrong' : Int32} {o_u_h0_wrongAt' : Int32} {o_r' : Int32} (c : cTB f_h0_tape_bytes h0_tape_length B) (d : rTB f_h0_tape' h0_size' B) (h : S_R_number x1 x2 h0_at h0_tokenEnd h0_fault h0_place h0_tape_length f_h0_tape_bytes o_u_h0_at o_u_h0_tokenStart o_u_h0_tokenEnd o_u_h0_fault o_u_h0_place o_r) (h' : S_M_number x1' x2' h0_size' h0_at' h0_from' h0_wrong' h0_wrongAt' f_h0_tape' o_u_h0_at' o_u_h0_from' o_u_h0_wrong' o_u_h0_wrongAt' o_r') (r : RC B h0_size'.toInt h0_at.toInt h0_tokenEnd.toInt h0_fault.toInt h0_place.toInt h0_at'.toInt h0_wrong'.toInt h0_wrongAt'.toInt) (hx : x1'.toInt = x1.toInt ∧ x2'.toInt = x2.toInt) : RC B h0_size'.toInt o_u_h0_at.toInt o_u_h0_tokenEnd.toInt o_u_h0_fault.toInt o_u_h0_place.toInt o_u_h0_at'.toInt o_u_h0_wrong'.toInt o_u_h0_wrongAt'.toInt ∧ (o_u_h0_fault.toInt = 0 → h0_fault.toInt = 0 ∧ o_r.toInt = o_r'.toInt ∧ o_u_h0_tokenStart.toInt = o_u_h0_from'.toInt) := by
  have k := c_num h c
  have k' := m_num h' d
  obtain ⟨r1, r2, r3⟩ := r
  obtain ⟨k1, k2, k3, k4⟩ := k
  by_cases q : h0_fault.toInt = 0
  · obtain ⟨a1, a2, a3, a4⟩ := r3 q
    rcases k' with k' | ⟨w0, sk', rest⟩
    · exfalso; omega
    · have es := isSk.uq k1 (by rw [a1]; exact sk')
      have ad := adj a4 a2 k1
      have k0 := k1.1
      have eF := xie es
      subst eF
      rw [hx.1, hx.2] at rest
      have k3' : (o_u_h0_at.toInt = o_u_h0_tokenStart.toInt ∧ o_r.toInt = 0 ∧ ¬ (48 ≤ B o_u_h0_tokenStart.toInt ∧ B o_u_h0_tokenStart.toInt ≤ 57) ∧ B o_u_h0_at.toInt = B o_u_h0_tokenStart.toInt) ∨ (o_u_h0_at.toInt = o_u_h0_tokenStart.toInt + 1 ∧ (48 ≤ B o_u_h0_tokenStart.toInt ∧ B o_u_h0_tokenStart.toInt ≤ 57) ∧ ¬ (48 ≤ B (o_u_h0_tokenStart.toInt + 1) ∧ B (o_u_h0_tokenStart.toInt + 1) ≤ 57) ∧ o_r.toInt = B o_u_h0_tokenStart.toInt - 48 ∧ B o_u_h0_at.toInt = B (o_u_h0_tokenStart.toInt + 1)) ∨ (o_u_h0_at.toInt = o_u_h0_tokenStart.toInt + 2 ∧ (48 ≤ B o_u_h0_tokenStart.toInt ∧ B o_u_h0_tokenStart.toInt ≤ 57) ∧ (48 ≤ B (o_u_h0_tokenStart.toInt + 1) ∧ B (o_u_h0_tokenStart.toInt + 1) ≤ 57) ∧ o_r.toInt = 10 * (B o_u_h0_tokenStart.toInt - 48) + (B (o_u_h0_tokenStart.toInt + 1) - 48) ∧ B o_u_h0_at.toInt = B (o_u_h0_tokenStart.toInt + 2)) := by
        rcases k3 with ⟨v1, v2, v3⟩ | ⟨v1, v2, v3, v4⟩ | ⟨v1, v2, v3, v4⟩
        · exact .inl ⟨v1, v2, v3, congrArg B v1⟩
        · exact .inr (.inl ⟨v1, v2, v3, v4, congrArg B v1⟩)
        · exact .inr (.inr ⟨v1, v2, v3, v4, congrArg B v1⟩)
      have pn := pnum ad k3' k4 rest ⟨q, r2⟩
      refine ⟨⟨pn.1, pn.2.1, fun z => ?_⟩, fun z => ⟨q, (pn.2.2 z).2.2, rfl⟩⟩
      obtain ⟨p1, p2, p3⟩ := pn.2.2 z
      have al : alB B (o_u_h0_at.toInt - 1) := by
        rcases p1 with ⟨p4, p5⟩ | ⟨p4, p5⟩
        · have eA : B (o_u_h0_at.toInt - 1) = B o_u_h0_tokenStart.toInt := congrArg B (by omega)
          exact .inr (by rw [eA]; exact p5)
        · have eA : B (o_u_h0_at.toInt - 1) = B (o_u_h0_tokenStart.toInt + 1) := congrArg B (by omega)
          exact .inr (by rw [eA]; exact p5)
      have bl := d.1.le al
      exact ⟨p2, by omega, by omega, .inl ⟨k2, al⟩⟩
  · rcases k' with k' | ⟨w0, _⟩
    · have f : o_u_h0_fault.toInt = h0_fault.toInt ∧ o_u_h0_place.toInt = h0_place.toInt := by
        rcases k4 with k4 | ⟨k4, _⟩
        · exact k4.2
        · exact absurd k4 q
      exact ⟨⟨by omega, by omega, fun z => by omega⟩, fun z => by omega⟩
    · exfalso; omega
theorem pw_semi {B : Int → Int} {te_ : Int} {h0_at : Int32} {h0_fault : Int32} {h0_place : Int32} {h0_tape_length : Int32} {f_h0_tape_bytes : (Nat → Int32)} {h0_into_statements : Int32} {o_u_h0_at : Int32} {o_u_h0_tokenStart : Int32} {o_u_h0_fault : Int32} {o_u_h0_place : Int32} {o_u_h0_into_statements : Int32} {h0_size' : Int32} {h0_at' : Int32} {h0_wrong' : Int32} {h0_wrongAt' : Int32} {f_h0_tape' : (Nat → Int32)} {o_u_h0_at' : Int32} {o_u_h0_wrong' : Int32} {o_u_h0_wrongAt' : Int32} (c : cTB f_h0_tape_bytes h0_tape_length B) (d : rTB f_h0_tape' h0_size' B) (h : S_R_semicolon h0_at h0_fault h0_place h0_tape_length f_h0_tape_bytes h0_into_statements o_u_h0_at o_u_h0_tokenStart o_u_h0_fault o_u_h0_place o_u_h0_into_statements) (h' : S_M_endsWell h0_size' h0_at' h0_wrong' h0_wrongAt' f_h0_tape' o_u_h0_at' o_u_h0_wrong' o_u_h0_wrongAt') (r : RC B h0_size'.toInt h0_at.toInt te_ h0_fault.toInt h0_place.toInt h0_at'.toInt h0_wrong'.toInt h0_wrongAt'.toInt) : RC B h0_size'.toInt o_u_h0_at.toInt (-1) o_u_h0_fault.toInt o_u_h0_place.toInt o_u_h0_at'.toInt o_u_h0_wrong'.toInt o_u_h0_wrongAt'.toInt ∧ (o_u_h0_fault.toInt = 0 → h0_fault.toInt = 0 ∧ o_u_h0_into_statements = h0_into_statements + 1 ∧ h0_at.toInt < o_u_h0_at.toInt) := by
  have k := c_semi h c
  have k' := m_ends h' d
  obtain ⟨r1, r2, r3⟩ := r
  obtain ⟨k1, k2, k3, k4⟩ := k
  by_cases q : h0_fault.toInt = 0
  · obtain ⟨a1, a2, a3, a4⟩ := r3 q
    rcases k' with k' | ⟨w0, s, sk', rest⟩
    · exfalso; omega
    · have es := isSk.uq k1 (by rw [a1]; exact sk')
      subst es
      have k0 := k1.1
      have eA : B (o_u_h0_at.toInt - 1) = B o_u_h0_tokenStart.toInt := congrArg B (by omega)
      rcases rest with ⟨n1, n2, n3, n4⟩ | ⟨n1, n2, n3⟩
      · have al : ¬ alB B (o_u_h0_at.toInt - 1) := by unfold alB; omega
        have bl : o_u_h0_tokenStart.toInt < h0_size'.toInt := by
          rcases Int.lt_or_le o_u_h0_tokenStart.toInt h0_size'.toInt with z | z
          · exact z
          · have := d.1.2.2.2.1 _ z; omega
        exact ⟨⟨by omega, by omega, fun z => ⟨by omega, by omega, by omega, .inr ⟨rfl, al⟩⟩⟩, fun z => ⟨q, k4 z, by omega⟩⟩
      · exact ⟨⟨by omega, by omega, fun z => by omega⟩, fun z => by omega⟩
  · rcases k' with k' | ⟨w0, _⟩
    · exact ⟨⟨by omega, by omega, fun z => by omega⟩, fun z => by omega⟩
    · exfalso; omega
