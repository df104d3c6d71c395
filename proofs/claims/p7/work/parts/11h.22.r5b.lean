theorem pw_where {B : Int → Int} {h0_at : Int32} {h0_tokenEnd : Int32} {h0_fault : Int32} {h0_place : Int32} {h0_tape_length : Int32} {f_h0_tape_bytes : (Nat → Int32)} {h0_into_count : Int32} {f_h0_into_name : (Nat → Int32)} {o_u_h0_at : Int32} {o_u_h0_tokenStart : Int32} {o_u_h0_tokenEnd : Int32} {o_u_h0_fault : Int32} {o_u_h0_place : Int32} {o_r : Int32} {h0_size' : Int32} {h0_at' : Int32} {h0_from' : Int32} {h0_wrong' : Int32} {h0_wrongAt' : Int32} {f_h0_tape' : (Nat → Int32)} {o_u_h0_at' : Int32} {o_u_h0_from' : Int32} {o_u_h0_wrong' : Int32} {o_u_h0_wrongAt' : Int32} {ol rd : Nat → Int32} {cn r9 pa9 x9 xa9 : Int32} (c : cTB f_h0_tape_bytes h0_tape_length B) (d : rTB f_h0_tape' h0_size' B) (h : S_R_where h0_at h0_tokenEnd h0_fault h0_place h0_tape_length f_h0_tape_bytes h0_into_count f_h0_into_name o_u_h0_at o_u_h0_tokenStart o_u_h0_tokenEnd o_u_h0_fault o_u_h0_place o_r) (h1 : S_M_word h0_size' h0_at' h0_from' h0_wrong' h0_wrongAt' f_h0_tape' o_u_h0_at' o_u_h0_from' o_u_h0_wrong' o_u_h0_wrongAt') (h2 : S_M_goesWell o_u_h0_wrong' r9) (h3 : J_M_readsFlange_184_4 ol f_h0_tape' rd cn r9 o_u_h0_at' o_u_h0_from' o_u_h0_wrong' o_u_h0_wrongAt' pa9 x9 xa9) (ho : pOwn ol) (nm : NMC f_h0_into_name rd h0_into_count.toInt) (hc : h0_into_count.toInt = cn.toInt) (r : RC B h0_size'.toInt h0_at.toInt h0_tokenEnd.toInt h0_fault.toInt h0_place.toInt h0_at'.toInt h0_wrong'.toInt h0_wrongAt'.toInt) : RC B h0_size'.toInt o_u_h0_at.toInt o_u_h0_tokenEnd.toInt o_u_h0_fault.toInt o_u_h0_place.toInt o_u_h0_at'.toInt x9.toInt xa9.toInt ∧ (o_u_h0_fault.toInt = 0 → h0_fault.toInt = 0 ∧ o_r.toInt = pa9.toInt ∧ 0 ≤ o_r.toInt ∧ (o_r.toInt = 0 ∨ o_r.toInt < h0_into_count.toInt)) := by
  rcases h with ⟨v3, v4, v5, v6, v7, r14, v20, v21, r18, r25, p0, p1, p2, p3, -, p5, p6, p7, p8, p9, -, p11, p12, -, p14, p15, e0, e1, e2, e3, e4, e5⟩ | ⟨v3, v4, v5, v6, v7, r14, v20, v21, r18, r25, v32, v33, p0, p1, p2, p3, -, p5, p6, p7, p8, p9, -, p11, p12, -, p14, p15, p16, p17, p18, e0, e1, e2, e3, e4, e5⟩ | ⟨v3, v4, v5, v6, v7, r14, p0, p1, p2, p3, -, p5, p6, p7, p8, e0, e1, e2, e3, e4, e5⟩ | h
  · have po := pw_word c d p5 h1 r
    obtain ⟨⟨s1, s2, s3⟩, s4⟩ := po
    have gw := m_goesWell h2
    have wb := c_wI_2 p7 c
    have e1_ : (1 : Int32).toInt = 1 := by decide
    have e3_ : (3 : Int32).toInt = 3 := by decide
    have e0_ : (0 : Int32).toInt = 0 := by decide
    have e2_ : (2 : Int32).toInt = 2 := by decide
    have xe0 := xie e0
    subst xe0
    have xe1 := xie e1
    subst xe1
    have xe2 := xie e2
    subst xe2
    have xe3 := xie e3
    subst xe3
    have xe4 := xie e4
    subst xe4
    have xe5 := xie e5
    subst xe5
    have fz := fz_R_name p11
    have cf := c_find p14
    rcases h3 with ⟨q0, g0, g1, g2⟩ | ⟨r1558', q0, q1, q2, g0, g1, g2⟩ | ⟨r1558', r1561', v1585', v1586', r1593', q0, q1, q2, q3, q4, q5, q6, -, q8, q9, g0, g1, g2⟩ | ⟨r1558', r1561', v1585', v1586', r1593', v1600', v1601', q0, q1, q2, q3, q4, q5, q6, -, q8, q9, q10, q11, q12, g0, g1, g2⟩ | h3
    · exact ⟨⟨by omega, by omega, fun z => by omega⟩, fun z => by omega⟩
    · have s5 := s3 (by omega)
      have s6 := s4 (by omega)
      have ow := m_own q1 d ho ⟨by omega, by omega, by omega⟩
      rw [← s5.1, ← s6.2.1] at ow
      exfalso
      rcases wb with ⟨w1, w2⟩ | ⟨w1, w2⟩
      · omega
      · rw [ow_2] at w2
        rcases ow with ⟨n, o1, o2, o3⟩ | ⟨o1, o2⟩
        · exact w2 (by rw [show 2 = n by omega]; exact o3)
        · omega
    · have s5 := s3 (by omega)
      have s6 := s4 (by omega)
      have ow := m_own q1 d ho ⟨by omega, by omega, by omega⟩
      rw [← s5.1, ← s6.2.1] at ow
      have cn_ := c_name p11 c s6.2.2.1
      have ow2 := m_own q3 d ho ⟨by omega, by omega, by omega⟩
      rw [← s5.1, ← s6.2.1] at ow2
      have oc := j165_ q4
      rw [← s5.1, ← s6.2.1] at oc
      have ne := nm_eq cn_.1 ow2 oc ⟨s1, s2⟩
      have nd := m_named q8 d ⟨by omega, by omega⟩
      rw [← s5.1, ← s6.2.1, ← hc] at nd
      have fe : v1585'.toInt = 0 → _ := fun z => fn_eq nm s6.2.2.1 (by have := cn_.2 (by omega); unfold PKN; exact this) cf nd z
      by_cases z0 : v1585'.toInt = 0
      · have fe1 := fe z0
        exact ⟨⟨by omega, by omega, fun z => by first | exact s3 (by omega) | omega⟩, fun z => by first | exact ⟨s6.1, by omega, by omega, by omega⟩ | omega⟩
      · have nm1 : ¬ (1 ≤ x9.toInt) ∨ True := .inr trivial
        exact ⟨⟨by omega, by omega, fun z => by omega⟩, fun z => by omega⟩
    · have s5 := s3 (by omega)
      have s6 := s4 (by omega)
      have ow := m_own q1 d ho ⟨by omega, by omega, by omega⟩
      rw [← s5.1, ← s6.2.1] at ow
      have cn_ := c_name p11 c s6.2.2.1
      have ow2 := m_own q3 d ho ⟨by omega, by omega, by omega⟩
      rw [← s5.1, ← s6.2.1] at ow2
      have oc := j165_ q4
      rw [← s5.1, ← s6.2.1] at oc
      have ne := nm_eq cn_.1 ow2 oc ⟨s1, s2⟩
      have nd := m_named q8 d ⟨by omega, by omega⟩
      rw [← s5.1, ← s6.2.1, ← hc] at nd
      have fe : v1585'.toInt = 0 → _ := fun z => fn_eq nm s6.2.2.1 (by have := cn_.2 (by omega); unfold PKN; exact this) cf nd z
      have mf := m_faults q12
      by_cases z0 : v1585'.toInt = 0
      · have fe1 := fe z0
        exact ⟨⟨by omega, by omega, fun z => by first | exact s3 (by omega) | omega⟩, fun z => by first | exact ⟨s6.1, by omega, by omega, by omega⟩ | omega⟩
      · have nm1 : ¬ (1 ≤ x9.toInt) ∨ True := .inr trivial
        exact ⟨⟨by omega, by omega, fun z => by omega⟩, fun z => by omega⟩
    · exact h3.elim
  · have po := pw_word c d p5 h1 r
    obtain ⟨⟨s1, s2, s3⟩, s4⟩ := po
    have gw := m_goesWell h2
    have wb := c_wI_2 p7 c
    have e1_ : (1 : Int32).toInt = 1 := by decide
    have e3_ : (3 : Int32).toInt = 3 := by decide
    have e0_ : (0 : Int32).toInt = 0 := by decide
    have e2_ : (2 : Int32).toInt = 2 := by decide
    have xe0 := xie e0
    subst xe0
    have xe1 := xie e1
    subst xe1
    have xe2 := xie e2
    subst xe2
    have xe3 := xie e3
    subst xe3
    have xe4 := xie e4
    subst xe4
    have fz := fz_R_name p11
    have cf := c_find p14
    have kf := c_fail p18
    rcases h3 with ⟨q0, g0, g1, g2⟩ | ⟨r1558', q0, q1, q2, g0, g1, g2⟩ | ⟨r1558', r1561', v1585', v1586', r1593', q0, q1, q2, q3, q4, q5, q6, -, q8, q9, g0, g1, g2⟩ | ⟨r1558', r1561', v1585', v1586', r1593', v1600', v1601', q0, q1, q2, q3, q4, q5, q6, -, q8, q9, q10, q11, q12, g0, g1, g2⟩ | h3
    · exact ⟨⟨by omega, by omega, fun z => by omega⟩, fun z => by omega⟩
    · have s5 := s3 (by omega)
      have s6 := s4 (by omega)
      have ow := m_own q1 d ho ⟨by omega, by omega, by omega⟩
      rw [← s5.1, ← s6.2.1] at ow
      exfalso
      rcases wb with ⟨w1, w2⟩ | ⟨w1, w2⟩
      · omega
      · rw [ow_2] at w2
        rcases ow with ⟨n, o1, o2, o3⟩ | ⟨o1, o2⟩
        · exact w2 (by rw [show 2 = n by omega]; exact o3)
        · omega
    · have s5 := s3 (by omega)
      have s6 := s4 (by omega)
      have ow := m_own q1 d ho ⟨by omega, by omega, by omega⟩
      rw [← s5.1, ← s6.2.1] at ow
      have cn_ := c_name p11 c s6.2.2.1
      have ow2 := m_own q3 d ho ⟨by omega, by omega, by omega⟩
      rw [← s5.1, ← s6.2.1] at ow2
      have oc := j165_ q4
      rw [← s5.1, ← s6.2.1] at oc
      have ne := nm_eq cn_.1 ow2 oc ⟨s1, s2⟩
      have nd := m_named q8 d ⟨by omega, by omega⟩
      rw [← s5.1, ← s6.2.1, ← hc] at nd
      have fe : v1585'.toInt = 0 → _ := fun z => fn_eq nm s6.2.2.1 (by have := cn_.2 (by omega); unfold PKN; exact this) cf nd z
      by_cases z0 : v1585'.toInt = 0
      · have fe1 := fe z0
        exact ⟨⟨by omega, by omega, fun z => by first | exact s3 (by omega) | omega⟩, fun z => by first | exact ⟨s6.1, by omega, by omega, by omega⟩ | omega⟩
      · have nm1 : ¬ (1 ≤ x9.toInt) ∨ True := .inr trivial
        exact ⟨⟨by omega, by omega, fun z => by omega⟩, fun z => by omega⟩
    · have s5 := s3 (by omega)
      have s6 := s4 (by omega)
      have ow := m_own q1 d ho ⟨by omega, by omega, by omega⟩
      rw [← s5.1, ← s6.2.1] at ow
      have cn_ := c_name p11 c s6.2.2.1
      have ow2 := m_own q3 d ho ⟨by omega, by omega, by omega⟩
      rw [← s5.1, ← s6.2.1] at ow2
      have oc := j165_ q4
      rw [← s5.1, ← s6.2.1] at oc
      have ne := nm_eq cn_.1 ow2 oc ⟨s1, s2⟩
      have nd := m_named q8 d ⟨by omega, by omega⟩
      rw [← s5.1, ← s6.2.1, ← hc] at nd
      have fe : v1585'.toInt = 0 → _ := fun z => fn_eq nm s6.2.2.1 (by have := cn_.2 (by omega); unfold PKN; exact this) cf nd z
      have mf := m_faults q12
      by_cases z0 : v1585'.toInt = 0
      · have fe1 := fe z0
        exact ⟨⟨by omega, by omega, fun z => by first | exact s3 (by omega) | omega⟩, fun z => by first | exact ⟨s6.1, by omega, by omega, by omega⟩ | omega⟩
      · have nm1 : ¬ (1 ≤ x9.toInt) ∨ True := .inr trivial
        exact ⟨⟨by omega, by omega, fun z => by omega⟩, fun z => by omega⟩
    · exact h3.elim
  · have po := pw_word c d p5 h1 r
    obtain ⟨⟨s1, s2, s3⟩, s4⟩ := po
    have gw := m_goesWell h2
    have wb := c_wI_2 p7 c
    have e1_ : (1 : Int32).toInt = 1 := by decide
    have e3_ : (3 : Int32).toInt = 3 := by decide
    have e0_ : (0 : Int32).toInt = 0 := by decide
    have e2_ : (2 : Int32).toInt = 2 := by decide
    have xe0 := xie e0
    subst xe0
    have xe1 := xie e1
    subst xe1
    have xe2 := xie e2
    subst xe2
    have xe3 := xie e3
    subst xe3
    have xe4 := xie e4
    subst xe4
    rcases h3 with ⟨q0, g0, g1, g2⟩ | ⟨r1558', q0, q1, q2, g0, g1, g2⟩ | ⟨r1558', r1561', v1585', v1586', r1593', q0, q1, q2, q3, q4, q5, q6, -, q8, q9, g0, g1, g2⟩ | ⟨r1558', r1561', v1585', v1586', r1593', v1600', v1601', q0, q1, q2, q3, q4, q5, q6, -, q8, q9, q10, q11, q12, g0, g1, g2⟩ | h3
    · exact ⟨⟨by omega, by omega, fun z => by omega⟩, fun z => by omega⟩
    · have s5 := s3 (by omega)
      have s6 := s4 (by omega)
      have ow := m_own q1 d ho ⟨by omega, by omega, by omega⟩
      rw [← s5.1, ← s6.2.1] at ow
      exact ⟨⟨by omega, by omega, fun z => s3 (by omega)⟩, fun z => ⟨s6.1, by omega, by omega, by omega⟩⟩
    · have s5 := s3 (by omega)
      have s6 := s4 (by omega)
      have ow := m_own q1 d ho ⟨by omega, by omega, by omega⟩
      rw [← s5.1, ← s6.2.1] at ow
      exfalso
      rcases wb with ⟨w1, w2⟩ | ⟨w1, w2⟩
      · rw [ow_2] at w2
        rcases ow with ⟨n, o1, o2, o3⟩ | ⟨o1, o2⟩
        · have := o3.uq w2 o1 (by decide); omega
        · exact o2 _ (by decide) w2
      · omega
    · have s5 := s3 (by omega)
      have s6 := s4 (by omega)
      have ow := m_own q1 d ho ⟨by omega, by omega, by omega⟩
      rw [← s5.1, ← s6.2.1] at ow
      exfalso
      rcases wb with ⟨w1, w2⟩ | ⟨w1, w2⟩
      · rw [ow_2] at w2
        rcases ow with ⟨n, o1, o2, o3⟩ | ⟨o1, o2⟩
        · have := o3.uq w2 o1 (by decide); omega
        · exact o2 _ (by decide) w2
      · omega
    · exact h3.elim
  · exact h.elim
