theorem j_up {v1419 : Int32} {v1420 : Int32} {v1421 : Int32} {v1436 : Int32} {v1451 : Int32} {v1452 : Int32} (h : J_M_readsFlange_384_9 v1419 v1420 v1421 v1436 v1451 v1452)  : (((v1436.toInt = 15 ∨ v1436.toInt = 16) ∧ v1451.toInt = v1420.toInt ∧ v1452.toInt = v1421.toInt) ∨ (¬ (v1436.toInt = 15 ∨ v1436.toInt = 16) ∧ ((¬ v1420.toInt = 0 ∧ v1451.toInt = v1420.toInt ∧ v1452.toInt = v1421.toInt) ∨ (v1420.toInt = 0 ∧ v1451.toInt = 1 ∧ v1452.toInt = v1419.toInt)))) := by
  rcases h with ⟨p0, e0, e1⟩ | ⟨p0, p1, e0, e1⟩ | ⟨v1513, v1514, p0, p1, p2, p3, p4, e0, e1⟩ | h
  · have e1_ : (1 : Int32).toInt = 1 := by decide
    omega
  · have e1_ : (1 : Int32).toInt = 1 := by decide
    omega
  · have i1_ : (1 : Int32).toInt = 1 := by decide
    have k4 := m_faults p4
    have e1_ : (1 : Int32).toInt = 1 := by decide
    omega
  · exact h.elim
theorem j_up2 {v1436 : Int32} {v1463 : Int32} (h : J_M_readsFlange_403_10 v1436 v1463)  : ((v1436.toInt = 15 ∧ v1463.toInt = 1) ∨ (¬ v1436.toInt = 15 ∧ v1463.toInt = 0)) := by
  rcases h with ⟨p0, e0⟩ | ⟨p0, e0⟩ | h
  · omega
  · omega
  · exact h.elim
theorem pw_up {B : Int → Int} {h0_at : Int32} {h0_tokenEnd : Int32} {h0_fault : Int32} {h0_place : Int32} {h0_tape_length : Int32} {f_h0_tape_bytes : (Nat → Int32)} {o_u_h0_at : Int32} {o_u_h0_tokenStart : Int32} {o_u_h0_tokenEnd : Int32} {o_u_h0_fault : Int32} {o_u_h0_place : Int32} {o_r : Int32} {h0_size' : Int32} {h0_at' : Int32} {h0_from' : Int32} {h0_wrong' : Int32} {h0_wrongAt' : Int32} {f_h0_tape' : (Nat → Int32)} {o_u_h0_at' : Int32} {o_u_h0_from' : Int32} {o_u_h0_wrong' : Int32} {o_u_h0_wrongAt' : Int32} {ol : Nat → Int32} {r9 w9 x9 xa9 u9 : Int32} (c : cTB f_h0_tape_bytes h0_tape_length B) (d : rTB f_h0_tape' h0_size' B) (h : S_R_isUp h0_at h0_tokenEnd h0_fault h0_place h0_tape_length f_h0_tape_bytes o_u_h0_at o_u_h0_tokenStart o_u_h0_tokenEnd o_u_h0_fault o_u_h0_place o_r) (h1 : S_M_word h0_size' h0_at' h0_from' h0_wrong' h0_wrongAt' f_h0_tape' o_u_h0_at' o_u_h0_from' o_u_h0_wrong' o_u_h0_wrongAt') (h2 : S_M_goesWell o_u_h0_wrong' r9) (h3 : J_M_readsFlange_359_8 ol f_h0_tape' r9 o_u_h0_at' o_u_h0_from' w9) (h4 : J_M_readsFlange_384_9 o_u_h0_from' o_u_h0_wrong' o_u_h0_wrongAt' w9 x9 xa9) (h5 : J_M_readsFlange_403_10 w9 u9) (ho : pOwn ol) (r : RC B h0_size'.toInt h0_at.toInt h0_tokenEnd.toInt h0_fault.toInt h0_place.toInt h0_at'.toInt h0_wrong'.toInt h0_wrongAt'.toInt) : RC B h0_size'.toInt o_u_h0_at.toInt o_u_h0_tokenEnd.toInt o_u_h0_fault.toInt o_u_h0_place.toInt o_u_h0_at'.toInt x9.toInt xa9.toInt ∧ (o_u_h0_fault.toInt = 0 → h0_fault.toInt = 0 ∧ ((o_r.toInt = 1 ∧ u9.toInt = 1) ∨ (o_r.toInt = 0 ∧ u9.toInt = 0))) := by
  rcases h with ⟨v3, v4, v5, v6, v7, r14, p0, p1, p2, p3, -, p5, p6, p7, p8, e0, e1, e2, e3, e4, e5⟩ | ⟨v3, v4, v5, v6, v7, r14, r18, p0, p1, p2, p3, -, p5, p6, p7, p8, p9, p10, p11, e0, e1, e2, e3, e4, e5⟩ | ⟨v3, v4, v5, v6, v7, r14, r18, v24, v25, p0, p1, p2, p3, -, p5, p6, p7, p8, p9, p10, p11, p12, p13, p14, e0, e1, e2, e3, e4, e5⟩ | h
  · have po := pw_word c d p5 h1 r
    obtain ⟨⟨s1, s2, s3⟩, s4⟩ := po
    have gw := m_goesWell h2
    have ju := j_up h4
    have ju2 := j_up2 h5
    have e1_ : (1 : Int32).toInt = 1 := by decide
    have wu := c_wI_16 p7 c
    rw [ow_16] at wu
    have xe0 := xie e0
    subst xe0
    have xe1 := xie e1
    subst xe1
    have xe2 := xie e2
    subst xe2
    have xe3 := xie e3
    subst xe3
    have xe4 := xie e4
    subst xe4
    have xe5 := xie e5
    subst xe5
    rcases h3 with ⟨q0, g0⟩ | ⟨r1519', q0, q1, g0⟩ | h3
    · have e15_ : (15 : Int32).toInt = 15 := by decide
      exact ⟨⟨by omega, by omega, fun z => by omega⟩, fun z => by omega⟩
    · have s5 := s3 (by omega)
      have s6 := s4 (by omega)
      have ow := m_own q1 d ho ⟨by omega, by omega, by omega⟩
      rw [← s5.1, ← s6.2.1] at ow
      have u15 : OW B o_u_h0_tokenStart.toInt o_u_h0_at.toInt 15 ↔ r1519'.toInt = 15 := by
        constructor
        · intro w; rcases ow with ⟨n, o1, o2, o3⟩ | ⟨o1, o2⟩
          · have := o3.uq w o1 (by decide); omega
          · exact absurd w (o2 _ (by decide))
        · intro w; rcases ow with ⟨n, o1, o2, o3⟩ | ⟨o1, o2⟩
          · rw [show 15 = n by omega]; exact o3
          · omega
      have u16 : OW B o_u_h0_tokenStart.toInt o_u_h0_at.toInt 16 ↔ r1519'.toInt = 16 := by
        constructor
        · intro w; rcases ow with ⟨n, o1, o2, o3⟩ | ⟨o1, o2⟩
          · have := o3.uq w o1 (by decide); omega
          · exact absurd w (o2 _ (by decide))
        · intro w; rcases ow with ⟨n, o1, o2, o3⟩ | ⟨o1, o2⟩
          · rw [show 16 = n by omega]; exact o3
          · omega
      rw [u15] at wu
      exact ⟨⟨by omega, by omega, fun z => by first | exact s3 (by omega) | omega⟩, fun z => by first | exact ⟨s6.1, by omega⟩ | omega⟩
    · exact h3.elim
  · have po := pw_word c d p5 h1 r
    obtain ⟨⟨s1, s2, s3⟩, s4⟩ := po
    have gw := m_goesWell h2
    have ju := j_up h4
    have ju2 := j_up2 h5
    have e1_ : (1 : Int32).toInt = 1 := by decide
    have wu := c_wI_16 p7 c
    rw [ow_16] at wu
    have xe0 := xie e0
    subst xe0
    have xe1 := xie e1
    subst xe1
    have xe2 := xie e2
    subst xe2
    have xe3 := xie e3
    subst xe3
    have xe4 := xie e4
    subst xe4
    have xe5 := xie e5
    subst xe5
    have wd := c_wI_17 p10 c
    rw [ow_17] at wd
    rcases h3 with ⟨q0, g0⟩ | ⟨r1519', q0, q1, g0⟩ | h3
    · have e15_ : (15 : Int32).toInt = 15 := by decide
      exact ⟨⟨by omega, by omega, fun z => by omega⟩, fun z => by omega⟩
    · have s5 := s3 (by omega)
      have s6 := s4 (by omega)
      have ow := m_own q1 d ho ⟨by omega, by omega, by omega⟩
      rw [← s5.1, ← s6.2.1] at ow
      have u15 : OW B o_u_h0_tokenStart.toInt o_u_h0_at.toInt 15 ↔ r1519'.toInt = 15 := by
        constructor
        · intro w; rcases ow with ⟨n, o1, o2, o3⟩ | ⟨o1, o2⟩
          · have := o3.uq w o1 (by decide); omega
          · exact absurd w (o2 _ (by decide))
        · intro w; rcases ow with ⟨n, o1, o2, o3⟩ | ⟨o1, o2⟩
          · rw [show 15 = n by omega]; exact o3
          · omega
      have u16 : OW B o_u_h0_tokenStart.toInt o_u_h0_at.toInt 16 ↔ r1519'.toInt = 16 := by
        constructor
        · intro w; rcases ow with ⟨n, o1, o2, o3⟩ | ⟨o1, o2⟩
          · have := o3.uq w o1 (by decide); omega
          · exact absurd w (o2 _ (by decide))
        · intro w; rcases ow with ⟨n, o1, o2, o3⟩ | ⟨o1, o2⟩
          · rw [show 16 = n by omega]; exact o3
          · omega
      rw [u15] at wu
      rw [u16] at wd
      exact ⟨⟨by omega, by omega, fun z => by first | exact s3 (by omega) | omega⟩, fun z => by first | exact ⟨s6.1, by omega⟩ | omega⟩
    · exact h3.elim
  · have po := pw_word c d p5 h1 r
    obtain ⟨⟨s1, s2, s3⟩, s4⟩ := po
    have gw := m_goesWell h2
    have ju := j_up h4
    have ju2 := j_up2 h5
    have e1_ : (1 : Int32).toInt = 1 := by decide
    have wu := c_wI_16 p7 c
    rw [ow_16] at wu
    have xe0 := xie e0
    subst xe0
    have xe1 := xie e1
    subst xe1
    have xe2 := xie e2
    subst xe2
    have xe3 := xie e3
    subst xe3
    have xe4 := xie e4
    subst xe4
    have xe5 := xie e5
    subst xe5
    have wd := c_wI_17 p10 c
    rw [ow_17] at wd
    have kf := c_fail p14
    rcases h3 with ⟨q0, g0⟩ | ⟨r1519', q0, q1, g0⟩ | h3
    · have e15_ : (15 : Int32).toInt = 15 := by decide
      exact ⟨⟨by omega, by omega, fun z => by omega⟩, fun z => by omega⟩
    · have s5 := s3 (by omega)
      have s6 := s4 (by omega)
      have ow := m_own q1 d ho ⟨by omega, by omega, by omega⟩
      rw [← s5.1, ← s6.2.1] at ow
      have u15 : OW B o_u_h0_tokenStart.toInt o_u_h0_at.toInt 15 ↔ r1519'.toInt = 15 := by
        constructor
        · intro w; rcases ow with ⟨n, o1, o2, o3⟩ | ⟨o1, o2⟩
          · have := o3.uq w o1 (by decide); omega
          · exact absurd w (o2 _ (by decide))
        · intro w; rcases ow with ⟨n, o1, o2, o3⟩ | ⟨o1, o2⟩
          · rw [show 15 = n by omega]; exact o3
          · omega
      have u16 : OW B o_u_h0_tokenStart.toInt o_u_h0_at.toInt 16 ↔ r1519'.toInt = 16 := by
        constructor
        · intro w; rcases ow with ⟨n, o1, o2, o3⟩ | ⟨o1, o2⟩
          · have := o3.uq w o1 (by decide); omega
          · exact absurd w (o2 _ (by decide))
        · intro w; rcases ow with ⟨n, o1, o2, o3⟩ | ⟨o1, o2⟩
          · rw [show 16 = n by omega]; exact o3
          · omega
      rw [u15] at wu
      rw [u16] at wd
      exact ⟨⟨by omega, by omega, fun z => by first | exact s3 (by omega) | omega⟩, fun z => by first | exact ⟨s6.1, by omega⟩ | omega⟩
    · exact h3.elim
  · exact h.elim
