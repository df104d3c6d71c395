/-- what is known of the flanges that were told, for a width (f: the one that is told; p, s: its place) -/
def WD (par sid frm wid hei rd : Nat → Int32) (f p s : Int) : Prop := 1 ≤ f ∧ 0 ≤ s ∧ s ≤ 3 ∧ 0 ≤ p ∧ p < f ∧ gG par f = p ∧ gG sid f = s ∧ gG frm f = gG rd (31 + f) ∧ 0 ≤ gG frm f ∧ gG frm f ≤ 59 ∧
  (∀ g : Int, 1 ≤ g → g < f → gG par g = gG rd (13 + g) ∧ gG sid g = gG rd (22 + g) ∧ gG frm g = gG rd (31 + g) ∧ gG wid g = gG rd (40 + g) ∧ gG hei g = gG rd (49 + g) ∧ 0 ≤ gG frm g ∧ gG frm g ≤ 59 ∧ 1 ≤ gG wid g ∧ gG wid g ≤ 60) ∧
  gG sid 0 = 0 ∧ gG wid 0 = gG rd 1 ∧ gG hei 0 = gG rd 2
theorem len_eq {par sid frm wid hei rd : Nat → Int32} {f p s L R : Int} (D : WD par sid frm wid hei rd f p s) (l1 : ((((gG sid (gG par f) = 0 ∨ gG sid (gG par f) = 2) ↔ (gG sid f = 0 ∨ gG sid f = 2)) ∧ L = gG wid (gG par f)) ∨ (¬ ((gG sid (gG par f) = 0 ∨ gG sid (gG par f) = 2) ↔ (gG sid f = 0 ∨ gG sid f = 2)) ∧ L = gG hei (gG par f)))) (so : (p = 0 ∧ (((s = 0 ∨ s = 2) ∧ R = gG rd 1) ∨ (¬ (s = 0 ∨ s = 2) ∧ R = gG rd 2))) ∨ (¬ p = 0 ∧ ((((gG rd (22 + p) = 0 ∨ gG rd (22 + p) = 2) ↔ (s = 0 ∨ s = 2)) ∧ R = gG rd (40 + p)) ∨ (¬ ((gG rd (22 + p) = 0 ∨ gG rd (22 + p) = 2) ↔ (s = 0 ∨ s = 2)) ∧ R = gG rd (49 + p))))) : L = R := by
  obtain ⟨wf, ws0, ws3, wp0, wpf, ep, es, ef, ef0, ef1, dd, d0s, d0w, d0h⟩ := D
  rw [ep, es] at l1
  by_cases e0 : p = 0
  · subst e0
    rw [d0s, d0w, d0h] at l1
    obtain ⟨_, so'⟩ := so.resolve_right (fun q => q.1 rfl)
    clear dd so
    rcases l1 with ⟨a, b⟩ | ⟨a, b⟩ <;> rcases so' with ⟨a2, b2⟩ | ⟨a2, b2⟩ <;> omega
  · have d9 := dd p (by omega) (by omega)
    rw [d9.2.1, d9.2.2.2.1, d9.2.2.2.2.1] at l1
    obtain ⟨_, so'⟩ := so.resolve_left (fun q => e0 q.1)
    rcases l1 with ⟨a, b⟩ | ⟨a, b⟩
    · rcases so' with ⟨a2, b2⟩ | ⟨a2, b2⟩
      · exact b.trans b2.symm
      · exact absurd a a2
    · rcases so' with ⟨a2, b2⟩ | ⟨a2, b2⟩
      · exact absurd a2 a
      · exact b.trans b2.symm
theorem sh_eq {par sid frm wid hei rd : Nat → Int32} {f p s zf v q : Int} (D : WD par sid frm wid hei rd f p s) (hz : zf = gG rd (31 + f)) (hv : gG wid f = v) (q1 : 1 ≤ q) (q2 : q < f) : SHR par sid frm wid (gG par f) (gG sid f) (gG frm f) (gG wid f) q ↔ (gG rd (13 + q) = p ∧ gG rd (22 + q) = s ∧ zf < gG rd (31 + q) + gG rd (40 + q) ∧ gG rd (31 + q) < zf + v) := by
  obtain ⟨wf, ws0, ws3, wp0, wpf, ep, es, ef, ef0, ef1, dd, d0s, d0w, d0h⟩ := D
  have d := dd q q1 q2
  unfold SHR
  rw [ep, es, ef, hv, ← hz, d.1, d.2.1, d.2.2.1, d.2.2.2.1]
theorem cw_pair {par sid frm wid hei rd : Nat → Int32} {f p s F P F2 P2 W WA w1 wa1 w2 wa2 t fr L R v zf z25 o : Int} (D : WD par sid frm wid hei rd f p s) (hv : gG wid f = v) (l1 : ((((gG sid (gG par f) = 0 ∨ gG sid (gG par f) = 2) ↔ (gG sid f = 0 ∨ gG sid f = 2)) ∧ L = gG wid (gG par f)) ∨ (¬ ((gG sid (gG par f) = 0 ∨ gG sid (gG par f) = 2) ↔ (gG sid f = 0 ∨ gG sid f = 2)) ∧ L = gG hei (gG par f)))) (ck : ((L < gG frm f + gG wid f ∨ ∃ q : Int, 1 ≤ q ∧ q < f ∧ SHR par sid frm wid (gG par f) (gG sid f) (gG frm f) (gG wid f) q) ∧ ((¬ F = 0 ∧ F2 = F ∧ P2 = P) ∨ (F = 0 ∧ F2 = 4 ∧ P2 = t))) ∨ (gG frm f + gG wid f ≤ L ∧ (∀ q : Int, 1 ≤ q → q < f → ¬ SHR par sid frm wid (gG par f) (gG sid f) (gG frm f) (gG wid f) q) ∧ F2 = F ∧ P2 = P)) (so : (p = 0 ∧ (((s = 0 ∨ s = 2) ∧ R = gG rd 1) ∨ (¬ (s = 0 ∨ s = 2) ∧ R = gG rd 2))) ∨ (¬ p = 0 ∧ ((((gG rd (22 + p) = 0 ∨ gG rd (22 + p) = 2) ↔ (s = 0 ∨ s = 2)) ∧ R = gG rd (40 + p)) ∨ (¬ ((gG rd (22 + p) = 0 ∨ gG rd (22 + p) = 2) ↔ (s = 0 ∨ s = 2)) ∧ R = gG rd (49 + p))))) (m1 : (z25 ≤ R ∧ w1 = W ∧ wa1 = WA) ∨ (R < z25 ∧ ((¬ W = 0 ∧ w1 = W ∧ wa1 = WA) ∨ (W = 0 ∧ w1 = 4 ∧ wa1 = fr)))) (mi : ((∀ q : Int, 1 ≤ q → q < o → ¬ (gG rd (13 + q) = p ∧ gG rd (22 + q) = s ∧ zf < gG rd (31 + q) + gG rd (40 + q) ∧ gG rd (31 + q) < zf + v)) ∧ w2 = w1 ∧ wa2 = wa1) ∨ ((∃ q : Int, 1 ≤ q ∧ q < f ∧ (gG rd (13 + q) = p ∧ gG rd (22 + q) = s ∧ zf < gG rd (31 + q) + gG rd (40 + q) ∧ gG rd (31 + q) < zf + v)) ∧ ((w1 = 0 ∧ w2 = 4 ∧ wa2 = fr) ∨ (¬ w1 = 0 ∧ w2 = w1 ∧ wa2 = wa1)))) (ho : f ≤ o) (hz : zf = gG rd (31 + f)) (h25 : z25 = zf + v) (hF : F = 0) (hW : W = 0) (hP : P = WA) (ht : t = fr) : F2 = w2 ∧ P2 = wa2 := by
  have hL := len_eq D l1 so
  have ef := D.2.2.2.2.2.2.2.1
  rw [hv, ef, ← hz, ← h25, hL] at ck
  subst hF hW hP ht
  have sh := fun q q1 q2 => sh_eq (q := q) D hz hv q1 q2
  rw [hv, ef, ← hz] at sh
  clear so l1
  rcases ck with ⟨c1, c2⟩ | ⟨c1, c2, c3, c4⟩
  · have g : F2 = 4 ∧ P2 = t := by
      rcases c2 with ⟨a, _⟩ | ⟨_, a⟩
      · exact absurd rfl a
      · exact a
    have k : w2 = 4 ∧ wa2 = t := by
      rcases c1 with c1 | ⟨q, q1, q2, q3⟩
      · have m : w1 = 4 ∧ wa1 = t := by
          rcases m1 with ⟨a, _⟩ | ⟨_, ⟨a, _⟩ | ⟨_, a⟩⟩
          · omega
          · exact absurd rfl a
          · exact a
        rcases mi with ⟨_, a, b⟩ | ⟨_, ⟨a, _⟩ | ⟨_, a, b⟩⟩
        · exact ⟨a.trans m.1, b.trans m.2⟩
        · have := m.1; omega
        · exact ⟨a.trans m.1, b.trans m.2⟩
      · rcases mi with ⟨a, _⟩ | ⟨_, ⟨_, a⟩ | ⟨a, b, c⟩⟩
        · exact absurd ((sh q q1 q2).mp q3) (a q q1 (by omega))
        · exact a
        · rcases m1 with ⟨_, m, _⟩ | ⟨_, ⟨m, _⟩ | ⟨_, m⟩⟩
          · exact absurd m a
          · exact absurd rfl m
          · exact ⟨b.trans m.1, c.trans m.2⟩
    exact ⟨g.1.trans k.1.symm, g.2.trans k.2.symm⟩
  · have m : w1 = 0 ∧ wa1 = P := by
      rcases m1 with ⟨_, a⟩ | ⟨a, _⟩
      · exact a
      · omega
    have k : w2 = w1 ∧ wa2 = wa1 := by
      rcases mi with ⟨_, a⟩ | ⟨⟨q, q1, q2, q3⟩, _⟩
      · exact a
      · exact absurd ((sh q q1 q2).mpr q3) (c2 q q1 q2)
    exact ⟨c3.trans (k.1.trans m.1).symm, c4.trans (k.2.trans m.2).symm⟩
theorem WD.b {par sid frm wid hei rd : Nat → Int32} {f p s v : Int} (D : WD par sid frm wid hei rd f p s) (hv : gG wid f = v) (v1 : 1 ≤ v ∧ v ≤ 60) : ∀ g : Int, 1 ≤ g → g ≤ f → 0 ≤ gG frm g ∧ gG frm g ≤ 59 ∧ 1 ≤ gG wid g ∧ gG wid g ≤ 60 := by
  obtain ⟨wf, ws0, ws3, wp0, wpf, ep, es, ef, ef0, ef1, dd, d0s, d0w, d0h⟩ := D
  intro g g1 g2
  by_cases e : g = f
  · rw [e, hv]; exact ⟨ef0, ef1, v1.1, v1.2⟩
  · exact (dd g g1 (by omega)).2.2.2.2.2
theorem WD.zb {par sid frm wid hei rd : Nat → Int32} {f p s z : Int} (D : WD par sid frm wid hei rd f p s) (e : z = gG rd (31 + f)) : 0 ≤ z ∧ z ≤ 59 := by
  have h := D.2.2.2.2.2.2.2
  rw [e, ← h.1]; exact ⟨h.2.1, h.2.2.1⟩
theorem WD.rb {par sid frm wid hei rd : Nat → Int32} {f p s : Int} (D : WD par sid frm wid hei rd f p s) : ∀ g : Int, 1 ≤ g → g < f → 0 ≤ gG rd (31 + g) ∧ gG rd (31 + g) ≤ 59 ∧ 1 ≤ gG rd (40 + g) ∧ gG rd (40 + g) ≤ 60 := by
  intro g g1 g2
  have d := D.2.2.2.2.2.2.2.2.2.2.1 g g1 g2
  rw [← d.2.2.1, ← d.2.2.2.1]; exact d.2.2.2.2.2
theorem pw_width {B : Int → Int} {h0_at : Int32} {h0_tokenEnd : Int32} {h0_fault : Int32} {h0_place : Int32} {h0_tape_length : Int32} {f_h0_tape_bytes : (Nat → Int32)} {o_u_h0_at : Int32} {o_u_h0_tokenStart : Int32} {o_u_h0_tokenEnd : Int32} {o_u_h0_fault : Int32} {o_u_h0_place : Int32} {o_r : Int32} {xf f2 p2 : Int32} {par sid frm wid hei : Nat → Int32} {PP_ SS_ : Int} {x1' : Int32} {x2' : Int32} {x3' : Int32} {h0_size' : Int32} {h0_at' : Int32} {h0_from' : Int32} {h0_wrong' : Int32} {h0_wrongAt' : Int32} {f_h0_tape' : (Nat → Int32)} {f_h0_read' : (Nat → Int32)} {o_u_h0_at' : Int32} {o_u_h0_from' : Int32} {o_u_h0_wrong' : Int32} {o_u_h0_wrongAt' : Int32} {o_u_h0_read' : (Nat → Int32)} (c : cTB f_h0_tape_bytes h0_tape_length B) (d : rTB f_h0_tape' h0_size' B) (h : S_R_number (1 : Int32) (60 : Int32) h0_at h0_tokenEnd h0_fault h0_place h0_tape_length f_h0_tape_bytes o_u_h0_at o_u_h0_tokenStart o_u_h0_tokenEnd o_u_h0_fault o_u_h0_place o_r) (k : S_R_checkWidth xf o_u_h0_tokenStart o_u_h0_fault o_u_h0_place frm wid par sid hei f2 p2) (h' : S_M_readsWidth x1' x2' x3' h0_size' h0_at' h0_from' h0_wrong' h0_wrongAt' f_h0_tape' f_h0_read' o_u_h0_at' o_u_h0_from' o_u_h0_wrong' o_u_h0_wrongAt' o_u_h0_read') (hw : gG wid xf.toInt = o_r.toInt) (hx1 : x1'.toInt = xf.toInt) (hx2 : x2'.toInt = PP_) (hx3 : x3'.toInt = SS_) (hd : h0_fault.toInt = 0 → WD par sid frm wid hei f_h0_read' xf.toInt PP_ SS_) (r : RC B h0_size'.toInt h0_at.toInt h0_tokenEnd.toInt h0_fault.toInt h0_place.toInt h0_at'.toInt h0_wrong'.toInt h0_wrongAt'.toInt) : RC B h0_size'.toInt o_u_h0_at.toInt o_u_h0_tokenEnd.toInt f2.toInt p2.toInt o_u_h0_at'.toInt o_u_h0_wrong'.toInt o_u_h0_wrongAt'.toInt ∧ (f2.toInt = 0 → h0_fault.toInt = 0 ∧ 1 ≤ o_r.toInt ∧ o_r.toInt ≤ 60 ∧ ∃ z : Int32, o_u_h0_read' = upd f_h0_read' z.toNatClampNeg o_r ∧ z.toInt = 40 + xf.toInt) := by
  rcases h' with ⟨v3', v4', v5', v6', r1', r15', z20', z23', z25', r27', v37', v38', v739', v740', v741', z853', f856', q0, q1, q2, -, q4, q5, -, q7, q8, -, q10, q11, q12, q13, q14, q15, q16, q17, q18, q19, q20, q21, q22, q23, g0, g1, g2, g3, g4⟩ | ⟨v3', v4', v5', v6', r1', r15', q0, q1, q2, -, -, q5, -, q7, q8, -, q10, q11, g0, g1, g2, g3, g4⟩ | h'
  · have po := pw_num c d h q7 r ⟨rfl, rfl⟩
    obtain ⟨⟨s1, s2, s3⟩, s4⟩ := po
    have gw := m_goesWell q10
    have xg0 := xie g0
    subst xg0
    have xg1 := xie g1
    subst xg1
    have xg2 := xie g2
    subst xg2
    have xg3 := xie g3
    subst xg3
    have w0 := b11 gw q11
    have z0 := s1.trans w0
    have s5 := s3 z0
    have s6 := s4 z0
    have D := hd s6.1
    have v1 := q4.resolve_left (fun z => z w0)
    have e23 : z23'.toInt = gG f_h0_read' (31 + xf.toInt) := q13.trans (congrArg _ (q12.trans (by rw [hx1])))
    have hv : gG wid xf.toInt = r1'.toInt := hw.trans s6.2.1
    obtain ⟨L_, l1, ck⟩ := c_check k (WD.b D hv v1) D.1
    have so := m_sideOf q15 (by rw [hx3]; exact ⟨D.2.1, D.2.2.1⟩)
    have zb := D.zb e23
    obtain ⟨mi1, mi⟩ := i_mw q18 ⟨v1.1, v1.2, zb.1, zb.2⟩ (by rw [hx1]; exact D.rb)
    have m1 := j_mw1 q16
    rw [hx2, hx3] at so
    rw [hx1, hx2, hx3] at mi
    have a9 := za q14 rfl rfl (by omega)
    have key := cw_pair D hv l1 ck so m1 mi (by rw [← hx1]; exact q21) e23 a9 z0 w0 s2 s6.2.2
    exact ⟨⟨key.1, key.2, fun _ => s5⟩, fun _ => ⟨s6.1, by rw [s6.2.1]; exact v1.1, by rw [s6.2.1]; exact v1.2, ⟨_, g4.trans (q23.trans (by rw [xie s6.2.1])), q22.trans (by rw [hx1])⟩⟩⟩
  · have po := pw_num c d h q7 r ⟨rfl, rfl⟩
    obtain ⟨⟨s1, s2, s3⟩, s4⟩ := po
    have gw := m_goesWell q10
    have xg0 := xie g0
    subst xg0
    have xg1 := xie g1
    subst xg1
    have xg2 := xie g2
    subst xg2
    have xg3 := xie g3
    subst xg3
    have nw := b10 gw q11
    have nf : ¬ o_u_h0_fault.toInt = 0 := fun z => nw (s1.symm.trans z)
    have fz := fz_R_checkWidth k nf
    have nf2 : ¬ f2.toInt = 0 := fun z => nf (fz.1.symm.trans z)
    exact ⟨⟨fz.1.trans s1, fz.2.trans s2, fun z => absurd z nf2⟩, fun z => absurd z nf2⟩
  · exact h'.elim
