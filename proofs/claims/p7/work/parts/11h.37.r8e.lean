theorem RC.init {B : Int → Int} {n : Int} (h : TXB B n) : RC B n ((0 : Int32).toInt) ((-1 : Int32).toInt) ((0 : Int32).toInt) ((-1 : Int32).toInt) 0 0 (-1) := by
  refine ⟨by decide, by decide, fun _ => ⟨by decide, by decide, h.1, .inr ⟨by decide, ?_⟩⟩⟩
  have e : B ((0 : Int32).toInt - 1) = -1 := h.2.2.1 _ (by decide)
  unfold alB
  rw [e]; decide
theorem nk_ {k a n : Int} (h : k + 1 ≤ a) (h2 : a ≤ n) (h3 : n ≤ 1200) (h4 : 1200 ≤ k) : False := by omega
theorem nk2 {k : Int} (h : k < 1200) (h4 : 1200 ≤ k) : False := by omega
theorem le_k {a b : Int} (h : a < b + 1) : a ≤ b := by omega
theorem lp_base {B : Int → Int} {sz at_ F P at2 W WA th q1 q2 q3 rd4 : Int} {st x1 x2 x3 : Int32} {par rad nam sid frm wid hei tw td rn rd fn fa fb fc fd : Nat → Int32} {w : Int} (r : RC B sz at_ (-1) F P at2 W WA) (hz : F = 0 → st = 0 + 1 ∧ th = q1 ∧ gG wid 0 = q2 ∧ gG hei 0 = q3 ∧ 1 ≤ at_) (ht : ∀ r : Int, 0 ≤ r → r ≤ 9 → gG td r = -1) (hs : gG sid 0 = 0) (v2 : 21 ≤ w) (z2 : ∀ j : Int, 0 ≤ j → j < w → (j < 11 ∧ gG fn j = 0) ∨ (11 ≤ j ∧ gG fn j = -1)) (u0 : rn = upd fn (1 : Int32).toNatClampNeg (30 : Int32)) {v : Int} (v1 : 103 ≤ v) (z1 : ∀ j : Int, 0 ≤ j → j < v → gG fa j = 0) (u1 : fb = upd fa (3 : Int32).toNatClampNeg (1 : Int32)) (u2 : fc = upd fb (0 : Int32).toNatClampNeg x1) (u3 : fd = upd fc (1 : Int32).toNatClampNeg x2) (u4 : rd = upd fd (2 : Int32).toNatClampNeg x3) (e1 : q1 = x1.toInt) (e2 : q2 = x2.toInt) (e3 : q3 = x3.toInt) (g4 : rd4 = gG fb 4) : PLP B sz par rad nam sid frm wid hei tw td rd rn at_ F P ((1 : Int32).toInt) ((0 : Int32).toInt) ((30 : Int32).toInt) st.toInt ((0 : Int32).toInt) th ((1 : Int32).toInt) rd4 ((1 : Int32).toInt) at2 W WA := by
  have i0 : (0 : Int32).toInt = 0 := by decide
  have i1 : (1 : Int32).toInt = 1 := by decide
  have i2 : (2 : Int32).toInt = 2 := by decide
  have i3 : (3 : Int32).toInt = 3 := by decide
  refine ⟨r, fun z => ?_⟩
  obtain ⟨h1, h2, h3, h4, h5⟩ := hz z
  refine ⟨⟨⟨by decide, by decide, rfl⟩, fun g g1 g2 => ?_, fun g g1 g2 => ?_, ⟨hs, ?_, ?_⟩, ⟨⟨by decide, by decide, fun t t0 t1 => ?_⟩, ?_⟩, ⟨fun r r1 r9 => ?_, ?_⟩, ?_⟩, by rw [h1]; decide, by rw [i0]; omega⟩
  · rw [i1] at g2; omega
  · rw [i1] at g2; omega
  · rw [gU_ne u4 i2 (by decide), gU_eq u3 i1, h3, e2]
  · rw [gU_eq u4 i2, h4, e3]
  · rw [i0] at t1; omega
  · rw [g4, gU_ne u1 i3 (by decide), z1 4 (by decide) (by omega), i0]
  · rw [ht r (by omega) r9, gU_ne u0 i1 ⟨by omega, by omega, by omega⟩]
    rcases z2 (11 + r) (by omega) (by omega) with ⟨a, _⟩ | ⟨_, a⟩
    · omega
    · exact a.symm
  · rw [gU_eq u0 i1]
  · rw [gU_ne u4 i2 (by decide), gU_ne u3 i1 (by decide), gU_eq u2 i0, h2, e1]
theorem lp_fin {B : Int → Int} {f_y1_told : (Nat → Int32)} {h0_tape_length : Int32} {f_h0_tape_bytes : (Nat → Int32)} {f_y1_width : (Nat → Int32)} {f_y1_height : (Nat → Int32)} {f_y1_parent : (Nat → Int32)} {f_y1_radius : (Nat → Int32)} {f_y1_name : (Nat → Int32)} {f_y1_side : (Nat → Int32)} {f_y1_from : (Nat → Int32)} {f_y1_toolWidth : (Nat → Int32)} {o_u_h0_at : Int32} {o_u_h0_tokenStart : Int32} {o_u_h0_fault : Int32} {o_u_h0_place : Int32} {o_u_y1_count : Int32} {o_u_y1_statements : Int32} {o_u_y1_thick : Int32} {o_u_y1_punch : Int32} {o_u_y1_ups : Int32} {o_u_y1_toolCount : Int32} {o_u_y1_told : (Nat → Int32)} {o_u_y1_width : (Nat → Int32)} {o_u_y1_height : (Nat → Int32)} {o_u_y1_parent : (Nat → Int32)} {o_u_y1_radius : (Nat → Int32)} {o_u_y1_name : (Nat → Int32)} {o_u_y1_side : (Nat → Int32)} {o_u_y1_from : (Nat → Int32)} {o_u_y1_toolWidth : (Nat → Int32)} {h0_size' : Int32} {h0_at' : Int32} {h0_from' : Int32} {h0_wrong' : Int32} {h0_wrongAt' : Int32} {f_h0_read' : (Nat → Int32)} {f_h0_readNow' : (Nat → Int32)} {f_h0_tape' : (Nat → Int32)} {f_h0_ownLetters' : (Nat → Int32)} {o_u_h0_at' : Int32} {o_u_h0_from' : Int32} {o_u_h0_wrong' : Int32} {o_u_h0_wrongAt' : Int32} {o_u_h0_read' : (Nat → Int32)} {o_u_h0_read_3' : Int32} {o_u_h0_read_4' : Int32} {o_u_h0_readNow' : (Nat → Int32)} {o_r' : Int32} (c : cTB f_h0_tape_bytes h0_tape_length B) (d : rTB f_h0_tape' h0_size' B) (h : S_R_read f_y1_told h0_tape_length f_h0_tape_bytes f_y1_width f_y1_height f_y1_parent f_y1_radius f_y1_name f_y1_side f_y1_from f_y1_toolWidth o_u_h0_at o_u_h0_tokenStart o_u_h0_fault o_u_h0_place o_u_y1_count o_u_y1_statements o_u_y1_thick o_u_y1_punch o_u_y1_ups o_u_y1_toolCount o_u_y1_told o_u_y1_width o_u_y1_height o_u_y1_parent o_u_y1_radius o_u_y1_name o_u_y1_side o_u_y1_from o_u_y1_toolWidth) (h' : S_M_readsAll h0_size' h0_at' h0_from' h0_wrong' h0_wrongAt' f_h0_read' f_h0_readNow' f_h0_tape' f_h0_ownLetters' o_u_h0_at' o_u_h0_from' o_u_h0_wrong' o_u_h0_wrongAt' o_u_h0_read' o_u_h0_read_3' o_u_h0_read_4' o_u_h0_readNow' o_r') (ho : pOwn f_h0_ownLetters') (hat : h0_at'.toInt = 0) (hwr : h0_wrong'.toInt = 0) (hwa : h0_wrongAt'.toInt = -1) (hs0 : gG f_y1_side 0 = 0) : o_u_h0_fault.toInt = o_u_h0_wrong'.toInt ∧ o_u_h0_place.toInt = o_u_h0_wrongAt'.toInt ∧ (o_u_h0_fault.toInt = 0 → DCS o_u_y1_parent o_u_y1_radius o_u_y1_name o_u_y1_side o_u_y1_from o_u_y1_width o_u_y1_height o_u_y1_toolWidth o_u_y1_told o_u_h0_read' o_u_h0_readNow' o_u_y1_count.toInt o_u_y1_toolCount.toInt o_u_y1_punch.toInt o_u_y1_thick.toInt o_u_h0_read_3'.toInt o_u_h0_read_4'.toInt ∧ o_u_y1_statements.toInt = o_r'.toInt) := by
  rcases h with ⟨f3, v7, v8, v9, v10, v11, v12, f13, f14, v1949, fn1950, fn1951, fn1952, fn1953, fn1954, fn1955, fn1956, v1957, v1958, v1959, v1960, v1961, v1962, v1963, v1964, v1965, fn1966, fn1967, p0, p1, p2, p3, -, p5, p6, p7, p8, p9, p10, p11, p12, p13, e0, e1, e2, e3, e4, e5, e6, e7, e8, e9, e10, e11, e12, e13, e14, e15, e16, e17, e18⟩ | ⟨f3, v7, v8, v9, v10, v11, v12, f13, f14, v1949, fn1950, fn1951, fn1952, fn1953, fn1954, fn1955, fn1956, v1957, v1958, v1959, v1960, v1961, v1962, v1963, v1964, v1965, fn1966, fn1967, p0, p1, p2, p3, -, p5, p6, p7, p8, p9, p10, p11, p12, p13, p14, e0, e1, e2, e3, e4, e5, e6, e7, e8, e9, e10, e11, e12, e13, e14, e15, e16, e17, e18⟩ | ⟨f3, v7, v8, v9, v10, v11, v12, f13, f14, v1949, fn1950, fn1951, fn1952, fn1953, fn1954, fn1955, fn1956, v1957, v1958, v1959, v1960, v1961, v1962, v1963, v1964, v1965, fn1966, fn1967, v2248, v2249, r2246, p0, p1, p2, p3, -, p5, p6, p7, p8, p9, p10, p11, p12, p13, p14, p15, p16, p17, -, p19, p20, e0, e1, e2, e3, e4, e5, e6, e7, e8, e9, e10, e11, e12, e13, e14, e15, e16, e17, e18⟩ | h
  · skip
    refine h' _ ⟨?_, ?_, ?_, trivial⟩
    · intros v7795' fn7796' v13626' fn13627' f14587' f14590' g14594' v14599' v14600' v14601' v14602' v14611' v14612' v14613' v14614' r14609' f14623' v14630' v14631' v14632' v14633' r14628' f14642' v14649' v14650' v14651' v14652' r14647' f14661' v14668' v14669' v14670' v15337' fn15338' v15339' v15340' fn15341' v15342' v15343' v15344' v15345' r15450' q0 q1 q2 q3 q4 q5 q6 q7 q8 q9 q10 q11 q12 q13 q14 q15 q16 q17 q18 q19 q20 q21 q22 q23 q24 q25 q26 q27 q28 q29 q30 q31 q32 q33 q34 q35 q36 q37 q38 q39 q40 q41 q42 q43 q44 q45 q46 q47 q48 q49 q50 q51 q52 q53 q54 q55 q56 g0 g1 g2 g3 g4 g5 g6 g7 g8
      clear q13 q18 q19 q21 q27 q28 q30 q36 q37 q39 q45 q54
      have hb := c_begin p0
      have zz1 := i_z1 q0
      have zz2 := i_z2 q3
      have r0 : RC B h0_size'.toInt ((0 : Int32).toInt) ((-1 : Int32).toInt) ((0 : Int32).toInt) ((-1 : Int32).toInt) h0_at'.toInt h0_wrong'.toInt h0_wrongAt'.toInt := by rw [hat, hwr, hwa]; exact RC.init d.1
      have b := pw_sheet c d p5 q14 q22 q31 q40 q46 ho r0
      have hE := lp_base (par := f_y1_parent) (rad := f_y1_radius) (nam := f_y1_name) (frm := f_y1_from) (tw := f_y1_toolWidth) b.1 b.2 hb hs0 q5 zz2.2 q6 q2 zz1.2 q7 q23 q32 q41 rfl rfl rfl q8
      have h0 : v14669'.toInt = 0 → (1 : Int32).toInt ≤ v14668'.toInt := fun z => by
        have f0 := b.1.1.trans z
        rw [← (b.1.2.2 f0).1]
        exact (b.2 f0).2.2.2.2
      have hR := p6
      have hM := q47
      rw [e2, e3, g2, g3, e4, e5, e6, e7, e9, e10, e11, e12, e13, e14, e15, e16, e17, e18, g4, g5, g6, g7, g8]
      have nW := b10 (m_goesWell q55) q56
      rcases Int.lt_trichotomy v15337'.toInt (v1949.toInt + 1) with hk | hk | hk
      · obtain ⟨v0, s, s1, s2, s4, s3⟩ := lp_D c d ho h0 hE hR v15337' fn15338' v15339' v15340' fn15341' v15342' v15343' v15344' v15345' hM (le_k hk)
        exact absurd v0 nW
      · have PP := lp_A c d ho h0 hE hR v15337' fn15338' v15339' v15340' fn15341' v15342' v15343' v15344' v15345' hM hk
        have nF : ¬ v1959.toInt = 0 := fun z => nk_ (PP.2 z).2.2 (PP.1.2.2 z).2.2.1 d.1.2.1 p13
        exact ⟨PP.1.1, PP.1.2.1, fun z => absurd z nF⟩
      · obtain ⟨F0, ⟨s, s1, s2⟩, kl⟩ := lp_E c d ho h0 hE hM v1949 fn1950 fn1951 fn1952 fn1953 fn1954 fn1955 fn1956 v1957 v1958 v1959 v1960 v1961 v1962 v1963 v1964 v1965 fn1966 fn1967 hR hk
        exact (nk2 kl p13).elim
    · intros v7795' fn7796' v13626' fn13627' f14587' f14590' g14594' v14599' v14600' v14601' v14602' v14611' v14612' v14613' v14614' r14609' f14623' v14630' v14631' v14632' v14633' r14628' f14642' v14649' v14650' v14651' v14652' r14647' f14661' v14668' v14669' v14670' v15337' fn15338' v15339' v15340' fn15341' v15342' v15343' v15344' v15345' r15450' v15457' r15455' q0 q1 q2 q3 q4 q5 q6 q7 q8 q9 q10 q11 q12 q13 q14 q15 q16 q17 q18 q19 q20 q21 q22 q23 q24 q25 q26 q27 q28 q29 q30 q31 q32 q33 q34 q35 q36 q37 q38 q39 q40 q41 q42 q43 q44 q45 q46 q47 q48 q49 q50 q51 q52 q53 q54 q55 q56 q57 q58 q59 q60 q61 q62 g0 g1 g2 g3 g4 g5 g6 g7 g8
      clear q13 q18 q19 q21 q27 q28 q30 q36 q37 q39 q45 q54 q59
      have hb := c_begin p0
      have zz1 := i_z1 q0
      have zz2 := i_z2 q3
      have r0 : RC B h0_size'.toInt ((0 : Int32).toInt) ((-1 : Int32).toInt) ((0 : Int32).toInt) ((-1 : Int32).toInt) h0_at'.toInt h0_wrong'.toInt h0_wrongAt'.toInt := by rw [hat, hwr, hwa]; exact RC.init d.1
      have b := pw_sheet c d p5 q14 q22 q31 q40 q46 ho r0
      have hE := lp_base (par := f_y1_parent) (rad := f_y1_radius) (nam := f_y1_name) (frm := f_y1_from) (tw := f_y1_toolWidth) b.1 b.2 hb hs0 q5 zz2.2 q6 q2 zz1.2 q7 q23 q32 q41 rfl rfl rfl q8
      have h0 : v14669'.toInt = 0 → (1 : Int32).toInt ≤ v14668'.toInt := fun z => by
        have f0 := b.1.1.trans z
        rw [← (b.1.2.2 f0).1]
        exact (b.2 f0).2.2.2.2
      have hR := p6
      have hM := q47
      rw [e2, e3, g2, g3, e4, e5, e6, e7, e9, e10, e11, e12, e13, e14, e15, e16, e17, e18, g4, g5, g6, g7, g8]
      have w0 := b11 (m_goesWell q55) q56
      have hh := m_here q61 d
      rcases Int.lt_trichotomy v15337'.toInt (v1949.toInt + 1) with hk | hk | hk
      · obtain ⟨v0, s, s1, s2, s4, s3⟩ := lp_D c d ho h0 hE hR v15337' fn15338' v15339' v15340' fn15341' v15342' v15343' v15344' v15345' hM (le_k hk)
        have es := isSk.uq s1 hh.1
        exact absurd (by rw [es, ← hh.2]; exact q62) s2
      · have PP := lp_A c d ho h0 hE hR v15337' fn15338' v15339' v15340' fn15341' v15342' v15343' v15344' v15345' hM hk
        have nF : ¬ v1959.toInt = 0 := fun z => nk_ (PP.2 z).2.2 (PP.1.2.2 z).2.2.1 d.1.2.1 p13
        exact absurd (PP.1.1.trans w0) nF
      · obtain ⟨F0, ⟨s, s1, s2⟩, kl⟩ := lp_E c d ho h0 hE hM v1949 fn1950 fn1951 fn1952 fn1953 fn1954 fn1955 fn1956 v1957 v1958 v1959 v1960 v1961 v1962 v1963 v1964 v1965 fn1966 fn1967 hR hk
        exact (nk2 kl p13).elim
    · intros v7795' fn7796' v13626' fn13627' f14587' f14590' g14594' v14599' v14600' v14601' v14602' v14611' v14612' v14613' v14614' r14609' f14623' v14630' v14631' v14632' v14633' r14628' f14642' v14649' v14650' v14651' v14652' r14647' f14661' v14668' v14669' v14670' v15337' fn15338' v15339' v15340' fn15341' v15342' v15343' v15344' v15345' r15450' v15457' r15455' v15466' v15467' v15468' v15469' r15489' q0 q1 q2 q3 q4 q5 q6 q7 q8 q9 q10 q11 q12 q13 q14 q15 q16 q17 q18 q19 q20 q21 q22 q23 q24 q25 q26 q27 q28 q29 q30 q31 q32 q33 q34 q35 q36 q37 q38 q39 q40 q41 q42 q43 q44 q45 q46 q47 q48 q49 q50 q51 q52 q53 q54 q55 q56 q57 q58 q59 q60 q61 q62 q63 q64 q65 q66 q67 q68 q69 q70 q71 q72 q73 g0 g1 g2 g3 g4 g5 g6 g7 g8
      clear q13 q18 q19 q21 q27 q28 q30 q36 q37 q39 q45 q54 q59 q66 q68 q71
      have hb := c_begin p0
      have zz1 := i_z1 q0
      have zz2 := i_z2 q3
      have r0 : RC B h0_size'.toInt ((0 : Int32).toInt) ((-1 : Int32).toInt) ((0 : Int32).toInt) ((-1 : Int32).toInt) h0_at'.toInt h0_wrong'.toInt h0_wrongAt'.toInt := by rw [hat, hwr, hwa]; exact RC.init d.1
      have b := pw_sheet c d p5 q14 q22 q31 q40 q46 ho r0
      have hE := lp_base (par := f_y1_parent) (rad := f_y1_radius) (nam := f_y1_name) (frm := f_y1_from) (tw := f_y1_toolWidth) b.1 b.2 hb hs0 q5 zz2.2 q6 q2 zz1.2 q7 q23 q32 q41 rfl rfl rfl q8
      have h0 : v14669'.toInt = 0 → (1 : Int32).toInt ≤ v14668'.toInt := fun z => by
        have f0 := b.1.1.trans z
        rw [← (b.1.2.2 f0).1]
        exact (b.2 f0).2.2.2.2
      have hR := p6
      have hM := q47
      rw [e2, e3, g2, g3, e4, e5, e6, e7, e9, e10, e11, e12, e13, e14, e15, e16, e17, e18, g4, g5, g6, g7, g8]
      have w0 := b11 (m_goesWell q55) q56
      have hh := m_here q61 d
      rcases Int.lt_trichotomy v15337'.toInt (v1949.toInt + 1) with hk | hk | hk
      · obtain ⟨v0, s, s1, s2, s4, s3⟩ := lp_D c d ho h0 hE hR v15337' fn15338' v15339' v15340' fn15341' v15342' v15343' v15344' v15345' hM (le_k hk)
        have es := isSk.uq s1 hh.1
        have mw := (m_word q69 d).resolve_left (fun z => z.1 w0)
        have ef : v15467'.toInt = s := (isSk.uq mw.2.1 hh.1.self).trans es.symm
        have nw2 := b10 (m_goesWell q72) q73
        have f : v15468'.toInt = 1 ∧ v15469'.toInt = s := by
          rcases mw.2.2 with ⟨_, x, y⟩ | ⟨_, _, x, y⟩ | ⟨_, _, _, x, _⟩
          · exact ⟨x, y.trans ef⟩
          · exact ⟨x, y.trans ef⟩
          · exact absurd x nw2
        rcases s3 with s3 | ⟨_, _, f1, f2⟩
        · exfalso
          rcases mw.2.2 with ⟨x, _⟩ | ⟨_, x, _⟩ | ⟨_, _, _, x, _⟩
          · rw [ef] at x; exact x s3
          · rw [ef] at x; exact s4 x
          · exact nw2 x
        · exact ⟨f1.trans f.1.symm, f2.trans f.2.symm, fun z => absurd (f1.symm.trans z) (by decide)⟩
      · have PP := lp_A c d ho h0 hE hR v15337' fn15338' v15339' v15340' fn15341' v15342' v15343' v15344' v15345' hM hk
        have nF : ¬ v1959.toInt = 0 := fun z => nk_ (PP.2 z).2.2 (PP.1.2.2 z).2.2.1 d.1.2.1 p13
        exact absurd (PP.1.1.trans w0) nF
      · obtain ⟨F0, ⟨s, s1, s2⟩, kl⟩ := lp_E c d ho h0 hE hM v1949 fn1950 fn1951 fn1952 fn1953 fn1954 fn1955 fn1956 v1957 v1958 v1959 v1960 v1961 v1962 v1963 v1964 v1965 fn1966 fn1967 hR hk
        exact (nk2 kl p13).elim
  · skip
    refine h' _ ⟨?_, ?_, ?_, trivial⟩
    · intros v7795' fn7796' v13626' fn13627' f14587' f14590' g14594' v14599' v14600' v14601' v14602' v14611' v14612' v14613' v14614' r14609' f14623' v14630' v14631' v14632' v14633' r14628' f14642' v14649' v14650' v14651' v14652' r14647' f14661' v14668' v14669' v14670' v15337' fn15338' v15339' v15340' fn15341' v15342' v15343' v15344' v15345' r15450' q0 q1 q2 q3 q4 q5 q6 q7 q8 q9 q10 q11 q12 q13 q14 q15 q16 q17 q18 q19 q20 q21 q22 q23 q24 q25 q26 q27 q28 q29 q30 q31 q32 q33 q34 q35 q36 q37 q38 q39 q40 q41 q42 q43 q44 q45 q46 q47 q48 q49 q50 q51 q52 q53 q54 q55 q56 g0 g1 g2 g3 g4 g5 g6 g7 g8
      clear q13 q18 q19 q21 q27 q28 q30 q36 q37 q39 q45 q54
      have hb := c_begin p0
      have zz1 := i_z1 q0
      have zz2 := i_z2 q3
      have r0 : RC B h0_size'.toInt ((0 : Int32).toInt) ((-1 : Int32).toInt) ((0 : Int32).toInt) ((-1 : Int32).toInt) h0_at'.toInt h0_wrong'.toInt h0_wrongAt'.toInt := by rw [hat, hwr, hwa]; exact RC.init d.1
      have b := pw_sheet c d p5 q14 q22 q31 q40 q46 ho r0
      have hE := lp_base (par := f_y1_parent) (rad := f_y1_radius) (nam := f_y1_name) (frm := f_y1_from) (tw := f_y1_toolWidth) b.1 b.2 hb hs0 q5 zz2.2 q6 q2 zz1.2 q7 q23 q32 q41 rfl rfl rfl q8
      have h0 : v14669'.toInt = 0 → (1 : Int32).toInt ≤ v14668'.toInt := fun z => by
        have f0 := b.1.1.trans z
        rw [← (b.1.2.2 f0).1]
        exact (b.2 f0).2.2.2.2
      have hR := p6
      have hM := q47
      rw [e2, e3, g2, g3, e4, e5, e6, e7, e9, e10, e11, e12, e13, e14, e15, e16, e17, e18, g4, g5, g6, g7, g8]
      have nW := b10 (m_goesWell q55) q56
      rcases Int.lt_trichotomy v15337'.toInt (v1949.toInt + 1) with hk | hk | hk
      · obtain ⟨v0, s, s1, s2, s4, s3⟩ := lp_D c d ho h0 hE hR v15337' fn15338' v15339' v15340' fn15341' v15342' v15343' v15344' v15345' hM (le_k hk)
        exact absurd v0 nW
      · have PP := lp_A c d ho h0 hE hR v15337' fn15338' v15339' v15340' fn15341' v15342' v15343' v15344' v15345' hM hk
        have nF := p14
        exact ⟨PP.1.1, PP.1.2.1, fun z => absurd z nF⟩
      · obtain ⟨F0, ⟨s, s1, s2⟩, kl⟩ := lp_E c d ho h0 hE hM v1949 fn1950 fn1951 fn1952 fn1953 fn1954 fn1955 fn1956 v1957 v1958 v1959 v1960 v1961 v1962 v1963 v1964 v1965 fn1966 fn1967 hR hk
        exact absurd F0 p14
    · intros v7795' fn7796' v13626' fn13627' f14587' f14590' g14594' v14599' v14600' v14601' v14602' v14611' v14612' v14613' v14614' r14609' f14623' v14630' v14631' v14632' v14633' r14628' f14642' v14649' v14650' v14651' v14652' r14647' f14661' v14668' v14669' v14670' v15337' fn15338' v15339' v15340' fn15341' v15342' v15343' v15344' v15345' r15450' v15457' r15455' q0 q1 q2 q3 q4 q5 q6 q7 q8 q9 q10 q11 q12 q13 q14 q15 q16 q17 q18 q19 q20 q21 q22 q23 q24 q25 q26 q27 q28 q29 q30 q31 q32 q33 q34 q35 q36 q37 q38 q39 q40 q41 q42 q43 q44 q45 q46 q47 q48 q49 q50 q51 q52 q53 q54 q55 q56 q57 q58 q59 q60 q61 q62 g0 g1 g2 g3 g4 g5 g6 g7 g8
      clear q13 q18 q19 q21 q27 q28 q30 q36 q37 q39 q45 q54 q59
      have hb := c_begin p0
      have zz1 := i_z1 q0
      have zz2 := i_z2 q3
      have r0 : RC B h0_size'.toInt ((0 : Int32).toInt) ((-1 : Int32).toInt) ((0 : Int32).toInt) ((-1 : Int32).toInt) h0_at'.toInt h0_wrong'.toInt h0_wrongAt'.toInt := by rw [hat, hwr, hwa]; exact RC.init d.1
      have b := pw_sheet c d p5 q14 q22 q31 q40 q46 ho r0
      have hE := lp_base (par := f_y1_parent) (rad := f_y1_radius) (nam := f_y1_name) (frm := f_y1_from) (tw := f_y1_toolWidth) b.1 b.2 hb hs0 q5 zz2.2 q6 q2 zz1.2 q7 q23 q32 q41 rfl rfl rfl q8
      have h0 : v14669'.toInt = 0 → (1 : Int32).toInt ≤ v14668'.toInt := fun z => by
        have f0 := b.1.1.trans z
        rw [← (b.1.2.2 f0).1]
        exact (b.2 f0).2.2.2.2
      have hR := p6
      have hM := q47
      rw [e2, e3, g2, g3, e4, e5, e6, e7, e9, e10, e11, e12, e13, e14, e15, e16, e17, e18, g4, g5, g6, g7, g8]
      have w0 := b11 (m_goesWell q55) q56
      have hh := m_here q61 d
      rcases Int.lt_trichotomy v15337'.toInt (v1949.toInt + 1) with hk | hk | hk
      · obtain ⟨v0, s, s1, s2, s4, s3⟩ := lp_D c d ho h0 hE hR v15337' fn15338' v15339' v15340' fn15341' v15342' v15343' v15344' v15345' hM (le_k hk)
        have es := isSk.uq s1 hh.1
        exact absurd (by rw [es, ← hh.2]; exact q62) s2
      · have PP := lp_A c d ho h0 hE hR v15337' fn15338' v15339' v15340' fn15341' v15342' v15343' v15344' v15345' hM hk
        have nF := p14
        exact absurd (PP.1.1.trans w0) nF
      · obtain ⟨F0, ⟨s, s1, s2⟩, kl⟩ := lp_E c d ho h0 hE hM v1949 fn1950 fn1951 fn1952 fn1953 fn1954 fn1955 fn1956 v1957 v1958 v1959 v1960 v1961 v1962 v1963 v1964 v1965 fn1966 fn1967 hR hk
        exact absurd F0 p14
    · intros v7795' fn7796' v13626' fn13627' f14587' f14590' g14594' v14599' v14600' v14601' v14602' v14611' v14612' v14613' v14614' r14609' f14623' v14630' v14631' v14632' v14633' r14628' f14642' v14649' v14650' v14651' v14652' r14647' f14661' v14668' v14669' v14670' v15337' fn15338' v15339' v15340' fn15341' v15342' v15343' v15344' v15345' r15450' v15457' r15455' v15466' v15467' v15468' v15469' r15489' q0 q1 q2 q3 q4 q5 q6 q7 q8 q9 q10 q11 q12 q13 q14 q15 q16 q17 q18 q19 q20 q21 q22 q23 q24 q25 q26 q27 q28 q29 q30 q31 q32 q33 q34 q35 q36 q37 q38 q39 q40 q41 q42 q43 q44 q45 q46 q47 q48 q49 q50 q51 q52 q53 q54 q55 q56 q57 q58 q59 q60 q61 q62 q63 q64 q65 q66 q67 q68 q69 q70 q71 q72 q73 g0 g1 g2 g3 g4 g5 g6 g7 g8
      clear q13 q18 q19 q21 q27 q28 q30 q36 q37 q39 q45 q54 q59 q66 q68 q71
      have hb := c_begin p0
      have zz1 := i_z1 q0
      have zz2 := i_z2 q3
      have r0 : RC B h0_size'.toInt ((0 : Int32).toInt) ((-1 : Int32).toInt) ((0 : Int32).toInt) ((-1 : Int32).toInt) h0_at'.toInt h0_wrong'.toInt h0_wrongAt'.toInt := by rw [hat, hwr, hwa]; exact RC.init d.1
      have b := pw_sheet c d p5 q14 q22 q31 q40 q46 ho r0
      have hE := lp_base (par := f_y1_parent) (rad := f_y1_radius) (nam := f_y1_name) (frm := f_y1_from) (tw := f_y1_toolWidth) b.1 b.2 hb hs0 q5 zz2.2 q6 q2 zz1.2 q7 q23 q32 q41 rfl rfl rfl q8
      have h0 : v14669'.toInt = 0 → (1 : Int32).toInt ≤ v14668'.toInt := fun z => by
        have f0 := b.1.1.trans z
        rw [← (b.1.2.2 f0).1]
        exact (b.2 f0).2.2.2.2
      have hR := p6
      have hM := q47
      rw [e2, e3, g2, g3, e4, e5, e6, e7, e9, e10, e11, e12, e13, e14, e15, e16, e17, e18, g4, g5, g6, g7, g8]
      have w0 := b11 (m_goesWell q55) q56
      have hh := m_here q61 d
      rcases Int.lt_trichotomy v15337'.toInt (v1949.toInt + 1) with hk | hk | hk
      · obtain ⟨v0, s, s1, s2, s4, s3⟩ := lp_D c d ho h0 hE hR v15337' fn15338' v15339' v15340' fn15341' v15342' v15343' v15344' v15345' hM (le_k hk)
        have es := isSk.uq s1 hh.1
        have mw := (m_word q69 d).resolve_left (fun z => z.1 w0)
        have ef : v15467'.toInt = s := (isSk.uq mw.2.1 hh.1.self).trans es.symm
        have nw2 := b10 (m_goesWell q72) q73
        have f : v15468'.toInt = 1 ∧ v15469'.toInt = s := by
          rcases mw.2.2 with ⟨_, x, y⟩ | ⟨_, _, x, y⟩ | ⟨_, _, _, x, _⟩
          · exact ⟨x, y.trans ef⟩
          · exact ⟨x, y.trans ef⟩
          · exact absurd x nw2
        rcases s3 with s3 | ⟨_, _, f1, f2⟩
        · exfalso
          rcases mw.2.2 with ⟨x, _⟩ | ⟨_, x, _⟩ | ⟨_, _, _, x, _⟩
          · rw [ef] at x; exact x s3
          · rw [ef] at x; exact s4 x
          · exact nw2 x
        · exact ⟨f1.trans f.1.symm, f2.trans f.2.symm, fun z => absurd (f1.symm.trans z) (by decide)⟩
      · have PP := lp_A c d ho h0 hE hR v15337' fn15338' v15339' v15340' fn15341' v15342' v15343' v15344' v15345' hM hk
        have nF := p14
        exact absurd (PP.1.1.trans w0) nF
      · obtain ⟨F0, ⟨s, s1, s2⟩, kl⟩ := lp_E c d ho h0 hE hM v1949 fn1950 fn1951 fn1952 fn1953 fn1954 fn1955 fn1956 v1957 v1958 v1959 v1960 v1961 v1962 v1963 v1964 v1965 fn1966 fn1967 hR hk
        exact absurd F0 p14
  · skip
    refine h' _ ⟨?_, ?_, ?_, trivial⟩
    · intros v7795' fn7796' v13626' fn13627' f14587' f14590' g14594' v14599' v14600' v14601' v14602' v14611' v14612' v14613' v14614' r14609' f14623' v14630' v14631' v14632' v14633' r14628' f14642' v14649' v14650' v14651' v14652' r14647' f14661' v14668' v14669' v14670' v15337' fn15338' v15339' v15340' fn15341' v15342' v15343' v15344' v15345' r15450' q0 q1 q2 q3 q4 q5 q6 q7 q8 q9 q10 q11 q12 q13 q14 q15 q16 q17 q18 q19 q20 q21 q22 q23 q24 q25 q26 q27 q28 q29 q30 q31 q32 q33 q34 q35 q36 q37 q38 q39 q40 q41 q42 q43 q44 q45 q46 q47 q48 q49 q50 q51 q52 q53 q54 q55 q56 g0 g1 g2 g3 g4 g5 g6 g7 g8
      clear q13 q18 q19 q21 q27 q28 q30 q36 q37 q39 q45 q54
      have hb := c_begin p0
      have zz1 := i_z1 q0
      have zz2 := i_z2 q3
      have r0 : RC B h0_size'.toInt ((0 : Int32).toInt) ((-1 : Int32).toInt) ((0 : Int32).toInt) ((-1 : Int32).toInt) h0_at'.toInt h0_wrong'.toInt h0_wrongAt'.toInt := by rw [hat, hwr, hwa]; exact RC.init d.1
      have b := pw_sheet c d p5 q14 q22 q31 q40 q46 ho r0
      have hE := lp_base (par := f_y1_parent) (rad := f_y1_radius) (nam := f_y1_name) (frm := f_y1_from) (tw := f_y1_toolWidth) b.1 b.2 hb hs0 q5 zz2.2 q6 q2 zz1.2 q7 q23 q32 q41 rfl rfl rfl q8
      have h0 : v14669'.toInt = 0 → (1 : Int32).toInt ≤ v14668'.toInt := fun z => by
        have f0 := b.1.1.trans z
        rw [← (b.1.2.2 f0).1]
        exact (b.2 f0).2.2.2.2
      have hR := p6
      have hM := q47
      rw [e2, e3, g2, g3, e4, e5, e6, e7, e9, e10, e11, e12, e13, e14, e15, e16, e17, e18, g4, g5, g6, g7, g8]
      have nW := b10 (m_goesWell q55) q56
      have hm := c_more p19 c
      have lm : h0_tape_length.toInt ≤ v2248.toInt := by
        rcases hm.2.2 with ⟨x, _⟩ | ⟨_, x⟩
        · exact absurd (x.symm.trans p20) (by decide)
        · exact x
      rcases Int.lt_trichotomy v15337'.toInt (v1949.toInt + 1) with hk | hk | hk
      · obtain ⟨v0, s, s1, s2, s4, s3⟩ := lp_D c d ho h0 hE hR v15337' fn15338' v15339' v15340' fn15341' v15342' v15343' v15344' v15345' hM (le_k hk)
        exact absurd v0 nW
      · have PP := lp_A c d ho h0 hE hR v15337' fn15338' v15339' v15340' fn15341' v15342' v15343' v15344' v15345' hM hk
        have F0 := p14
        exact absurd (PP.1.1.symm.trans F0) nW
      · obtain ⟨F0, ⟨s, s1, s2⟩, kl⟩ := lp_E c d ho h0 hE hM v1949 fn1950 fn1951 fn1952 fn1953 fn1954 fn1955 fn1956 v1957 v1958 v1959 v1960 v1961 v1962 v1963 v1964 v1965 fn1966 fn1967 hR hk
        have es := isSk.uq s1 hm.1
        have s0 : 0 ≤ s := Int.le_trans (Int.le_trans (by decide) p8.1) s1.1
        exact absurd (by rw [es]; exact c.1.2.2.2.1 _ lm) ((TXB.in d.1 s0).mp s2)
    · intros v7795' fn7796' v13626' fn13627' f14587' f14590' g14594' v14599' v14600' v14601' v14602' v14611' v14612' v14613' v14614' r14609' f14623' v14630' v14631' v14632' v14633' r14628' f14642' v14649' v14650' v14651' v14652' r14647' f14661' v14668' v14669' v14670' v15337' fn15338' v15339' v15340' fn15341' v15342' v15343' v15344' v15345' r15450' v15457' r15455' q0 q1 q2 q3 q4 q5 q6 q7 q8 q9 q10 q11 q12 q13 q14 q15 q16 q17 q18 q19 q20 q21 q22 q23 q24 q25 q26 q27 q28 q29 q30 q31 q32 q33 q34 q35 q36 q37 q38 q39 q40 q41 q42 q43 q44 q45 q46 q47 q48 q49 q50 q51 q52 q53 q54 q55 q56 q57 q58 q59 q60 q61 q62 g0 g1 g2 g3 g4 g5 g6 g7 g8
      clear q13 q18 q19 q21 q27 q28 q30 q36 q37 q39 q45 q54 q59
      have hb := c_begin p0
      have zz1 := i_z1 q0
      have zz2 := i_z2 q3
      have r0 : RC B h0_size'.toInt ((0 : Int32).toInt) ((-1 : Int32).toInt) ((0 : Int32).toInt) ((-1 : Int32).toInt) h0_at'.toInt h0_wrong'.toInt h0_wrongAt'.toInt := by rw [hat, hwr, hwa]; exact RC.init d.1
      have b := pw_sheet c d p5 q14 q22 q31 q40 q46 ho r0
      have hE := lp_base (par := f_y1_parent) (rad := f_y1_radius) (nam := f_y1_name) (frm := f_y1_from) (tw := f_y1_toolWidth) b.1 b.2 hb hs0 q5 zz2.2 q6 q2 zz1.2 q7 q23 q32 q41 rfl rfl rfl q8
      have h0 : v14669'.toInt = 0 → (1 : Int32).toInt ≤ v14668'.toInt := fun z => by
        have f0 := b.1.1.trans z
        rw [← (b.1.2.2 f0).1]
        exact (b.2 f0).2.2.2.2
      have hR := p6
      have hM := q47
      rw [e2, e3, g2, g3, e4, e5, e6, e7, e9, e10, e11, e12, e13, e14, e15, e16, e17, e18, g4, g5, g6, g7, g8]
      have w0 := b11 (m_goesWell q55) q56
      have hh := m_here q61 d
      have hm := c_more p19 c
      have lm : h0_tape_length.toInt ≤ v2248.toInt := by
        rcases hm.2.2 with ⟨x, _⟩ | ⟨_, x⟩
        · exact absurd (x.symm.trans p20) (by decide)
        · exact x
      rcases Int.lt_trichotomy v15337'.toInt (v1949.toInt + 1) with hk | hk | hk
      · obtain ⟨v0, s, s1, s2, s4, s3⟩ := lp_D c d ho h0 hE hR v15337' fn15338' v15339' v15340' fn15341' v15342' v15343' v15344' v15345' hM (le_k hk)
        have es := isSk.uq s1 hh.1
        exact absurd (by rw [es, ← hh.2]; exact q62) s2
      · have PP := lp_A c d ho h0 hE hR v15337' fn15338' v15339' v15340' fn15341' v15342' v15343' v15344' v15345' hM hk
        have F0 := p14
        exact ⟨PP.1.1, PP.1.2.1, fun z => ⟨(PP.2 z).1, (PP.2 z).2.1⟩⟩
      · obtain ⟨F0, ⟨s, s1, s2⟩, kl⟩ := lp_E c d ho h0 hE hM v1949 fn1950 fn1951 fn1952 fn1953 fn1954 fn1955 fn1956 v1957 v1958 v1959 v1960 v1961 v1962 v1963 v1964 v1965 fn1966 fn1967 hR hk
        have es := isSk.uq s1 hm.1
        have s0 : 0 ≤ s := Int.le_trans (Int.le_trans (by decide) p8.1) s1.1
        exact absurd (by rw [es]; exact c.1.2.2.2.1 _ lm) ((TXB.in d.1 s0).mp s2)
    · intros v7795' fn7796' v13626' fn13627' f14587' f14590' g14594' v14599' v14600' v14601' v14602' v14611' v14612' v14613' v14614' r14609' f14623' v14630' v14631' v14632' v14633' r14628' f14642' v14649' v14650' v14651' v14652' r14647' f14661' v14668' v14669' v14670' v15337' fn15338' v15339' v15340' fn15341' v15342' v15343' v15344' v15345' r15450' v15457' r15455' v15466' v15467' v15468' v15469' r15489' q0 q1 q2 q3 q4 q5 q6 q7 q8 q9 q10 q11 q12 q13 q14 q15 q16 q17 q18 q19 q20 q21 q22 q23 q24 q25 q26 q27 q28 q29 q30 q31 q32 q33 q34 q35 q36 q37 q38 q39 q40 q41 q42 q43 q44 q45 q46 q47 q48 q49 q50 q51 q52 q53 q54 q55 q56 q57 q58 q59 q60 q61 q62 q63 q64 q65 q66 q67 q68 q69 q70 q71 q72 q73 g0 g1 g2 g3 g4 g5 g6 g7 g8
      clear q13 q18 q19 q21 q27 q28 q30 q36 q37 q39 q45 q54 q59 q66 q68 q71
      have hb := c_begin p0
      have zz1 := i_z1 q0
      have zz2 := i_z2 q3
      have r0 : RC B h0_size'.toInt ((0 : Int32).toInt) ((-1 : Int32).toInt) ((0 : Int32).toInt) ((-1 : Int32).toInt) h0_at'.toInt h0_wrong'.toInt h0_wrongAt'.toInt := by rw [hat, hwr, hwa]; exact RC.init d.1
      have b := pw_sheet c d p5 q14 q22 q31 q40 q46 ho r0
      have hE := lp_base (par := f_y1_parent) (rad := f_y1_radius) (nam := f_y1_name) (frm := f_y1_from) (tw := f_y1_toolWidth) b.1 b.2 hb hs0 q5 zz2.2 q6 q2 zz1.2 q7 q23 q32 q41 rfl rfl rfl q8
      have h0 : v14669'.toInt = 0 → (1 : Int32).toInt ≤ v14668'.toInt := fun z => by
        have f0 := b.1.1.trans z
        rw [← (b.1.2.2 f0).1]
        exact (b.2 f0).2.2.2.2
      have hR := p6
      have hM := q47
      rw [e2, e3, g2, g3, e4, e5, e6, e7, e9, e10, e11, e12, e13, e14, e15, e16, e17, e18, g4, g5, g6, g7, g8]
      have w0 := b11 (m_goesWell q55) q56
      have hh := m_here q61 d
      have hm := c_more p19 c
      have lm : h0_tape_length.toInt ≤ v2248.toInt := by
        rcases hm.2.2 with ⟨x, _⟩ | ⟨_, x⟩
        · exact absurd (x.symm.trans p20) (by decide)
        · exact x
      rcases Int.lt_trichotomy v15337'.toInt (v1949.toInt + 1) with hk | hk | hk
      · obtain ⟨v0, s, s1, s2, s4, s3⟩ := lp_D c d ho h0 hE hR v15337' fn15338' v15339' v15340' fn15341' v15342' v15343' v15344' v15345' hM (le_k hk)
        have es := isSk.uq s1 hh.1
        have mw := (m_word q69 d).resolve_left (fun z => z.1 w0)
        have ef : v15467'.toInt = s := (isSk.uq mw.2.1 hh.1.self).trans es.symm
        have nw2 := b10 (m_goesWell q72) q73
        have f : v15468'.toInt = 1 ∧ v15469'.toInt = s := by
          rcases mw.2.2 with ⟨_, x, y⟩ | ⟨_, _, x, y⟩ | ⟨_, _, _, x, _⟩
          · exact ⟨x, y.trans ef⟩
          · exact ⟨x, y.trans ef⟩
          · exact absurd x nw2
        rcases s3 with s3 | ⟨_, _, f1, f2⟩
        · exfalso
          rcases mw.2.2 with ⟨x, _⟩ | ⟨_, x, _⟩ | ⟨_, _, _, x, _⟩
          · rw [ef] at x; exact x s3
          · rw [ef] at x; exact s4 x
          · exact nw2 x
        · exact absurd (f1.symm.trans p14) (by decide)
      · have PP := lp_A c d ho h0 hE hR v15337' fn15338' v15339' v15340' fn15341' v15342' v15343' v15344' v15345' hM hk
        have F0 := p14
        have es : v2248.toInt = v15457'.toInt := isSk.uq hm.1 (by rw [(PP.1.2.2 F0).1]; exact hh.1)
        exact absurd (hh.2.trans (by rw [← es]; exact c.1.2.2.2.1 _ lm)) q62
      · obtain ⟨F0, ⟨s, s1, s2⟩, kl⟩ := lp_E c d ho h0 hE hM v1949 fn1950 fn1951 fn1952 fn1953 fn1954 fn1955 fn1956 v1957 v1958 v1959 v1960 v1961 v1962 v1963 v1964 v1965 fn1966 fn1967 hR hk
        have es := isSk.uq s1 hm.1
        have s0 : 0 ≤ s := Int.le_trans (Int.le_trans (by decide) p8.1) s1.1
        exact absurd (by rw [es]; exact c.1.2.2.2.1 _ lm) ((TXB.in d.1 s0).mp s2)
  · exact h.elim
