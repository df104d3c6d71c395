theorem pw_flange {B : Int → Int} {h0_at : Int32} {h0_tokenStart : Int32} {h0_tokenEnd : Int32} {h0_fault : Int32} {h0_place : Int32} {h0_into_count : Int32} {h0_into_ups : Int32} {f_h0_into_parent : (Nat → Int32)} {f_h0_into_radius : (Nat → Int32)} {h0_tape_length : Int32} {f_h0_tape_bytes : (Nat → Int32)} {f_h0_into_name : (Nat → Int32)} {f_h0_into_side : (Nat → Int32)} {f_h0_into_from : (Nat → Int32)} {f_h0_into_width : (Nat → Int32)} {f_h0_into_height : (Nat → Int32)} {o_u_h0_at : Int32} {o_u_h0_tokenStart : Int32} {o_u_h0_tokenEnd : Int32} {o_u_h0_fault : Int32} {o_u_h0_place : Int32} {o_u_h0_into_count : Int32} {o_u_h0_into_ups : Int32} {o_u_h0_into_parent : (Nat → Int32)} {o_u_h0_into_radius : (Nat → Int32)} {o_u_h0_into_name : (Nat → Int32)} {o_u_h0_into_side : (Nat → Int32)} {o_u_h0_into_from : (Nat → Int32)} {o_u_h0_into_width : (Nat → Int32)} {o_u_h0_into_height : (Nat → Int32)} {h0_size' : Int32} {h0_at' : Int32} {h0_from' : Int32} {h0_wrong' : Int32} {h0_wrongAt' : Int32} {f_h0_read' : (Nat → Int32)} {h0_read_3' : Int32} {f_h0_tape' : (Nat → Int32)} {f_h0_ownLetters' : (Nat → Int32)} {f_h0_readNow' : (Nat → Int32)} {o_u_h0_at' : Int32} {o_u_h0_from' : Int32} {o_u_h0_wrong' : Int32} {o_u_h0_wrongAt' : Int32} {o_u_h0_read' : (Nat → Int32)} {o_u_h0_read_3' : Int32} {o_u_h0_readNow' : (Nat → Int32)} (c : cTB f_h0_tape_bytes h0_tape_length B) (d : rTB f_h0_tape' h0_size' B) (h : S_R_readFlange h0_at h0_tokenStart h0_tokenEnd h0_fault h0_place h0_into_count h0_into_ups f_h0_into_parent f_h0_into_radius h0_tape_length f_h0_tape_bytes f_h0_into_name f_h0_into_side f_h0_into_from f_h0_into_width f_h0_into_height o_u_h0_at o_u_h0_tokenStart o_u_h0_tokenEnd o_u_h0_fault o_u_h0_place o_u_h0_into_count o_u_h0_into_ups o_u_h0_into_parent o_u_h0_into_radius o_u_h0_into_name o_u_h0_into_side o_u_h0_into_from o_u_h0_into_width o_u_h0_into_height) (h' : S_M_readsFlange h0_size' h0_at' h0_from' h0_wrong' h0_wrongAt' f_h0_read' h0_read_3' f_h0_tape' f_h0_ownLetters' f_h0_readNow' o_u_h0_at' o_u_h0_from' o_u_h0_wrong' o_u_h0_wrongAt' o_u_h0_read' o_u_h0_read_3' o_u_h0_readNow') (ho : pOwn f_h0_ownLetters') (hF : h0_fault.toInt = 0) (w0 : h0_wrong'.toInt = 0) (ht : h0_tokenStart.toInt = h0_from'.toInt) (hc : h0_into_count.toInt = h0_read_3'.toInt) (h1 : 1 ≤ h0_into_count.toInt) (h9 : h0_into_count.toInt ≤ 9) (DD : DCF f_h0_into_parent f_h0_into_side f_h0_into_from f_h0_into_width f_h0_into_height f_h0_into_radius f_h0_read' h0_into_count.toInt) (D0 : DC0 f_h0_into_side f_h0_into_width f_h0_into_height f_h0_read') (nm : NMC f_h0_into_name f_h0_read' h0_read_3'.toInt) (r : RC B h0_size'.toInt h0_at.toInt h0_tokenEnd.toInt h0_fault.toInt h0_place.toInt h0_at'.toInt h0_wrong'.toInt h0_wrongAt'.toInt) : RC B h0_size'.toInt o_u_h0_at.toInt o_u_h0_tokenEnd.toInt o_u_h0_fault.toInt o_u_h0_place.toInt o_u_h0_at'.toInt o_u_h0_wrong'.toInt o_u_h0_wrongAt'.toInt ∧ (o_u_h0_fault.toInt = 0 → o_u_h0_into_count.toInt = h0_into_count.toInt + 1 ∧ h0_into_count.toInt ≤ 8 ∧ o_u_h0_read_3'.toInt = o_u_h0_into_count.toInt ∧ DCF o_u_h0_into_parent o_u_h0_into_side o_u_h0_into_from o_u_h0_into_width o_u_h0_into_height o_u_h0_into_radius o_u_h0_read' o_u_h0_into_count.toInt ∧ NMC o_u_h0_into_name o_u_h0_read' o_u_h0_into_count.toInt ∧ DC0 o_u_h0_into_side o_u_h0_into_width o_u_h0_into_height o_u_h0_read' ∧ (∀ j : Int, 0 ≤ j → j < 13 → ¬ j = 3 → gG o_u_h0_read' j = gG f_h0_read' j) ∧ (∀ j : Int, 0 ≤ j → ¬ j = 2 + h0_into_count.toInt → gG o_u_h0_readNow' j = gG f_h0_readNow' j) ∧ ∃ q : Int32, J_R_readFlange_172_1 h0_into_count h0_into_ups q o_u_h0_into_ups ∧ ((q.toInt = 1 ∧ gG o_u_h0_readNow' (2 + h0_into_count.toInt) = 1) ∨ (q.toInt = 0 ∧ gG o_u_h0_readNow' (2 + h0_into_count.toInt) = 0))) := by
  refine h _ ⟨?_, ?_, trivial⟩
  · intros v4 v5 v6 v7 v8 r2 f15 v19 v20 v21 v22 v23 v32 v33 v34 v35 v36 r30 f45 z48 v53 v54 v55 v56 v57 r51 f65 v70 v71 v72 v73 v74 v83 v84 v85 v86 v87 r81 f95 v99 v100 v101 v102 v103 v112 v113 v114 v115 v116 r110 f124 v128 v129 v135 v136 v137 v138 v139 v148 v149 v150 v151 v152 r146 f160 v164 v165 v166 v167 v168 r162 v181 v187 v188 v189 v190 v191 v200 v201 v202 v203 v204 r198 f212 z214 p0 p1 p2 p3 p4 p5 p6 p7 p8 p9 p10 p11 p12 p13 p14 p15 p16 p17 p18 p19 p20 p21 p22 p23 p24 p25 p26 p27 p28 p29 p30 p31 p32 p33 p34 p35 p36 p37 p38 p39 p40 p41 p42 p43 p44 p45 p46 p47 p48 p49 p50 p51 p52 p53 p54 p55 p56 p57 p58 p59 p60 p61 p62 p63 p64 p65 p66 p67 p68 p69 p70 p71 p72 p73 p74 p75 p76 p77 p78 p79 p80 p81 p82 p83 p84 p85 p86 p87 p88 p89 p90 p91 p92 p93 p94 p95 p96 p97 p98 p99 p100 e0 e1 e2 e3 e4 e5 e6 e7 e8 e9 e10 e11 e12 e13
    clear p5 p12 p19 p30 p37 p43 p51 p57 p58 p62 p68 p74 p83 p90 p96
    skip
    refine h' _ ⟨?_, ?_, ?_, ?_, trivial⟩
    · intros v9' v10' v19' v20' v21' v22' r29' v46' v47' r54' v637' fn638' v1131' v1132' v1133' v1134' v1143' v1144' v1145' v1146' r1154' v1223' v1224' v1225' v1236' v1237' v1238' v1239' r1247' v1257' r1264' v1277' v1278' r1287' v1313' v1314' r1323' z1328' f1331' z1336' f1339' z1344' v1349' v1350' v1351' v1352' r1347' f1361' v1368' v1369' v1370' v1371' v1380' v1381' v1382' v1383' f1384' z1394' v1399' v1400' v1401' v1402' r1397' f1411' v1418' v1419' v1420' v1421' r1429' v1436' v1451' v1452' z1459' v1463' f1470' z1473' v1478' v1479' v1480' v1481' r1476' f1490' r1495' q0 q1 q2 q3 q4 q5 q6 q7 q8 q9 q10 q11 q12 q13 q14 q15 q16 q17 q18 q19 q20 q21 q22 q23 q24 q25 q26 q27 q28 q29 q30 q31 q32 q33 q34 q35 q36 q37 q38 q39 q40 q41 q42 q43 q44 q45 q46 q47 q48 q49 q50 q51 q52 q53 q54 q55 q56 q57 q58 q59 q60 q61 q62 q63 q64 q65 q66 q67 q68 q69 q70 q71 q72 q73 q74 q75 q76 q77 q78 q79 q80 q81 q82 q83 q84 q85 q86 q87 q88 q89 q90 q91 q92 q93 q94 q95 q96 q97 q98 q99 q100 q101 q102 q103 q104 q105 q106 q107 q108 q109 q110 q111 q112 q113 q114 q115 q116 q117 q118 q119 q120 q121 q122 q123 q124 q125 q126 q127 q128 q129 q130 q131 q132 q133 q134 g0 g1 g2 g3 g4 g5 g6
      clear q6 q9 q14 q24 q29 q31 q34 q39 q43 q45 q48 q55 q56 q58 q62 q63 q65 q76 q77 q79 q86 q92 q98 q99 q101 q107 q109 q112 q125 q126 q128 q132
      have h8 := fl_8 p0
      have j2 := j20_ q0
      have g9 : v9'.toInt = h0_wrong'.toInt ∧ v10'.toInt = h0_wrongAt'.toInt := by
        rcases j2 with ⟨a, _⟩ | ⟨_, a⟩
        · exact absurd a (fl_9 hc p0)
        · exact a
      have r1 := r
      rw [← g9.1, ← g9.2] at r1
      have hfa := q3.1
      have hsz := q5.1
      have a0 := pw_nn c d p6 q7 q10 q11 ho nm hc hfa hsz r1
      obtain ⟨l0, l1, l2⟩ := i_let q17 d ⟨hfa, hsz⟩ (hc ▸ h1)
      have hl : ∀ j : Int, 0 ≤ j → j < 67 + 4 * h0_read_3'.toInt → gG fn638' j = gG f_h0_read' j := fun j j0 j1 => l1 j j0 (.inl j1)
      have a1 := pw_kw_8 c d p13 q25 a0.1 ho (by decide)
      have nm2 := NMC.keep hc nm (hc ▸ h1) p7 (fun j j0 j1 => hl j (fl_g j0) j1)
      rw [← hc] at nm2
      have a2 := pw_where c d p21 q32 q35 q36 ho nm2 hc a1.1
      have ez : z48.toInt = r30.toInt := p23.trans (gU_eq p22 rfl)
      have rg := p18
      have rl := p20
      have hs : 0 < z48.toInt → gG f_h0_into_side z48.toInt = gG fn638' (22 + z48.toInt) := fun z => by
        have b := fl_s ez rl hc z
        rw [hl (22 + z48.toInt) b.1 b.2.1]; exact (DD z48.toInt b.2.2.1 b.2.2.2).2.1
      have a3 := pw_side c d p31 q46 q49 q50 q52 q53 q59 q60 ho (by rw [ez]; exact rg.1) (fun z => by rw [ez]; exact (a2.2 z).2.1.symm) hs a2.1
      have k67 : ∀ j : Int, 0 ≤ j → j < 67 → gG fn638' j = gG f_h0_read' j := fun j j0 j1 => hl j j0 (fl_67 hc h1 j1)
      have a4 := pw_after_13 c d p38 p45 q80 a3.1 ho (by decide) ⟨rfl, rfl⟩
      have a5 := pw_kw_14 c d p52 q87 a4.1 ho (by decide)
      have hd : v102.toInt = 0 → WD f45 f65 f95 f124 f_h0_into_height f1361' h0_into_count.toInt v1223'.toInt v1257'.toInt := fun z => by
        have b4 := a4.2 (a5.2 z)
        have b3 := a3.2 b4.1
        have b2 := a2.2 b3.1
        exact WD.of (c := h0_into_count) rfl DD D0 h1 h8 p22 p32 p46 p60 k67 q69 q71 q81 (q68.trans (by rw [hc])) (q70.trans (by rw [hc])) (q72.trans (by rw [hc])) b2.2.1 b3.2.1 b4.2 ⟨rg.1, rl⟩ b3.2.2 (p44.resolve_left (fun w => w (a5.2 z)))
      have a6 := pw_width c d p59 p63 q93 (gU_eq p60 rfl) hc.symm rfl rfl hd a5.1
      have a7 := pw_after_15 c d p69 p76 q102 a6.1 ho (by decide) ⟨rfl, rfl⟩
      have a8 := pw_up c d p84 q110 q113 q114 q115 q118 ho a7.1
      have a9 := pw_after_18 c d p91 p98 q129 a8.1 ho (by decide) ⟨rfl, rfl⟩
      have nw := b10 (m_goesWell q133) q134
      have n9 : ¬ v203.toInt = 0 := fun z => nw (a9.1.1.symm.trans z)
      rw [e0, e2, e3, e4, g0, g2, g3]
      exact ⟨a9.1, fun z => absurd z n9⟩
    · intros v9' v10' v19' v20' v21' v22' r29' v46' v47' r54' v637' fn638' v1131' v1132' v1133' v1134' v1143' v1144' v1145' v1146' r1154' v1223' v1224' v1225' v1236' v1237' v1238' v1239' r1247' v1257' r1264' v1277' v1278' r1287' v1313' v1314' r1323' z1328' f1331' z1336' f1339' z1344' v1349' v1350' v1351' v1352' r1347' f1361' v1368' v1369' v1370' v1371' v1380' v1381' v1382' v1383' f1384' z1394' v1399' v1400' v1401' v1402' r1397' f1411' v1418' v1419' v1420' v1421' r1429' v1436' v1451' v1452' z1459' v1463' f1470' z1473' v1478' v1479' v1480' v1481' r1476' f1490' r1495' z1500' f1503' q0 q1 q2 q3 q4 q5 q6 q7 q8 q9 q10 q11 q12 q13 q14 q15 q16 q17 q18 q19 q20 q21 q22 q23 q24 q25 q26 q27 q28 q29 q30 q31 q32 q33 q34 q35 q36 q37 q38 q39 q40 q41 q42 q43 q44 q45 q46 q47 q48 q49 q50 q51 q52 q53 q54 q55 q56 q57 q58 q59 q60 q61 q62 q63 q64 q65 q66 q67 q68 q69 q70 q71 q72 q73 q74 q75 q76 q77 q78 q79 q80 q81 q82 q83 q84 q85 q86 q87 q88 q89 q90 q91 q92 q93 q94 q95 q96 q97 q98 q99 q100 q101 q102 q103 q104 q105 q106 q107 q108 q109 q110 q111 q112 q113 q114 q115 q116 q117 q118 q119 q120 q121 q122 q123 q124 q125 q126 q127 q128 q129 q130 q131 q132 q133 q134 q135 q136 g0 g1 g2 g3 g4 g5 g6
      clear q6 q9 q14 q24 q29 q31 q34 q39 q43 q45 q48 q55 q56 q58 q62 q63 q65 q76 q77 q79 q86 q92 q98 q99 q101 q107 q109 q112 q125 q126 q128 q132
      have h8 := fl_8 p0
      have j2 := j20_ q0
      have g9 : v9'.toInt = h0_wrong'.toInt ∧ v10'.toInt = h0_wrongAt'.toInt := by
        rcases j2 with ⟨a, _⟩ | ⟨_, a⟩
        · exact absurd a (fl_9 hc p0)
        · exact a
      have r1 := r
      rw [← g9.1, ← g9.2] at r1
      have hfa := q3.1
      have hsz := q5.1
      have a0 := pw_nn c d p6 q7 q10 q11 ho nm hc hfa hsz r1
      obtain ⟨l0, l1, l2⟩ := i_let q17 d ⟨hfa, hsz⟩ (hc ▸ h1)
      have hl : ∀ j : Int, 0 ≤ j → j < 67 + 4 * h0_read_3'.toInt → gG fn638' j = gG f_h0_read' j := fun j j0 j1 => l1 j j0 (.inl j1)
      have a1 := pw_kw_8 c d p13 q25 a0.1 ho (by decide)
      have nm2 := NMC.keep hc nm (hc ▸ h1) p7 (fun j j0 j1 => hl j (fl_g j0) j1)
      rw [← hc] at nm2
      have a2 := pw_where c d p21 q32 q35 q36 ho nm2 hc a1.1
      have ez : z48.toInt = r30.toInt := p23.trans (gU_eq p22 rfl)
      have rg := p18
      have rl := p20
      have hs : 0 < z48.toInt → gG f_h0_into_side z48.toInt = gG fn638' (22 + z48.toInt) := fun z => by
        have b := fl_s ez rl hc z
        rw [hl (22 + z48.toInt) b.1 b.2.1]; exact (DD z48.toInt b.2.2.1 b.2.2.2).2.1
      have a3 := pw_side c d p31 q46 q49 q50 q52 q53 q59 q60 ho (by rw [ez]; exact rg.1) (fun z => by rw [ez]; exact (a2.2 z).2.1.symm) hs a2.1
      have k67 : ∀ j : Int, 0 ≤ j → j < 67 → gG fn638' j = gG f_h0_read' j := fun j j0 j1 => hl j j0 (fl_67 hc h1 j1)
      have a4 := pw_after_13 c d p38 p45 q80 a3.1 ho (by decide) ⟨rfl, rfl⟩
      have a5 := pw_kw_14 c d p52 q87 a4.1 ho (by decide)
      have hd : v102.toInt = 0 → WD f45 f65 f95 f124 f_h0_into_height f1361' h0_into_count.toInt v1223'.toInt v1257'.toInt := fun z => by
        have b4 := a4.2 (a5.2 z)
        have b3 := a3.2 b4.1
        have b2 := a2.2 b3.1
        exact WD.of (c := h0_into_count) rfl DD D0 h1 h8 p22 p32 p46 p60 k67 q69 q71 q81 (q68.trans (by rw [hc])) (q70.trans (by rw [hc])) (q72.trans (by rw [hc])) b2.2.1 b3.2.1 b4.2 ⟨rg.1, rl⟩ b3.2.2 (p44.resolve_left (fun w => w (a5.2 z)))
      have a6 := pw_width c d p59 p63 q93 (gU_eq p60 rfl) hc.symm rfl rfl hd a5.1
      have a7 := pw_after_15 c d p69 p76 q102 a6.1 ho (by decide) ⟨rfl, rfl⟩
      have a8 := pw_up c d p84 q110 q113 q114 q115 q118 ho a7.1
      have a9 := pw_after_18 c d p91 p98 q129 a8.1 ho (by decide) ⟨rfl, rfl⟩
      rw [e0, e2, e3, e4, g0, g2, g3, e5, e7, e8, e9, e10, e11, e12, e13, g4, g5, g6]
      refine ⟨a9.1, fun z => ?_⟩
      have b9 := a9.2 z
      have b8 := a8.2 b9.1
      have b7 := a7.2 b8.1
      have b6 := a6.2 b7.1
      obtain ⟨c6, w1, w2, zw, uw, hzw⟩ := b6
      have b4 := a4.2 (a5.2 c6)
      have b3 := a3.2 b4.1
      have b2 := a2.2 b3.1
      have b1 := a1.2 b2.1
      have b0 := a0.2 b1
      have R8 := row_of h1 h8 k67 q69 q71 q81 uw q103 q130 q136 (q68.trans (by rw [hc])) (q70.trans (by rw [hc])) (q72.trans (by rw [hc])) hzw (q94.trans (by rw [hc])) (q121.trans (by rw [hc])) (by decide)
      have hn2 := p100
      have f1 := DCF.of rfl DD h1 h8 hn2 p22 p32 p46 p60 p77 p99 k67 R8 b2.2.1 b3.2.1 b4.2 rfl b7.2 b9.2 ⟨rg.1, rl⟩ b3.2.2 (p44.resolve_left (fun w => w (a5.2 c6))) ⟨w1, w2⟩ (p75.resolve_left (fun w => w b8.1)) (p97.resolve_left (fun w => w z))
      have R67 : ∀ j : Int, 67 ≤ j → gG f1503' j = gG fn638' j := fun j j0 => by
        obtain ⟨i0, i1, i2, i3, i4, i5, i6, i7⟩ := fl_n h8 h1 j0
        exact R8.1 j i0 i1 i2 i3 i4 i5 i6 i7
      have f2 := NMC.of (n := h0_into_count.toInt) rfl (by rw [hc]; exact nm) h1 h8 hn2 p7 b0.2.2.1 b0.2.2.2.2.2.2 (fun j j0 j1 => hl j (fl_g j0) (fl_l hc j1)) (fun i j0 j1 => by have := l2 i j0 (fl_4 q19 j1); rw [b0.2.1, (show v4.toInt = v19'.toInt from (a0.1.2.2 b1).1), hc]; exact this) R67
      have rw13 : ∀ j : Int, 0 ≤ j → j < 13 → ¬ j = 3 → gG f1503' j = gG f_h0_read' j := fun j j0 j1 j2 => by
        obtain ⟨i1, i2, i3, i4, i5, i6, i7⟩ := fl_13 h1 j1
        exact (R8.1 j j0 i1 i2 i3 i4 i5 i6 j2).trans (k67 j j0 i7)
      have d0 : DC0 f65 f124 f160 f1503' := ⟨by rw [gU_ne p32 rfl (fl_0 h1)]; exact D0.1, by rw [gU_ne p60 rfl (fl_0 h1), rw13 1 (by decide) (by decide) (by decide)]; exact D0.2.1, by rw [gU_ne p77 rfl (fl_0 h1), rw13 2 (by decide) (by decide) (by decide)]; exact D0.2.2⟩
      have rn : ∀ j : Int, 0 ≤ j → ¬ j = 2 + h0_into_count.toInt → gG f1470' j = gG f_h0_readNow' j := fun j j0 j1 => gU_ne q120 (q117.trans (by rw [hc])) (fl_w h1 j0 j1)
      have rv := gU_eq (J := 2 + h0_into_count.toInt) q120 (q117.trans (by rw [hc]))
      exact ⟨hn2, h8, fl_c q135 hn2 hc, f1, f2, d0, rw13, rn, ⟨_, by rw [xie e6]; exact p85, by rw [rv]; exact b8.2⟩⟩
    · intros v9' v10' v19' v20' v21' v22' r29' v46' v47' r54' v637' fn638' v1131' v1132' v1133' v1134' v1143' v1144' v1145' v1146' r1154' v1223' v1224' v1225' v1236' v1237' v1238' v1239' r1247' v1257' r1264' v1277' v1278' r1287' v1313' v1314' r1323' q0 q1 q2 q3 q4 q5 q6 q7 q8 q9 q10 q11 q12 q13 q14 q15 q16 q17 q18 q19 q20 q21 q22 q23 q24 q25 q26 q27 q28 q29 q30 q31 q32 q33 q34 q35 q36 q37 q38 q39 q40 q41 q42 q43 q44 q45 q46 q47 q48 q49 q50 q51 q52 q53 q54 q55 q56 q57 q58 q59 q60 q61 q62 q63 q64 q65 q66 q67 g0 g1 g2 g3 g4 g5 g6
      clear q6 q9 q14 q24 q29 q31 q34 q39 q43 q45 q48 q55 q56 q58 q62 q63 q65
      have h8 := fl_8 p0
      have j2 := j20_ q0
      have g9 : v9'.toInt = h0_wrong'.toInt ∧ v10'.toInt = h0_wrongAt'.toInt := by
        rcases j2 with ⟨a, _⟩ | ⟨_, a⟩
        · exact absurd a (fl_9 hc p0)
        · exact a
      have r1 := r
      rw [← g9.1, ← g9.2] at r1
      have hfa := q3.1
      have hsz := q5.1
      have a0 := pw_nn c d p6 q7 q10 q11 ho nm hc hfa hsz r1
      obtain ⟨l0, l1, l2⟩ := i_let q17 d ⟨hfa, hsz⟩ (hc ▸ h1)
      have hl : ∀ j : Int, 0 ≤ j → j < 67 + 4 * h0_read_3'.toInt → gG fn638' j = gG f_h0_read' j := fun j j0 j1 => l1 j j0 (.inl j1)
      have a1 := pw_kw_8 c d p13 q25 a0.1 ho (by decide)
      have nm2 := NMC.keep hc nm (hc ▸ h1) p7 (fun j j0 j1 => hl j (fl_g j0) j1)
      rw [← hc] at nm2
      have a2 := pw_where c d p21 q32 q35 q36 ho nm2 hc a1.1
      have ez : z48.toInt = r30.toInt := p23.trans (gU_eq p22 rfl)
      have rg := p18
      have rl := p20
      have hs : 0 < z48.toInt → gG f_h0_into_side z48.toInt = gG fn638' (22 + z48.toInt) := fun z => by
        have b := fl_s ez rl hc z
        rw [hl (22 + z48.toInt) b.1 b.2.1]; exact (DD z48.toInt b.2.2.1 b.2.2.2).2.1
      have a3 := pw_side c d p31 q46 q49 q50 q52 q53 q59 q60 ho (by rw [ez]; exact rg.1) (fun z => by rw [ez]; exact (a2.2 z).2.1.symm) hs a2.1
      have nw := b10 (m_goesWell q66) q67
      have n3 : ¬ v56.toInt = 0 := fun z => nw (a3.1.1.symm.trans z)
      have y4 := fz_R_keyword_13 p38 n3
      have n4 : ¬ v73.toInt = 0 := fun z => n3 (y4.1.symm.trans z)
      have y5 := fz_R_number p45 n4
      have n5 : ¬ v86.toInt = 0 := fun z => n4 (y5.1.symm.trans z)
      have y6 := fz_R_keyword_14 p52 n5
      have n6 : ¬ v102.toInt = 0 := fun z => n5 (y6.1.symm.trans z)
      have y7 := fz_R_number p59 n6
      have n7 : ¬ v115.toInt = 0 := fun z => n6 (y7.1.symm.trans z)
      have y8 := fz_R_checkWidth p63 n7
      have n8 : ¬ v128.toInt = 0 := fun z => n7 (y8.1.symm.trans z)
      have y9 := fz_R_keyword_15 p69 n8
      have n9 : ¬ v138.toInt = 0 := fun z => n8 (y9.1.symm.trans z)
      have y10 := fz_R_number p76 n9
      have n10 : ¬ v151.toInt = 0 := fun z => n9 (y10.1.symm.trans z)
      have y11 := fz_R_isUp p84 n10
      have n11 : ¬ v167.toInt = 0 := fun z => n10 (y11.1.symm.trans z)
      have y12 := fz_R_keyword_18 p91 n11
      have n12 : ¬ v190.toInt = 0 := fun z => n11 (y12.1.symm.trans z)
      have y13 := fz_R_number p98 n12
      have n13 : ¬ v203.toInt = 0 := fun z => n12 (y13.1.symm.trans z)
      have yF := y13.1.trans (y12.1.trans (y11.1.trans (y10.1.trans (y9.1.trans (y8.1.trans (y7.1.trans (y6.1.trans (y5.1.trans (y4.1)))))))))
      have yP := y13.2.trans (y12.2.trans (y11.2.trans (y10.2.trans (y9.2.trans (y8.2.trans (y7.2.trans (y6.2.trans (y5.2.trans (y4.2)))))))))
      rw [e0, e2, e3, e4, g0, g2, g3]
      exact ⟨⟨yF.trans a3.1.1, yP.trans a3.1.2.1, fun z => absurd z n13⟩, fun z => absurd z n13⟩
    · intros v9' v10' v19' v20' v21' v22' r29' v46' v47' r54' q0 q1 q2 q3 q4 q5 q6 q7 q8 q9 q10 q11 q12 q13 q14 q15 q16 g0 g1 g2 g3 g4 g5 g6
      clear q6 q9 q14
      have h8 := fl_8 p0
      have j2 := j20_ q0
      have g9 : v9'.toInt = h0_wrong'.toInt ∧ v10'.toInt = h0_wrongAt'.toInt := by
        rcases j2 with ⟨a, _⟩ | ⟨_, a⟩
        · exact absurd a (fl_9 hc p0)
        · exact a
      have r1 := r
      rw [← g9.1, ← g9.2] at r1
      have hfa := q3.1
      have hsz := q5.1
      have a0 := pw_nn c d p6 q7 q10 q11 ho nm hc hfa hsz r1
      have nw := b10 (m_goesWell q15) q16
      have n0 : ¬ v7.toInt = 0 := fun z => nw (a0.1.1.symm.trans z)
      have y1 := fz_R_keyword_8 p13 n0
      have n1 : ¬ v22.toInt = 0 := fun z => n0 (y1.1.symm.trans z)
      have y2 := fz_R_where p21 n1
      have n2 : ¬ v35.toInt = 0 := fun z => n1 (y2.1.symm.trans z)
      have y3 := fz_R_sideOf p31 n2
      have n3 : ¬ v56.toInt = 0 := fun z => n2 (y3.1.symm.trans z)
      have y4 := fz_R_keyword_13 p38 n3
      have n4 : ¬ v73.toInt = 0 := fun z => n3 (y4.1.symm.trans z)
      have y5 := fz_R_number p45 n4
      have n5 : ¬ v86.toInt = 0 := fun z => n4 (y5.1.symm.trans z)
      have y6 := fz_R_keyword_14 p52 n5
      have n6 : ¬ v102.toInt = 0 := fun z => n5 (y6.1.symm.trans z)
      have y7 := fz_R_number p59 n6
      have n7 : ¬ v115.toInt = 0 := fun z => n6 (y7.1.symm.trans z)
      have y8 := fz_R_checkWidth p63 n7
      have n8 : ¬ v128.toInt = 0 := fun z => n7 (y8.1.symm.trans z)
      have y9 := fz_R_keyword_15 p69 n8
      have n9 : ¬ v138.toInt = 0 := fun z => n8 (y9.1.symm.trans z)
      have y10 := fz_R_number p76 n9
      have n10 : ¬ v151.toInt = 0 := fun z => n9 (y10.1.symm.trans z)
      have y11 := fz_R_isUp p84 n10
      have n11 : ¬ v167.toInt = 0 := fun z => n10 (y11.1.symm.trans z)
      have y12 := fz_R_keyword_18 p91 n11
      have n12 : ¬ v190.toInt = 0 := fun z => n11 (y12.1.symm.trans z)
      have y13 := fz_R_number p98 n12
      have n13 : ¬ v203.toInt = 0 := fun z => n12 (y13.1.symm.trans z)
      have yF := y13.1.trans (y12.1.trans (y11.1.trans (y10.1.trans (y9.1.trans (y8.1.trans (y7.1.trans (y6.1.trans (y5.1.trans (y4.1.trans (y3.1.trans (y2.1.trans (y1.1))))))))))))
      have yP := y13.2.trans (y12.2.trans (y11.2.trans (y10.2.trans (y9.2.trans (y8.2.trans (y7.2.trans (y6.2.trans (y5.2.trans (y4.2.trans (y3.2.trans (y2.2.trans (y1.2))))))))))))
      rw [e0, e2, e3, e4, g0, g2, g3]
      exact ⟨⟨yF.trans a0.1.1, yP.trans a0.1.2.1, fun z => absurd z n13⟩, fun z => absurd z n13⟩
  · intros v224 v225 p0 p1 p2 p3 e0 e1 e2 e3 e4 e5 e6 e7 e8 e9 e10 e11 e12 e13
    skip
    refine h' _ ⟨?_, ?_, ?_, ?_, trivial⟩
    · intros v9' v10' v19' v20' v21' v22' r29' v46' v47' r54' v637' fn638' v1131' v1132' v1133' v1134' v1143' v1144' v1145' v1146' r1154' v1223' v1224' v1225' v1236' v1237' v1238' v1239' r1247' v1257' r1264' v1277' v1278' r1287' v1313' v1314' r1323' z1328' f1331' z1336' f1339' z1344' v1349' v1350' v1351' v1352' r1347' f1361' v1368' v1369' v1370' v1371' v1380' v1381' v1382' v1383' f1384' z1394' v1399' v1400' v1401' v1402' r1397' f1411' v1418' v1419' v1420' v1421' r1429' v1436' v1451' v1452' z1459' v1463' f1470' z1473' v1478' v1479' v1480' v1481' r1476' f1490' r1495' q0 q1 q2 q3 q4 q5 q6 q7 q8 q9 q10 q11 q12 q13 q14 q15 q16 q17 q18 q19 q20 q21 q22 q23 q24 q25 q26 q27 q28 q29 q30 q31 q32 q33 q34 q35 q36 q37 q38 q39 q40 q41 q42 q43 q44 q45 q46 q47 q48 q49 q50 q51 q52 q53 q54 q55 q56 q57 q58 q59 q60 q61 q62 q63 q64 q65 q66 q67 q68 q69 q70 q71 q72 q73 q74 q75 q76 q77 q78 q79 q80 q81 q82 q83 q84 q85 q86 q87 q88 q89 q90 q91 q92 q93 q94 q95 q96 q97 q98 q99 q100 q101 q102 q103 q104 q105 q106 q107 q108 q109 q110 q111 q112 q113 q114 q115 q116 q117 q118 q119 q120 q121 q122 q123 q124 q125 q126 q127 q128 q129 q130 q131 q132 q133 q134 g0 g1 g2 g3 g4 g5 g6
      clear q6 q9 q14 q24 q29 q31 q34 q39 q43 q45 q48 q55 q56 q58 q62 q63 q65 q76 q77 q79 q86 q92 q98 q99 q101 q107 q109 q112 q125 q126 q128 q132
      have kf := c_fail p3
      have e5_ : (5 : Int32).toInt = 5 := by decide
      have j2 := j20_ q0
      have g9 : v9'.toInt = 5 ∧ v10'.toInt = h0_from'.toInt := by
        rcases j2 with ⟨_, ⟨a, _⟩ | ⟨_, a⟩⟩ | ⟨a, _⟩
        · exact absurd w0 a
        · exact a
        · exact absurd (fl_e hc h9 p0) a
      have fn := fz_M_name q7 (fun z => absurd (g9.1.symm.trans z) (by decide))
      have gw := m_goesWell q10
      have v5 : v21'.toInt = 5 := fn.1.trans g9.1
      have z48 := j48_ q11 d ⟨q3.1, q5.1⟩ gw
      have y48 : v46'.toInt = v21'.toInt ∧ v47'.toInt = v22'.toInt := by
        rcases z48 with ⟨_, a⟩ | ⟨a, _⟩
        · exact a
        · exact absurd (v5.symm.trans a) (by decide)
      have w9 := b11 (m_goesWell q15) q16
      exact absurd ((y48.1.trans v5).symm.trans w9) (by decide)
    · intros v9' v10' v19' v20' v21' v22' r29' v46' v47' r54' v637' fn638' v1131' v1132' v1133' v1134' v1143' v1144' v1145' v1146' r1154' v1223' v1224' v1225' v1236' v1237' v1238' v1239' r1247' v1257' r1264' v1277' v1278' r1287' v1313' v1314' r1323' z1328' f1331' z1336' f1339' z1344' v1349' v1350' v1351' v1352' r1347' f1361' v1368' v1369' v1370' v1371' v1380' v1381' v1382' v1383' f1384' z1394' v1399' v1400' v1401' v1402' r1397' f1411' v1418' v1419' v1420' v1421' r1429' v1436' v1451' v1452' z1459' v1463' f1470' z1473' v1478' v1479' v1480' v1481' r1476' f1490' r1495' z1500' f1503' q0 q1 q2 q3 q4 q5 q6 q7 q8 q9 q10 q11 q12 q13 q14 q15 q16 q17 q18 q19 q20 q21 q22 q23 q24 q25 q26 q27 q28 q29 q30 q31 q32 q33 q34 q35 q36 q37 q38 q39 q40 q41 q42 q43 q44 q45 q46 q47 q48 q49 q50 q51 q52 q53 q54 q55 q56 q57 q58 q59 q60 q61 q62 q63 q64 q65 q66 q67 q68 q69 q70 q71 q72 q73 q74 q75 q76 q77 q78 q79 q80 q81 q82 q83 q84 q85 q86 q87 q88 q89 q90 q91 q92 q93 q94 q95 q96 q97 q98 q99 q100 q101 q102 q103 q104 q105 q106 q107 q108 q109 q110 q111 q112 q113 q114 q115 q116 q117 q118 q119 q120 q121 q122 q123 q124 q125 q126 q127 q128 q129 q130 q131 q132 q133 q134 q135 q136 g0 g1 g2 g3 g4 g5 g6
      clear q6 q9 q14 q24 q29 q31 q34 q39 q43 q45 q48 q55 q56 q58 q62 q63 q65 q76 q77 q79 q86 q92 q98 q99 q101 q107 q109 q112 q125 q126 q128 q132
      have kf := c_fail p3
      have e5_ : (5 : Int32).toInt = 5 := by decide
      have j2 := j20_ q0
      have g9 : v9'.toInt = 5 ∧ v10'.toInt = h0_from'.toInt := by
        rcases j2 with ⟨_, ⟨a, _⟩ | ⟨_, a⟩⟩ | ⟨a, _⟩
        · exact absurd w0 a
        · exact a
        · exact absurd (fl_e hc h9 p0) a
      have fn := fz_M_name q7 (fun z => absurd (g9.1.symm.trans z) (by decide))
      have gw := m_goesWell q10
      have v5 : v21'.toInt = 5 := fn.1.trans g9.1
      have z48 := j48_ q11 d ⟨q3.1, q5.1⟩ gw
      have y48 : v46'.toInt = v21'.toInt ∧ v47'.toInt = v22'.toInt := by
        rcases z48 with ⟨_, a⟩ | ⟨a, _⟩
        · exact a
        · exact absurd (v5.symm.trans a) (by decide)
      have w9 := b11 (m_goesWell q15) q16
      exact absurd ((y48.1.trans v5).symm.trans w9) (by decide)
    · intros v9' v10' v19' v20' v21' v22' r29' v46' v47' r54' v637' fn638' v1131' v1132' v1133' v1134' v1143' v1144' v1145' v1146' r1154' v1223' v1224' v1225' v1236' v1237' v1238' v1239' r1247' v1257' r1264' v1277' v1278' r1287' v1313' v1314' r1323' q0 q1 q2 q3 q4 q5 q6 q7 q8 q9 q10 q11 q12 q13 q14 q15 q16 q17 q18 q19 q20 q21 q22 q23 q24 q25 q26 q27 q28 q29 q30 q31 q32 q33 q34 q35 q36 q37 q38 q39 q40 q41 q42 q43 q44 q45 q46 q47 q48 q49 q50 q51 q52 q53 q54 q55 q56 q57 q58 q59 q60 q61 q62 q63 q64 q65 q66 q67 g0 g1 g2 g3 g4 g5 g6
      clear q6 q9 q14 q24 q29 q31 q34 q39 q43 q45 q48 q55 q56 q58 q62 q63 q65
      have kf := c_fail p3
      have e5_ : (5 : Int32).toInt = 5 := by decide
      have j2 := j20_ q0
      have g9 : v9'.toInt = 5 ∧ v10'.toInt = h0_from'.toInt := by
        rcases j2 with ⟨_, ⟨a, _⟩ | ⟨_, a⟩⟩ | ⟨a, _⟩
        · exact absurd w0 a
        · exact a
        · exact absurd (fl_e hc h9 p0) a
      have fn := fz_M_name q7 (fun z => absurd (g9.1.symm.trans z) (by decide))
      have gw := m_goesWell q10
      have v5 : v21'.toInt = 5 := fn.1.trans g9.1
      have z48 := j48_ q11 d ⟨q3.1, q5.1⟩ gw
      have y48 : v46'.toInt = v21'.toInt ∧ v47'.toInt = v22'.toInt := by
        rcases z48 with ⟨_, a⟩ | ⟨a, _⟩
        · exact a
        · exact absurd (v5.symm.trans a) (by decide)
      have w9 := b11 (m_goesWell q15) q16
      exact absurd ((y48.1.trans v5).symm.trans w9) (by decide)
    · intros v9' v10' v19' v20' v21' v22' r29' v46' v47' r54' q0 q1 q2 q3 q4 q5 q6 q7 q8 q9 q10 q11 q12 q13 q14 q15 q16 g0 g1 g2 g3 g4 g5 g6
      clear q6 q9 q14
      have kf := c_fail p3
      have e5_ : (5 : Int32).toInt = 5 := by decide
      have j2 := j20_ q0
      have g9 : v9'.toInt = 5 ∧ v10'.toInt = h0_from'.toInt := by
        rcases j2 with ⟨_, ⟨a, _⟩ | ⟨_, a⟩⟩ | ⟨a, _⟩
        · exact absurd w0 a
        · exact a
        · exact absurd (fl_e hc h9 p0) a
      have fn := fz_M_name q7 (fun z => absurd (g9.1.symm.trans z) (by decide))
      have gw := m_goesWell q10
      have v5 : v21'.toInt = 5 := fn.1.trans g9.1
      have z48 := j48_ q11 d ⟨q3.1, q5.1⟩ gw
      have y48 : v46'.toInt = v21'.toInt ∧ v47'.toInt = v22'.toInt := by
        rcases z48 with ⟨_, a⟩ | ⟨a, _⟩
        · exact a
        · exact absurd (v5.symm.trans a) (by decide)
      have f5 : v224.toInt = 5 ∧ v225.toInt = h0_tokenStart.toInt := by
        rcases kf with ⟨a, _⟩ | ⟨_, a⟩
        · exact absurd hF a
        · exact ⟨a.1.trans e5_, a.2⟩
      rw [e0, e2, e3, e4, g0, g2, g3]
      have nz : ¬ v224.toInt = 0 := fun z => absurd (f5.1.symm.trans z) (by decide)
      exact ⟨⟨f5.1.trans (y48.1.trans v5).symm, (f5.2.trans ht).trans (y48.2.trans (fn.2.trans g9.2)).symm, fun z => absurd z nz⟩, fun z => absurd z nz⟩
