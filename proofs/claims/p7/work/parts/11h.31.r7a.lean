theorem OWR.is {B : Int → Int} {a b q r : Int} {n : Nat} (h : OWR B a b q) (hn : n < 18) (w : (r = 1 ∧ OW B a b n) ∨ (r = 0 ∧ ¬ OW B a b n)) (hr : ¬ r = 0) : q = n := by
  rcases w with ⟨_, w⟩ | ⟨z, _⟩
  · rcases h with ⟨m, m1, m2, m3⟩ | ⟨_, m2⟩
    · rw [m2, m3.uq w m1 hn]
    · exact absurd w (m2 n hn)
  · exact absurd z hr
theorem OWR.no {B : Int → Int} {a b q r : Int} {n : Nat} (h : OWR B a b q) (w : (r = 1 ∧ OW B a b n) ∨ (r = 0 ∧ ¬ OW B a b n)) (hr : r = 0) : ¬ q = n := by
  intro e
  rcases w with ⟨z, _⟩ | ⟨_, w⟩
  · rw [z] at hr; exact absurd hr (by decide)
  · rcases h with ⟨m, m1, m2, m3⟩ | ⟨m1, _⟩
    · rw [m2] at e
      have : m = n := by omega
      exact w (this ▸ m3)
    · omega
def DCT (tw rd : Nat → Int32) (tc : Int) : Prop := 0 ≤ tc ∧ tc ≤ 8 ∧ ∀ t : Int, 0 ≤ t → t < tc → gG tw t = gG rd (5 + t) ∧ 1 ≤ gG tw t ∧ gG tw t ≤ 60
def DCA (td rn : Nat → Int32) (pu : Int) : Prop := (∀ r : Int, 1 ≤ r → r ≤ 9 → gG td r = gG rn (11 + r)) ∧ pu = gG rn 1
/-- all that was told: the class's rows beside the reference's -/
def DCS (par rad nam sid frm wid hei tw td rd rn : Nat → Int32) (cnt tc pu th rd3 rd4 : Int) : Prop := (1 ≤ cnt ∧ cnt ≤ 9 ∧ cnt = rd3) ∧ DCF par sid frm wid hei rad rd cnt ∧ NMC nam rd cnt ∧ DC0 sid wid hei rd ∧ (DCT tw rd tc ∧ tc = rd4) ∧ DCA td rn pu ∧ th = gG rd 0
theorem DCF.rd {par sid frm wid hei rad rd rd2 : Nat → Int32} {n : Int} (D : DCF par sid frm wid hei rad rd n) (k : ∀ j : Int, 13 ≤ j → gG rd2 j = gG rd j) : DCF par sid frm wid hei rad rd2 n := by
  intro g g1 g2
  have d := D g g1 g2
  rw [k (13 + g) (by omega), k (22 + g) (by omega), k (31 + g) (by omega), k (40 + g) (by omega), k (49 + g) (by omega), k (58 + g) (by omega)]
  exact d
theorem NMC.rd {nm rd rd2 : Nat → Int32} {n : Int} (D : NMC nm rd n) (k : ∀ j : Int, 13 ≤ j → gG rd2 j = gG rd j) : NMC nm rd2 n := by
  intro g g1 g2
  have d := D g g1 g2
  rw [k (67 + 4 * g) (by omega), k (67 + 4 * g + 1) (by omega), k (67 + 4 * g + 2) (by omega), k (67 + 4 * g + 3) (by omega)]
  exact d
theorem DC0.rd {sid wid hei rd rd2 : Nat → Int32} (D : DC0 sid wid hei rd) (k1 : gG rd2 1 = gG rd 1) (k2 : gG rd2 2 = gG rd 2) : DC0 sid wid hei rd2 := by
  unfold DC0
  rw [k1, k2]; exact D
theorem DCT.rd {tw rd rd2 : Nat → Int32} {n : Int} (D : DCT tw rd n) (k : ∀ j : Int, 5 ≤ j → j < 13 → gG rd2 j = gG rd j) : DCT tw rd2 n := by
  obtain ⟨d0, d8, d⟩ := D
  refine ⟨d0, d8, fun t t0 t1 => ?_⟩
  rw [k (5 + t) (by omega) (by omega)]; exact d t t0 t1
theorem DCA.rn {td rn rn2 : Nat → Int32} {n : Int} (D : DCA td rn n) (k : ∀ j : Int, 11 ≤ j → gG rn2 j = gG rn j) (k1 : gG rn2 1 = gG rn 1) : DCA td rn2 n := by
  refine ⟨fun r r1 r9 => ?_, ?_⟩
  · rw [k (11 + r) (by omega)]; exact D.1 r r1 r9
  · rw [k1]; exact D.2
theorem DCS.press {par rad nam sid frm wid hei tw td rd rn rn2 : Nat → Int32} {x : Int32} {cnt tc pu th rd3 rd4 pu2 : Int} (D : DCS par rad nam sid frm wid hei tw td rd rn cnt tc pu th rd3 rd4) (u : rn2 = upd rn (1 : Int32).toNatClampNeg x) (e : pu2 = x.toInt) : DCS par rad nam sid frm wid hei tw td rd rn2 cnt tc pu2 th rd3 rd4 := by
  obtain ⟨d1, d2, d3, d4, d5, d6, d7⟩ := D
  refine ⟨d1, d2, d3, d4, d5, ⟨fun r r1 r9 => ?_, ?_⟩, d7⟩
  · rw [gU_ne (Z := 1) u (by decide) ⟨by omega, by omega, by omega⟩]; exact d6.1 r r1 r9
  · rw [gU_eq u (by decide)]; exact e
theorem DCS.allow {par rad nam sid frm wid hei tw td rd rn td2 rn2 : Nat → Int32} {x y a b z : Int32} {cnt tc pu th rd3 rd4 : Int} (D : DCS par rad nam sid frm wid hei tw td rd rn cnt tc pu th rd3 rd4) (u : td2 = upd td a.toNatClampNeg x) (v : rn2 = upd rn z.toNatClampNeg y) (hz : z.toInt = 11 + b.toInt) (e : a.toInt = b.toInt) (e2 : x.toInt = y.toInt) (hb : 1 ≤ a.toInt ∧ a.toInt ≤ 9) : DCS par rad nam sid frm wid hei tw td2 rd rn2 cnt tc pu th rd3 rd4 := by
  obtain ⟨d1, d2, d3, d4, d5, d6, d7⟩ := D
  rw [← e] at hz
  refine ⟨d1, d2, d3, d4, d5, ⟨fun r r1 r9 => ?_, ?_⟩, d7⟩
  · by_cases q : r = a.toInt
    · rw [q, gU_eq u rfl, gU_eq v hz]; exact e2
    · rw [gU_ne u rfl ⟨by omega, by omega, q⟩, gU_ne v hz ⟨by omega, by omega, by omega⟩]; exact d6.1 r r1 r9
  · rw [gU_ne v hz ⟨by omega, by omega, by omega⟩]; exact d6.2
theorem DCS.tool {par rad nam sid frm wid hei tw td rd rn tw2 rdm rd2 : Nat → Int32} {x y t z m : Int32} {cnt tc pu th rd3 rd4 tc2 : Int} (D : DCS par rad nam sid frm wid hei tw td rd rn cnt tc pu th rd3 rd4) (ht : t.toInt = tc) (h8 : tc < 8) (u : tw2 = upd tw t.toNatClampNeg x) (v : rdm = upd rd z.toNatClampNeg y) (w : rd2 = upd rdm (4 : Int32).toNatClampNeg m) (hz : z.toInt = 5 + rd4) (e : x.toInt = y.toInt) (hx : 1 ≤ x.toInt ∧ x.toInt ≤ 60) (h2 : tc2 = tc + 1) (hm : m.toInt = rd4 + 1) : DCS par rad nam sid frm wid hei tw2 td rd2 rn cnt tc2 pu th rd3 m.toInt := by
  obtain ⟨d1, d2, d3, d4, ⟨d5, d5'⟩, d6, d7⟩ := D
  have t0 := d5.1
  rw [← d5'] at hz hm
  have k : ∀ j : Int, 0 ≤ j → ¬ j = 4 → ¬ j = 5 + tc → gG rd2 j = gG rd j := fun j j0 j1 j2 => by
    rw [gU_ne (Z := 4) w (by decide) ⟨j0, by omega, j1⟩, gU_ne v hz ⟨j0, by omega, j2⟩]
  refine ⟨d1, d2.rd (fun j j0 => k j (by omega) (by omega) (by omega)), d3.rd (fun j j0 => k j (by omega) (by omega) (by omega)), d4.rd (k 1 (by omega) (by omega) (by omega)) (k 2 (by omega) (by omega) (by omega)), ⟨⟨by omega, by omega, fun q q0 q1 => ?_⟩, by omega⟩, d6, by rw [k 0 (by omega) (by omega) (by omega)]; exact d7⟩
  by_cases p : q = tc
  · subst p
    rw [gU_eq u ht, gU_ne (Z := 4) w (by decide) ⟨by omega, by omega, by omega⟩, gU_eq v hz]
    exact ⟨e, hx⟩
  · rw [gU_ne u ht ⟨by omega, by omega, p⟩, k (5 + q) (by omega) (by omega) (by omega)]
    exact d5.2.2 q q0 (by omega)
theorem DCS.flange {par rad nam sid frm wid hei tw td rd rn par2 rad2 nam2 sid2 frm2 wid2 hei2 rd2 rn2 : Nat → Int32} {cnt tc pu th rd3 rd4 cnt2 r3 : Int} (D : DCS par rad nam sid frm wid hei tw td rd rn cnt tc pu th rd3 rd4) (h2 : cnt2 = cnt + 1) (h8 : cnt ≤ 8) (e3 : r3 = cnt2) (f : DCF par2 sid2 frm2 wid2 hei2 rad2 rd2 cnt2) (n : NMC nam2 rd2 cnt2) (z : DC0 sid2 wid2 hei2 rd2) (k : ∀ j : Int, 0 ≤ j → j < 13 → ¬ j = 3 → gG rd2 j = gG rd j) (kn : ∀ j : Int, 0 ≤ j → ¬ j = 2 + cnt → gG rn2 j = gG rn j) : DCS par2 rad2 nam2 sid2 frm2 wid2 hei2 tw td rd2 rn2 cnt2 tc pu th r3 rd4 := by
  obtain ⟨d1, d2, d3, d4, d5, d6, d7⟩ := D
  exact ⟨⟨by omega, by omega, e3.symm⟩, f, n, z, ⟨d5.1.rd (fun j j0 j1 => k j (by omega) j1 (by omega)), d5.2⟩, d6.rn (fun j j0 => kn j (by omega) (by omega)) (kn 1 (by omega) (by omega)), by rw [k 0 (by omega) (by omega) (by omega)]; exact d7⟩
theorem tl_8 {t r : Int} (e : t = r) (h : t < 8) : ¬ r = 8 := by omega
theorem tl_n {t r : Int} (e : t = r) (h : ¬ t < 8) (h8 : t ≤ 8) : r = 8 := by omega
theorem fz_R_readFlange {h0_at : Int32} {h0_tokenStart : Int32} {h0_tokenEnd : Int32} {h0_fault : Int32} {h0_place : Int32} {h0_into_count : Int32} {h0_into_ups : Int32} {f_h0_into_parent : (Nat → Int32)} {f_h0_into_radius : (Nat → Int32)} {h0_tape_length : Int32} {f_h0_tape_bytes : (Nat → Int32)} {f_h0_into_name : (Nat → Int32)} {f_h0_into_side : (Nat → Int32)} {f_h0_into_from : (Nat → Int32)} {f_h0_into_width : (Nat → Int32)} {f_h0_into_height : (Nat → Int32)} {o_u_h0_at : Int32} {o_u_h0_tokenStart : Int32} {o_u_h0_tokenEnd : Int32} {o_u_h0_fault : Int32} {o_u_h0_place : Int32} {o_u_h0_into_count : Int32} {o_u_h0_into_ups : Int32} {o_u_h0_into_parent : (Nat → Int32)} {o_u_h0_into_radius : (Nat → Int32)} {o_u_h0_into_name : (Nat → Int32)} {o_u_h0_into_side : (Nat → Int32)} {o_u_h0_into_from : (Nat → Int32)} {o_u_h0_into_width : (Nat → Int32)} {o_u_h0_into_height : (Nat → Int32)} (h : S_R_readFlange h0_at h0_tokenStart h0_tokenEnd h0_fault h0_place h0_into_count h0_into_ups f_h0_into_parent f_h0_into_radius h0_tape_length f_h0_tape_bytes f_h0_into_name f_h0_into_side f_h0_into_from f_h0_into_width f_h0_into_height o_u_h0_at o_u_h0_tokenStart o_u_h0_tokenEnd o_u_h0_fault o_u_h0_place o_u_h0_into_count o_u_h0_into_ups o_u_h0_into_parent o_u_h0_into_radius o_u_h0_into_name o_u_h0_into_side o_u_h0_into_from o_u_h0_into_width o_u_h0_into_height) : ¬ h0_fault.toInt = 0 → o_u_h0_fault.toInt = h0_fault.toInt ∧ o_u_h0_place.toInt = h0_place.toInt := by
  refine h _ ⟨?_, ?_, trivial⟩
  · intros v4 v5 v6 v7 v8 r2 f15 v19 v20 v21 v22 v23 v32 v33 v34 v35 v36 r30 f45 z48 v53 v54 v55 v56 v57 r51 f65 v70 v71 v72 v73 v74 v83 v84 v85 v86 v87 r81 f95 v99 v100 v101 v102 v103 v112 v113 v114 v115 v116 r110 f124 v128 v129 v135 v136 v137 v138 v139 v148 v149 v150 v151 v152 r146 f160 v164 v165 v166 v167 v168 r162 v181 v187 v188 v189 v190 v191 v200 v201 v202 v203 v204 r198 f212 z214 p0 p1 p2 p3 p4 p5 p6 p7 p8 p9 p10 p11 p12 p13 p14 p15 p16 p17 p18 p19 p20 p21 p22 p23 p24 p25 p26 p27 p28 p29 p30 p31 p32 p33 p34 p35 p36 p37 p38 p39 p40 p41 p42 p43 p44 p45 p46 p47 p48 p49 p50 p51 p52 p53 p54 p55 p56 p57 p58 p59 p60 p61 p62 p63 p64 p65 p66 p67 p68 p69 p70 p71 p72 p73 p74 p75 p76 p77 p78 p79 p80 p81 p82 p83 p84 p85 p86 p87 p88 p89 p90 p91 p92 p93 p94 p95 p96 p97 p98 p99 p100 e0 e1 e2 e3 e4 e5 e6 e7 e8 e9 e10 e11 e12 e13
    clear p5 p12 p19 p20 p30 p37 p43 p44 p51 p57 p58 p62 p68 p74 p75 p83 p90 p96 p97
    intro n0
    have y0 := fz_R_newName p6 n0
    have n1 : ¬ v7.toInt = 0 := fun z => n0 (y0.1.symm.trans z)
    have y1 := fz_R_keyword_8 p13 n1
    have n2 : ¬ v22.toInt = 0 := fun z => n1 (y1.1.symm.trans z)
    have y2 := fz_R_where p21 n2
    have n3 : ¬ v35.toInt = 0 := fun z => n2 (y2.1.symm.trans z)
    have y3 := fz_R_sideOf p31 n3
    have n4 : ¬ v56.toInt = 0 := fun z => n3 (y3.1.symm.trans z)
    have y4 := fz_R_keyword_13 p38 n4
    have n5 : ¬ v73.toInt = 0 := fun z => n4 (y4.1.symm.trans z)
    have y5 := fz_R_number p45 n5
    have n6 : ¬ v86.toInt = 0 := fun z => n5 (y5.1.symm.trans z)
    have y6 := fz_R_keyword_14 p52 n6
    have n7 : ¬ v102.toInt = 0 := fun z => n6 (y6.1.symm.trans z)
    have y7 := fz_R_number p59 n7
    have n8 : ¬ v115.toInt = 0 := fun z => n7 (y7.1.symm.trans z)
    have y8 := fz_R_checkWidth p63 n8
    have n9 : ¬ v128.toInt = 0 := fun z => n8 (y8.1.symm.trans z)
    have y9 := fz_R_keyword_15 p69 n9
    have n10 : ¬ v138.toInt = 0 := fun z => n9 (y9.1.symm.trans z)
    have y10 := fz_R_number p76 n10
    have n11 : ¬ v151.toInt = 0 := fun z => n10 (y10.1.symm.trans z)
    have y11 := fz_R_isUp p84 n11
    have n12 : ¬ v167.toInt = 0 := fun z => n11 (y11.1.symm.trans z)
    have y12 := fz_R_keyword_18 p91 n12
    have n13 : ¬ v190.toInt = 0 := fun z => n12 (y12.1.symm.trans z)
    have y13 := fz_R_number p98 n13
    have n14 : ¬ v203.toInt = 0 := fun z => n13 (y13.1.symm.trans z)
    rw [e3, e4]
    exact ⟨y13.1.trans (y12.1.trans (y11.1.trans (y10.1.trans (y9.1.trans (y8.1.trans (y7.1.trans (y6.1.trans (y5.1.trans (y4.1.trans (y3.1.trans (y2.1.trans (y1.1.trans (y0.1))))))))))))), y13.2.trans (y12.2.trans (y11.2.trans (y10.2.trans (y9.2.trans (y8.2.trans (y7.2.trans (y6.2.trans (y5.2.trans (y4.2.trans (y3.2.trans (y2.2.trans (y1.2.trans (y0.2)))))))))))))⟩
  · intros v224 v225 p0 p1 p2 p3 e0 e1 e2 e3 e4 e5 e6 e7 e8 e9 e10 e11 e12 e13
    have y := fz_R_fail p3
    intro n0
    rw [e3, e4]
    exact y n0
theorem fz_R_readTool {h0_at : Int32} {h0_tokenStart : Int32} {h0_tokenEnd : Int32} {h0_fault : Int32} {h0_place : Int32} {h0_into_toolCount : Int32} {h0_tape_length : Int32} {f_h0_tape_bytes : (Nat → Int32)} {f_h0_into_toolWidth : (Nat → Int32)} {o_u_h0_at : Int32} {o_u_h0_tokenStart : Int32} {o_u_h0_tokenEnd : Int32} {o_u_h0_fault : Int32} {o_u_h0_place : Int32} {o_u_h0_into_toolCount : Int32} {o_u_h0_into_toolWidth : (Nat → Int32)} (h : S_R_readTool h0_at h0_tokenStart h0_tokenEnd h0_fault h0_place h0_into_toolCount h0_tape_length f_h0_tape_bytes f_h0_into_toolWidth o_u_h0_at o_u_h0_tokenStart o_u_h0_tokenEnd o_u_h0_fault o_u_h0_place o_u_h0_into_toolCount o_u_h0_into_toolWidth)  : ¬ h0_fault.toInt = 0 → o_u_h0_fault.toInt = h0_fault.toInt ∧ o_u_h0_place.toInt = h0_place.toInt := by
  rcases h with ⟨v4, v5, v6, v7, v8, r2, f16, z18, p0, p1, p2, p3, p4, p5, p6, p7, p8, p9, e0, e1, e2, e3, e4, e5, e6⟩ | ⟨v23, v24, p0, p1, p2, p3, e0, e1, e2, e3, e4, e5, e6⟩ | h
  · have i1_ : (1 : Int32).toInt = 1 := by decide
    have i60_ : (60 : Int32).toInt = 60 := by decide
    have k7 := fz_R_number p7
    omega
  · have i5_ : (5 : Int32).toInt = 5 := by decide
    have k3 := fz_R_fail p3
    omega
  · exact h.elim
theorem fz_R_readAllow {h0_at : Int32} {h0_tokenEnd : Int32} {h0_fault : Int32} {h0_place : Int32} {h0_tape_length : Int32} {f_h0_tape_bytes : (Nat → Int32)} {f_h0_into_told : (Nat → Int32)} {o_u_h0_at : Int32} {o_u_h0_tokenStart : Int32} {o_u_h0_tokenEnd : Int32} {o_u_h0_fault : Int32} {o_u_h0_place : Int32} {o_u_h0_into_told : (Nat → Int32)} (h : S_R_readAllow h0_at h0_tokenEnd h0_fault h0_place h0_tape_length f_h0_tape_bytes f_h0_into_told o_u_h0_at o_u_h0_tokenStart o_u_h0_tokenEnd o_u_h0_fault o_u_h0_place o_u_h0_into_told)  : ¬ h0_fault.toInt = 0 → o_u_h0_fault.toInt = h0_fault.toInt ∧ o_u_h0_place.toInt = h0_place.toInt := by
  rcases h with ⟨v3, v4, v5, v6, v7, r1, v17, v18, v19, v20, v21, r15, p0, p1, p2, p3, p4, p5, p6, p7, p8, p9, p10, p11, p12, p13, p14, e0, e1, e2, e3, e4, e5⟩ | ⟨v3, v4, v5, v6, v7, r1, v17, v18, v19, v20, v21, r15, f30, p0, p1, p2, p3, p4, p5, p6, p7, p8, p9, p10, p11, p12, p13, p14, p15, e0, e1, e2, e3, e4, e5⟩ | h
  · have i1_ : (1 : Int32).toInt = 1 := by decide
    have i9_ : (9 : Int32).toInt = 9 := by decide
    have k6 := fz_R_number p6
    have i0_ : (0 : Int32).toInt = 0 := by decide
    have i60_ : (60 : Int32).toInt = 60 := by decide
    have k13 := fz_R_number p13
    omega
  · have i1_ : (1 : Int32).toInt = 1 := by decide
    have i9_ : (9 : Int32).toInt = 9 := by decide
    have k6 := fz_R_number p6
    have i0_ : (0 : Int32).toInt = 0 := by decide
    have i60_ : (60 : Int32).toInt = 60 := by decide
    have k13 := fz_R_number p13
    omega
  · exact h.elim
theorem fz_R_readSheet {h0_at : Int32} {h0_tokenEnd : Int32} {h0_fault : Int32} {h0_place : Int32} {h0_tape_length : Int32} {f_h0_tape_bytes : (Nat → Int32)} {h0_into_statements : Int32} {f_h0_into_width : (Nat → Int32)} {f_h0_into_height : (Nat → Int32)} {o_u_h0_at : Int32} {o_u_h0_tokenStart : Int32} {o_u_h0_fault : Int32} {o_u_h0_place : Int32} {o_u_h0_into_statements : Int32} {o_u_h0_into_thick : Int32} {o_u_h0_into_width : (Nat → Int32)} {o_u_h0_into_height : (Nat → Int32)} (h : S_R_readSheet h0_at h0_tokenEnd h0_fault h0_place h0_tape_length f_h0_tape_bytes h0_into_statements f_h0_into_width f_h0_into_height o_u_h0_at o_u_h0_tokenStart o_u_h0_fault o_u_h0_place o_u_h0_into_statements o_u_h0_into_thick o_u_h0_into_width o_u_h0_into_height)  : ¬ h0_fault.toInt = 0 → o_u_h0_fault.toInt = h0_fault.toInt ∧ o_u_h0_place.toInt = h0_place.toInt := by
  rcases h with ⟨v3, v4, v5, v6, v7, v16, v17, v18, v19, v20, v29, v30, v31, v32, v33, r27, v43, v44, v45, v46, v47, v56, v57, v58, v59, v60, r54, f68, v72, v73, v74, v75, v76, r70, f84, v88, v89, v90, v91, v92, p0, p1, p2, p3, p4, p5, p6, p7, p8, p9, p10, p11, p12, p13, p14, p15, p16, p17, p18, p19, p20, p21, p22, p23, p24, p25, p26, p27, p28, p29, p30, p31, p32, p33, p34, p35, p36, p37, p38, p39, p40, p41, p42, p43, p44, p45, e0, e1, e2, e3, e4, e5, e6, e7⟩ | h
  · have k5 := fz_R_keyword_0 p5
    have k11 := fz_R_keyword_1 p11
    have i1_ : (1 : Int32).toInt = 1 := by decide
    have i9_ : (9 : Int32).toInt = 9 := by decide
    have k18 := fz_R_number p18
    have k24 := fz_R_keyword_2 p24
    have i1_ : (1 : Int32).toInt = 1 := by decide
    have i60_ : (60 : Int32).toInt = 60 := by decide
    have k31 := fz_R_number p31
    have i1_ : (1 : Int32).toInt = 1 := by decide
    have i60_ : (60 : Int32).toInt = 60 := by decide
    have k39 := fz_R_number p39
    have k45 := fz_R_semicolon p45
    omega
  · exact h.elim
theorem fz_line {f_h0_tape_bytes : (Nat → Int32)} {fn1950 : (Nat → Int32)} {fn1951 : (Nat → Int32)} {fn1952 : (Nat → Int32)} {fn1953 : (Nat → Int32)} {fn1954 : (Nat → Int32)} {fn1955 : (Nat → Int32)} {fn1956 : (Nat → Int32)} {fn1966 : (Nat → Int32)} {fn1967 : (Nat → Int32)} {h0_tape_length : Int32} {r2269 : Int32} {v1961 : Int32} {v1963 : Int32} {v1964 : Int32} {v1965 : Int32} {v2258 : Int32} {v2259 : Int32} {v2260 : Int32} {v2261 : Int32} {v2262 : Int32} {fn2363 : (Nat → Int32)} {fn2364 : (Nat → Int32)} {fn2365 : (Nat → Int32)} {fn2366 : (Nat → Int32)} {fn2367 : (Nat → Int32)} {fn2368 : (Nat → Int32)} {fn2369 : (Nat → Int32)} {v2370 : Int32} {v2371 : Int32} {v2372 : Int32} {v2373 : Int32} {fn2374 : (Nat → Int32)} {fn2375 : (Nat → Int32)} {v2376 : Int32} {v2377 : Int32} {v2378 : Int32} {v2379 : Int32} {v2380 : Int32} (h : J_R_read_119_2 f_h0_tape_bytes fn1950 fn1951 fn1952 fn1953 fn1954 fn1955 fn1956 fn1966 fn1967 h0_tape_length r2269 v1961 v1963 v1964 v1965 v2258 v2259 v2260 v2261 v2262 fn2363 fn2364 fn2365 fn2366 fn2367 fn2368 fn2369 v2370 v2371 v2372 v2373 fn2374 fn2375 v2376 v2377 v2378 v2379 v2380) : ¬ v2261.toInt = 0 → v2379.toInt = v2261.toInt ∧ v2380.toInt = v2262.toInt := by
  rcases h with ⟨r2409, r2413, r2417, v2423, v2424, p0, p1, p2, p3, p4, p5, p6, p7, p8, p9, p10, p11, p12, e0, e1, e2, e3, e4, e5, e6, e7, e8, e9, e10, e11, e12, e13, e14, e15, e16, e17⟩ | ⟨r2409, r2413, r2417, v2430, v2431, v2432, v2433, v2434, v2435, v2436, f2437, f2438, f2439, f2440, f2441, f2442, f2443, p0, p1, p2, p3, p4, p5, p6, p7, p8, p9, p10, p11, p12, p13, p14, -, p16, e0, e1, e2, e3, e4, e5, e6, e7, e8, e9, e10, e11, e12, e13, e14, e15, e16, e17⟩ | ⟨r2409, r2413, v2457, v2458, v2459, v2460, v2461, f2462, p0, p1, p2, p3, p4, p5, p6, p7, p8, p9, p10, -, p12, e0, e1, e2, e3, e4, e5, e6, e7, e8, e9, e10, e11, e12, e13, e14, e15, e16, e17⟩ | ⟨r2409, v2471, v2472, v2473, v2474, v2475, v2476, f2477, p0, p1, p2, p3, p4, p5, p6, p7, p8, -, p10, e0, e1, e2, e3, e4, e5, e6, e7, e8, e9, e10, e11, e12, e13, e14, e15, e16, e17⟩ | ⟨v2487, v2488, v2489, v2490, v2491, r2485, p0, p1, p2, p3, p4, -, -, p7, e0, e1, e2, e3, e4, e5, e6, e7, e8, e9, e10, e11, e12, e13, e14, e15, e16, e17⟩ | h
  · have y := fz_R_fail p12
    intro n0
    rw [e16, e17]
    exact y n0
  · have y := fz_R_readFlange p16
    intro n0
    rw [e16, e17]
    exact y n0
  · have y := fz_R_readAllow p12
    intro n0
    rw [e16, e17]
    exact y n0
  · have y := fz_R_readTool p10
    intro n0
    rw [e16, e17]
    exact y n0
  · have y := fz_R_number p7
    intro n0
    rw [e16, e17]
    exact y n0
  · exact h.elim
