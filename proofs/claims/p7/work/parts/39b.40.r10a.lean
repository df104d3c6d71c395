def pNM0 (nam told : Nat → Int32) : Prop := gG nam 0 = 0 ∧ gG told 67 = 0 ∧ gG told 68 = 0 ∧ gG told 69 = 0 ∧ gG told 70 = 0
/-- the class's part beside what the reference was told -/
def pDC (par rad nam sid frm wid hei tw told : Nat → Int32) (cnt tc th hp t3 t4 : Int32) : Prop := (cnt.toInt = 0 ∧ hp.toInt = 0 ∧ tc.toInt = 0 ∧ th.toInt = 0) ∨ (hp.toInt = 1 ∧ (1 ≤ cnt.toInt ∧ cnt.toInt ≤ 9 ∧ cnt.toInt = t3.toInt) ∧ DCF par sid frm wid hei rad told cnt.toInt ∧ NMC nam told cnt.toInt ∧ DC0 sid wid hei told ∧ (DCT tw told tc.toInt ∧ tc.toInt = t4.toInt) ∧ th.toInt = gG told 0)
theorem pDC.zero {par rad nam sid frm wid hei tw told : Nat → Int32} {cnt tc th hp t3 t4 : Int32} (h1 : cnt.toInt = 0) (h2 : hp.toInt = 0) (h3 : tc.toInt = 0) (h4 : th.toInt = 0) : pDC par rad nam sid frm wid hei tw told cnt tc th hp t3 t4 := .inl ⟨h1, h2, h3, h4⟩
/-- both rows agree below k -/
def pCY (f g : Nat → Int32) (k : Int32) : Prop := ∀ j : Nat, (j : Int) < k.toInt → f j = g j
theorem pCY.zero {f g : Nat → Int32} {k : Int32} (h : k.toInt ≤ 0) : pCY f g k := fun j q => by omega
theorem pCY.step {f f2 g : Nat → Int32} {k k2 x : Int32} {K : Int} (h : pCY f g k) (e : f2 = upd f k.toNatClampNeg x) (ex : x = g k.toNatClampNeg) (hk : k.toInt = K) (hk2 : k2.toInt = K + 1) (h0 : 0 ≤ K) : pCY f2 g k2 := by
  intro j hj
  have en : k.toNatClampNeg = K.toNat := by rw [← hk]; rfl
  rw [e]
  by_cases q : j = k.toNatClampNeg
  · rw [q, pk_us]; exact ex
  · rw [pk_un q]; exact h j (by omega)
/-- what part() of the reference keeps: all that was read where it is right, all that was told before where it is wrong -/
def pTK (w : Int32) (told2 rd told : Nat → Int32) (hp2 hp : Int32) : Prop := (w.toInt = 0 ∧ pCY told2 rd 103 ∧ hp2.toInt = 1) ∨ (¬ w.toInt = 0 ∧ told2 = told ∧ hp2.toInt = hp.toInt)
theorem pCY.full {f g : Nat → Int32} {k : Int32} {K : Int} (h : pCY f g k) (hk : k.toInt = K) (h1 : 103 ≤ K) : pCY f g 103 := by
  intro j q
  have e : (103 : Int32).toInt = 103 := by decide
  exact h j (by omega)
theorem pTK.ok {w : Int32} {told2 rd told : Nat → Int32} {hp2 hp : Int32} (h : pTK w told2 rd told hp2 hp) (hw : w.toInt = 0) : pCY told2 rd 103 ∧ hp2.toInt = 1 := (h.resolve_right (fun q => q.1 hw)).2
theorem pTK.no {w : Int32} {told2 rd told : Nat → Int32} {hp2 hp : Int32} (h : pTK w told2 rd told hp2 hp) (hw : ¬ w.toInt = 0) : told2 = told ∧ hp2.toInt = hp.toInt := (h.resolve_left (fun q => hw q.1)).2
theorem pDC.keep {par rad nam sid frm wid hei tw told told2 : Nat → Int32} {cnt tc th hp t3 t4 hp2 t32 t42 : Int32} (D : pDC par rad nam sid frm wid hei tw told cnt tc th hp t3 t4) (k : told2 = told ∧ hp2.toInt = hp.toInt) (g3 : cEq told 3 t3) (g4 : cEq told 4 t4) (g32 : cEq told2 3 t32) (g42 : cEq told2 4 t42) : pDC par rad nam sid frm wid hei tw told2 cnt tc th hp2 t32 t42 := by
  obtain ⟨e, eh⟩ := k
  subst e
  rw [show t32 = t3 from g32.symm.trans g3, show t42 = t4 from g42.symm.trans g4]
  unfold pDC at D ⊢
  rw [eh]; exact D
theorem pCY.at {f g : Nat → Int32} (h : pCY f g 103) (j : Int) (h0 : 0 ≤ j) (h1 : j < 103) : gG f j = gG g j := by
  have e : (103 : Int32).toInt = 103 := by decide
  unfold gG
  rw [h j.toNat (by omega)]
/-- what was told stands beside the part that was taken -/
theorem pDC.of {par rad nam sid frm wid hei tw td rd rn told : Nat → Int32} {cnt tc pu th : Int} {c3 c4 cn tcn thn hp t3 t4 : Int32} (D : DCS par rad nam sid frm wid hei tw td rd rn cnt tc pu th c3.toInt c4.toInt) (hC : pCY told rd 103) (e1 : cn.toInt = cnt) (e2 : tcn.toInt = tc) (e3 : thn.toInt = th) (hp1 : hp.toInt = 1) (g3 : cEq told 3 t3) (g4 : cEq told 4 t4) (r3 : cEq rd 3 c3) (r4 : cEq rd 4 c4) : pDC par rad nam sid frm wid hei tw told cn tcn thn hp t3 t4 := by
  obtain ⟨⟨a1, a2, a3⟩, F, N, Z, ⟨T, a4⟩, _, a5⟩ := D
  have q3 : t3 = c3 := by rw [← g3, ← r3]; exact hC 3 (by decide)
  have q4 : t4 = c4 := by rw [← g4, ← r4]; exact hC 4 (by decide)
  rw [e1.symm] at a1 a2 a3 F N
  rw [e2.symm] at T a4
  rw [e3.symm] at a5
  refine .inr ⟨hp1, ⟨a1, a2, by rw [q3]; exact a3⟩, fun g g1 g2 => ?_, fun f f1 f2 => ?_, ?_, ⟨⟨T.1, T.2.1, fun t t0 t1 => ?_⟩, by rw [q4]; exact a4⟩, ?_⟩
  · rw [hC.at (13 + g) (by omega) (by omega), hC.at (22 + g) (by omega) (by omega), hC.at (31 + g) (by omega) (by omega), hC.at (40 + g) (by omega) (by omega), hC.at (49 + g) (by omega) (by omega), hC.at (58 + g) (by omega) (by omega)]
    exact F g g1 g2
  · rw [hC.at (67 + 4 * f) (by omega) (by omega), hC.at (67 + 4 * f + 1) (by omega) (by omega), hC.at (67 + 4 * f + 2) (by omega) (by omega), hC.at (67 + 4 * f + 3) (by omega) (by omega)]
    exact N f f1 f2
  · unfold DC0
    rw [hC.at 1 (by decide) (by decide), hC.at 2 (by decide) (by decide)]
    exact Z
  · have T1 := T.1
    have T2 := T.2.1
    rw [hC.at (5 + t) (by omega) (by omega)]
    exact T.2.2 t t0 t1
  · rw [hC.at 0 (by decide) (by decide)]
    exact a5
theorem mB.n0 {f : Nat → Int32} (h : pW mB f) {j : Int} (h0 : 67 ≤ j) (h1 : j ≤ 70) : gG f j = 0 := by
  have q := h j.toNat
  rw [show ((j.toNat : Nat) : Int) = j by omega] at q
  rcases q.2.2.2.2.2 with a | a
  · omega
  · exact a
theorem pNM0.of {nam told : Nat → Int32} (h : pS0 nam) (hB : pW mB told) : pNM0 nam told := ⟨h, mB.n0 hB (by decide) (by decide), mB.n0 hB (by decide) (by decide), mB.n0 hB (by decide) (by decide), mB.n0 hB (by decide) (by decide)⟩
theorem sm5 : ∀ n, n < 31 → ((nI n &&& 31).toBitVec.smod 32).toNat = n := by decide +kernel
theorem sm5_of {s : Int32} {n : Nat} (h : s.toInt = n) (hn : n < 31) : ((s &&& 31).toBitVec.smod 32).toNat = n := by
  have e : s = nI n := xie (by rw [h, nI_toInt (by omega)])
  rw [e]; exact sm5 n hn
theorem and31 {z y : Int32} (e : z = y &&& 31) : z.toInt = y.toInt % 32 := by
  have h3 : z.toBitVec.toNat = y.toBitVec.toNat % 32 := by
    rw [e, Int32.toBitVec_and, BitVec.toNat_and, show ((31 : Int32).toBitVec.toNat) = 2 ^ 5 - 1 by decide]
    exact Nat.and_two_pow_sub_one_eq_mod _ 5
  have h5 := z_of h3 (by omega)
  have h1 : y.toInt = y.toBitVec.toInt := rfl
  rw [h5, h1, BitVec.toInt_eq_toNat_cond]
  have h2 := y.toBitVec.isLt
  split <;> omega
/-- a letter out of a name as one number -/
theorem let_of {z s t u : Int32} {k a b c d : Int} (hz : z.toInt = 32768 * a + 1024 * b + 32 * c + d) (ha : 0 ≤ a ∧ a < 32) (hb : 0 ≤ b ∧ b < 32) (hc : 0 ≤ c ∧ c < 32) (hd : 0 ≤ d ∧ d < 32) (hs : s.toInt = 5 * (3 - k)) (e1 : t = z >>> (s &&& 31)) (e2 : u = t &&& 31) : (k = 0 → u.toInt = a) ∧ (k = 1 → u.toInt = b) ∧ (k = 2 → u.toInt = c) ∧ (k = 3 → u.toInt = d) := by
  have hu := and31 e2
  refine ⟨fun q => ?_, fun q => ?_, fun q => ?_, fun q => ?_⟩
  · have h := zshr 15 e1 (sm5_of (n := 15) (by omega) (by decide)) hz
    rw [hu, h]; omega
  · have h := zshr 10 e1 (sm5_of (n := 10) (by omega) (by decide)) hz
    rw [hu, h]; omega
  · have h := zshr 5 e1 (sm5_of (n := 5) (by omega) (by decide)) hz
    rw [hu, h]; omega
  · have h := zshr 0 e1 (sm5_of (n := 0) (by omega) (by decide)) hz
    rw [hu, h]; omega
/-- bends on the way between two flanges, by their parents -/
def BW (p : Int → Int) : Nat → Int → Int → Int
  | 0, _, _ => 0
  | n + 1, a, b => if a = b then 0 else if b < a then 1 + BW p n (p a) b else 1 + BW p n a (p b)
theorem BW.st {p : Int → Int} {c : Int} (hp : ∀ k : Int, 1 ≤ k → k < c → 0 ≤ p k ∧ p k < k) : ∀ (n : Nat) (a b : Int), 0 ≤ a → a < c → 0 ≤ b → b < c → a + b ≤ n → BW p n a b = BW p (n + 1) a b := by
  intro n
  induction n with
  | zero =>
    intro a b a0 a1 b0 b1 h
    have e : a = b := by omega
    unfold BW
    rw [if_pos e]
  | succ n ih =>
    intro a b a0 a1 b0 b1 h
    rw [BW, BW]
    by_cases e : a = b
    · rw [if_pos e, if_pos e]
    · rw [if_neg e, if_neg e]
      by_cases q : b < a
      · rw [if_pos q, if_pos q]
        have k := hp a (by omega) a1
        rw [ih (p a) b k.1 (by omega) b0 b1 (by omega)]
      · rw [if_neg q, if_neg q]
        have k := hp b (by omega) b1
        rw [ih a (p b) a0 a1 k.1 (by omega) (by omega)]
theorem BW.eq {p : Int → Int} {n : Nat} {a : Int} : BW p n a a = 0 := by
  cases n with
  | zero => rfl
  | succ n => rw [BW, if_pos rfl]
theorem BW.l {p : Int → Int} {c a b : Int} (hp : ∀ k : Int, 1 ≤ k → k < c → 0 ≤ p k ∧ p k < k) (a0 : 0 ≤ a) (a1 : a < c) (b0 : 0 ≤ b) (b1 : b < c) (hc : c ≤ 9) (q : b < a) : BW p 16 a b = 1 + BW p 16 (p a) b := by
  have k := hp a (by omega) a1
  rw [BW, if_neg (by omega), if_pos q, BW.st hp 15 (p a) b k.1 (by omega) b0 b1 (by omega)]
theorem BW.r {p : Int → Int} {c a b : Int} (hp : ∀ k : Int, 1 ≤ k → k < c → 0 ≤ p k ∧ p k < k) (a0 : 0 ≤ a) (a1 : a < c) (b0 : 0 ≤ b) (b1 : b < c) (hc : c ≤ 9) (q : a < b) : BW p 16 a b = 1 + BW p 16 a (p b) := by
  have k := hp b (by omega) b1
  rw [BW, if_neg (by omega), if_neg (by omega), BW.st hp 15 a (p b) a0 a1 k.1 (by omega) (by omega)]
theorem BW.cg {p p2 : Int → Int} {c : Int} (hp : ∀ k : Int, 1 ≤ k → k < c → 0 ≤ p k ∧ p k < k) (h : ∀ k : Int, 1 ≤ k → k < c → p k = p2 k) : ∀ (n : Nat) (a b : Int), 0 ≤ a → a < c → 0 ≤ b → b < c → BW p n a b = BW p2 n a b := by
  intro n
  induction n with
  | zero => intro a b a0 a1 b0 b1; rfl
  | succ n ih =>
    intro a b a0 a1 b0 b1
    rw [BW, BW]
    by_cases e : a = b
    · rw [if_pos e, if_pos e]
    · rw [if_neg e, if_neg e]
      by_cases q : b < a
      · have k := hp a (by omega) a1
        rw [if_pos q, if_pos q, ← h a (by omega) a1, ih (p a) b k.1 (by omega) b0 b1]
      · have k := hp b (by omega) b1
        rw [if_neg q, if_neg q, ← h b (by omega) b1, ih a (p b) a0 a1 k.1 (by omega)]
/-- where the walk of both flanges is -/
def BQ (p : Int → Int) (c x y a b n : Int) : Prop := 0 ≤ a ∧ a < c ∧ 0 ≤ b ∧ b < c ∧ 0 ≤ n ∧ a + b + n ≤ x + y ∧ n + BW p 16 a b = BW p 16 x y
theorem BQ.l {p : Int → Int} {c x y a b n a2 n2 : Int} (hp : ∀ k : Int, 1 ≤ k → k < c → 0 ≤ p k ∧ p k < k) (hc : c ≤ 9) (h : BQ p c x y a b n) (q : b < a) (e : a2 = p a) (en : n2 = n + 1) : BQ p c x y a2 b n2 := by
  obtain ⟨h0, h1, h2, h3, h4, h5, h6⟩ := h
  have k := hp a (by omega) h1
  have w := BW.l hp h0 h1 h2 h3 hc q
  subst e en
  exact ⟨k.1, by omega, h2, h3, by omega, by omega, by omega⟩
theorem BQ.r {p : Int → Int} {c x y a b n b2 n2 : Int} (hp : ∀ k : Int, 1 ≤ k → k < c → 0 ≤ p k ∧ p k < k) (hc : c ≤ 9) (h : BQ p c x y a b n) (q : a < b) (e : b2 = p b) (en : n2 = n + 1) : BQ p c x y a b2 n2 := by
  obtain ⟨h0, h1, h2, h3, h4, h5, h6⟩ := h
  have k := hp b (by omega) h3
  have w := BW.r hp h0 h1 h2 h3 hc q
  subst e en
  exact ⟨h0, h1, k.1, by omega, by omega, by omega, by omega⟩
theorem BQ.end {p : Int → Int} {c x y a b n : Int} (h : BQ p c x y a b n) (q : a = b) : n = BW p 16 x y := by
  have k := h.2.2.2.2.2.2
  rw [q, BW.eq] at k
  omega
theorem n1 {z v : Int32} {n : Int} (e : z = v + 1) (h : v.toInt = n) (hn : 0 ≤ n ∧ n ≤ 18) : z.toInt = n + 1 := za e h (show (1 : Int32).toInt = 1 by decide) (by omega)
theorem pDC.pp {par rad nam sid frm wid hei tw told : Nat → Int32} {cnt tc th hp t3 t4 : Int32} (D : pDC par rad nam sid frm wid hei tw told cnt tc th hp t3 t4) : cnt.toInt ≤ 9 ∧ (∀ k : Int, 1 ≤ k → k < cnt.toInt → 0 ≤ gG par k ∧ gG par k < k) ∧ (∀ k : Int, 1 ≤ k → k < cnt.toInt → gG par k = gG told (13 + k)) := by
  rcases D with ⟨a, b, _⟩ | ⟨a, b, F, _⟩
  · exact ⟨by omega, fun k k1 k2 => by omega, fun k k1 k2 => by omega⟩
  · exact ⟨b.2.1, fun k k1 k2 => ⟨(F k k1 k2).2.2.2.2.2.2.1, (F k k1 k2).2.2.2.2.2.2.2.1⟩, fun k k1 k2 => (F k k1 k2).1⟩
theorem fm_flange {h0_at : Int32} {h0_tokenStart : Int32} {h0_tokenEnd : Int32} {h0_fault : Int32} {h0_place : Int32} {h0_into_count : Int32} {h0_into_ups : Int32} {f_h0_into_parent : (Nat → Int32)} {f_h0_into_radius : (Nat → Int32)} {h0_tape_length : Int32} {f_h0_tape_bytes : (Nat → Int32)} {f_h0_into_name : (Nat → Int32)} {f_h0_into_side : (Nat → Int32)} {f_h0_into_from : (Nat → Int32)} {f_h0_into_width : (Nat → Int32)} {f_h0_into_height : (Nat → Int32)} {o_u_h0_at : Int32} {o_u_h0_tokenStart : Int32} {o_u_h0_tokenEnd : Int32} {o_u_h0_fault : Int32} {o_u_h0_place : Int32} {o_u_h0_into_count : Int32} {o_u_h0_into_ups : Int32} {o_u_h0_into_parent : (Nat → Int32)} {o_u_h0_into_radius : (Nat → Int32)} {o_u_h0_into_name : (Nat → Int32)} {o_u_h0_into_side : (Nat → Int32)} {o_u_h0_into_from : (Nat → Int32)} {o_u_h0_into_width : (Nat → Int32)} {o_u_h0_into_height : (Nat → Int32)} (h : S_R_readFlange h0_at h0_tokenStart h0_tokenEnd h0_fault h0_place h0_into_count h0_into_ups f_h0_into_parent f_h0_into_radius h0_tape_length f_h0_tape_bytes f_h0_into_name f_h0_into_side f_h0_into_from f_h0_into_width f_h0_into_height o_u_h0_at o_u_h0_tokenStart o_u_h0_tokenEnd o_u_h0_fault o_u_h0_place o_u_h0_into_count o_u_h0_into_ups o_u_h0_into_parent o_u_h0_into_radius o_u_h0_into_name o_u_h0_into_side o_u_h0_into_from o_u_h0_into_width o_u_h0_into_height) (h1 : 1 ≤ h0_into_count.toInt) (hs : gG f_h0_into_name 0 = 0) : gG o_u_h0_into_name 0 = 0 ∧ 1 ≤ o_u_h0_into_count.toInt := by
  refine h _ ⟨?_, ?_, trivial⟩
  · intros v4 v5 v6 v7 v8 r2 f15 v19 v20 v21 v22 v23 v32 v33 v34 v35 v36 r30 f45 z48 v53 v54 v55 v56 v57 r51 f65 v70 v71 v72 v73 v74 v83 v84 v85 v86 v87 r81 f95 v99 v100 v101 v102 v103 v112 v113 v114 v115 v116 r110 f124 v128 v129 v135 v136 v137 v138 v139 v148 v149 v150 v151 v152 r146 f160 v164 v165 v166 v167 v168 r162 v181 v187 v188 v189 v190 v191 v200 v201 v202 v203 v204 r198 f212 z214 p0 p1 p2 p3 p4 p5 p6 p7 p8 p9 p10 p11 p12 p13 p14 p15 p16 p17 p18 p19 p20 p21 p22 p23 p24 p25 p26 p27 p28 p29 p30 p31 p32 p33 p34 p35 p36 p37 p38 p39 p40 p41 p42 p43 p44 p45 p46 p47 p48 p49 p50 p51 p52 p53 p54 p55 p56 p57 p58 p59 p60 p61 p62 p63 p64 p65 p66 p67 p68 p69 p70 p71 p72 p73 p74 p75 p76 p77 p78 p79 p80 p81 p82 p83 p84 p85 p86 p87 p88 p89 p90 p91 p92 p93 p94 p95 p96 p97 p98 p99 p100 e0 e1 e2 e3 e4 e5 e6 e7 e8 e9 e10 e11 e12 e13
    clear p5 p12 p19 p20 p30 p37 p43 p44 p51 p57 p58 p62 p68 p74 p75 p83 p90 p96 p97
    rw [e9, e5]
    refine ⟨?_, by omega⟩
    rw [gU_ne p7 rfl (fl_0 h1)]; exact hs
  · intros v224 v225 p0 p1 p2 p3 e0 e1 e2 e3 e4 e5 e6 e7 e8 e9 e10 e11 e12 e13
    rw [e9, e5]
    exact ⟨hs, h1⟩
theorem fm_line {f_h0_tape_bytes : (Nat → Int32)} {fn1950 : (Nat → Int32)} {fn1951 : (Nat → Int32)} {fn1952 : (Nat → Int32)} {fn1953 : (Nat → Int32)} {fn1954 : (Nat → Int32)} {fn1955 : (Nat → Int32)} {fn1956 : (Nat → Int32)} {fn1966 : (Nat → Int32)} {fn1967 : (Nat → Int32)} {h0_tape_length : Int32} {r2269 : Int32} {v1961 : Int32} {v1963 : Int32} {v1964 : Int32} {v1965 : Int32} {v2258 : Int32} {v2259 : Int32} {v2260 : Int32} {v2261 : Int32} {v2262 : Int32} {fn2363 : (Nat → Int32)} {fn2364 : (Nat → Int32)} {fn2365 : (Nat → Int32)} {fn2366 : (Nat → Int32)} {fn2367 : (Nat → Int32)} {fn2368 : (Nat → Int32)} {fn2369 : (Nat → Int32)} {v2370 : Int32} {v2371 : Int32} {v2372 : Int32} {v2373 : Int32} {fn2374 : (Nat → Int32)} {fn2375 : (Nat → Int32)} {v2376 : Int32} {v2377 : Int32} {v2378 : Int32} {v2379 : Int32} {v2380 : Int32} (h : J_R_read_119_2 f_h0_tape_bytes fn1950 fn1951 fn1952 fn1953 fn1954 fn1955 fn1956 fn1966 fn1967 h0_tape_length r2269 v1961 v1963 v1964 v1965 v2258 v2259 v2260 v2261 v2262 fn2363 fn2364 fn2365 fn2366 fn2367 fn2368 fn2369 v2370 v2371 v2372 v2373 fn2374 fn2375 v2376 v2377 v2378 v2379 v2380) (h1 : 1 ≤ v1961.toInt) (hs : gG fn1952 0 = 0) : gG fn2365 0 = 0 ∧ 1 ≤ v2370.toInt := by
  rcases h with ⟨r2409, r2413, r2417, v2423, v2424, p0, p1, p2, p3, p4, p5, p6, p7, p8, p9, p10, p11, p12, e0, e1, e2, e3, e4, e5, e6, e7, e8, e9, e10, e11, e12, e13, e14, e15, e16, e17⟩ | ⟨r2409, r2413, r2417, v2430, v2431, v2432, v2433, v2434, v2435, v2436, f2437, f2438, f2439, f2440, f2441, f2442, f2443, p0, p1, p2, p3, p4, p5, p6, p7, p8, p9, p10, p11, p12, p13, p14, -, p16, e0, e1, e2, e3, e4, e5, e6, e7, e8, e9, e10, e11, e12, e13, e14, e15, e16, e17⟩ | ⟨r2409, r2413, v2457, v2458, v2459, v2460, v2461, f2462, p0, p1, p2, p3, p4, p5, p6, p7, p8, p9, p10, -, p12, e0, e1, e2, e3, e4, e5, e6, e7, e8, e9, e10, e11, e12, e13, e14, e15, e16, e17⟩ | ⟨r2409, v2471, v2472, v2473, v2474, v2475, v2476, f2477, p0, p1, p2, p3, p4, p5, p6, p7, p8, -, p10, e0, e1, e2, e3, e4, e5, e6, e7, e8, e9, e10, e11, e12, e13, e14, e15, e16, e17⟩ | ⟨v2487, v2488, v2489, v2490, v2491, r2485, p0, p1, p2, p3, p4, -, -, p7, e0, e1, e2, e3, e4, e5, e6, e7, e8, e9, e10, e11, e12, e13, e14, e15, e16, e17⟩ | h
  · rw [e2, e7]
    exact ⟨hs, h1⟩
  · have y := fm_flange p16 h1 hs
    rw [e2, e7]
    exact y
  · rw [e2, e7]
    exact ⟨hs, h1⟩
  · rw [e2, e7]
    exact ⟨hs, h1⟩
  · rw [e2, e7]
    exact ⟨hs, h1⟩
  · exact h.elim
theorem fm_loop {f13 : (Nat → Int32)} {f14 : (Nat → Int32)} {f3 : (Nat → Int32)} {f_h0_tape_bytes : (Nat → Int32)} {f_y1_from : (Nat → Int32)} {f_y1_name : (Nat → Int32)} {f_y1_parent : (Nat → Int32)} {f_y1_radius : (Nat → Int32)} {f_y1_side : (Nat → Int32)} {f_y1_toolWidth : (Nat → Int32)} {h0_tape_length : Int32} {v10 : Int32} {v11 : Int32} {v7 : Int32} {v8 : Int32} {v9 : Int32} {v1949 : Int32} {fn1950 : (Nat → Int32)} {fn1951 : (Nat → Int32)} {fn1952 : (Nat → Int32)} {fn1953 : (Nat → Int32)} {fn1954 : (Nat → Int32)} {fn1955 : (Nat → Int32)} {fn1956 : (Nat → Int32)} {v1957 : Int32} {v1958 : Int32} {v1959 : Int32} {v1960 : Int32} {v1961 : Int32} {v1962 : Int32} {v1963 : Int32} {v1964 : Int32} {v1965 : Int32} {fn1966 : (Nat → Int32)} {fn1967 : (Nat → Int32)} (h : I_R_read_11_1 f13 f14 f3 f_h0_tape_bytes f_y1_from f_y1_name f_y1_parent f_y1_radius f_y1_side f_y1_toolWidth h0_tape_length v10 v11 v7 v8 v9 v1949 fn1950 fn1951 fn1952 fn1953 fn1954 fn1955 fn1956 v1957 v1958 v1959 v1960 v1961 v1962 v1963 v1964 v1965 fn1966 fn1967) (hs : gG f_y1_name 0 = 0) : gG fn1952 0 = 0 ∧ 1 ≤ v1961.toInt := by
  refine I_R_read_11_1.ind (Q_ := fun v1949 fn1950 fn1951 fn1952 fn1953 fn1954 fn1955 fn1956 v1957 v1958 v1959 v1960 v1961 v1962 v1963 v1964 v1965 fn1966 fn1967 => gG fn1952 0 = 0 ∧ 1 ≤ v1961.toInt) ?_ ?_ h
  · exact ⟨hs, by decide⟩
  · intros v1949 fn1950 fn1951 fn1952 fn1953 fn1954 fn1955 fn1956 v1957 v1958 v1959 v1960 v1961 v1962 v1963 v1964 v1965 fn1966 fn1967 v2248 v2249 r2246 v2258 v2259 v2260 v2261 v2262 r2269 fn2363 fn2364 fn2365 fn2366 fn2367 fn2368 fn2369 v2370 v2371 v2372 v2373 fn2374 fn2375 v2376 v2377 v2378 v2379 v2380 v2395 v2396 v2397 v2398 v2399 z2405 hI ih p0 p1 p2 p3 p4 p5 p6 p7 p8 p9 p10 p11 p12 p13 p14 p15 p16 p17 p18 p19 p20 p21 p22 p23 p24 p25 p26 p27 p28
    exact fm_line p16 ih.2 ih.1
theorem lp_name {f_y1_told : (Nat → Int32)} {h0_tape_length : Int32} {f_h0_tape_bytes : (Nat → Int32)} {f_y1_width : (Nat → Int32)} {f_y1_height : (Nat → Int32)} {f_y1_parent : (Nat → Int32)} {f_y1_radius : (Nat → Int32)} {f_y1_name : (Nat → Int32)} {f_y1_side : (Nat → Int32)} {f_y1_from : (Nat → Int32)} {f_y1_toolWidth : (Nat → Int32)} {o_u_h0_at : Int32} {o_u_h0_tokenStart : Int32} {o_u_h0_fault : Int32} {o_u_h0_place : Int32} {o_u_y1_count : Int32} {o_u_y1_statements : Int32} {o_u_y1_thick : Int32} {o_u_y1_punch : Int32} {o_u_y1_ups : Int32} {o_u_y1_toolCount : Int32} {o_u_y1_told : (Nat → Int32)} {o_u_y1_width : (Nat → Int32)} {o_u_y1_height : (Nat → Int32)} {o_u_y1_parent : (Nat → Int32)} {o_u_y1_radius : (Nat → Int32)} {o_u_y1_name : (Nat → Int32)} {o_u_y1_side : (Nat → Int32)} {o_u_y1_from : (Nat → Int32)} {o_u_y1_toolWidth : (Nat → Int32)} (h : S_R_read f_y1_told h0_tape_length f_h0_tape_bytes f_y1_width f_y1_height f_y1_parent f_y1_radius f_y1_name f_y1_side f_y1_from f_y1_toolWidth o_u_h0_at o_u_h0_tokenStart o_u_h0_fault o_u_h0_place o_u_y1_count o_u_y1_statements o_u_y1_thick o_u_y1_punch o_u_y1_ups o_u_y1_toolCount o_u_y1_told o_u_y1_width o_u_y1_height o_u_y1_parent o_u_y1_radius o_u_y1_name o_u_y1_side o_u_y1_from o_u_y1_toolWidth) (hs : pS0 f_y1_name) : pS0 o_u_y1_name := by
  unfold pS0 at hs ⊢
  rcases h with ⟨f3, v7, v8, v9, v10, v11, v12, f13, f14, v1949, fn1950, fn1951, fn1952, fn1953, fn1954, fn1955, fn1956, v1957, v1958, v1959, v1960, v1961, v1962, v1963, v1964, v1965, fn1966, fn1967, p0, p1, p2, p3, -, p5, p6, p7, p8, p9, p10, p11, p12, p13, e0, e1, e2, e3, e4, e5, e6, e7, e8, e9, e10, e11, e12, e13, e14, e15, e16, e17, e18⟩ | ⟨f3, v7, v8, v9, v10, v11, v12, f13, f14, v1949, fn1950, fn1951, fn1952, fn1953, fn1954, fn1955, fn1956, v1957, v1958, v1959, v1960, v1961, v1962, v1963, v1964, v1965, fn1966, fn1967, p0, p1, p2, p3, -, p5, p6, p7, p8, p9, p10, p11, p12, p13, p14, e0, e1, e2, e3, e4, e5, e6, e7, e8, e9, e10, e11, e12, e13, e14, e15, e16, e17, e18⟩ | ⟨f3, v7, v8, v9, v10, v11, v12, f13, f14, v1949, fn1950, fn1951, fn1952, fn1953, fn1954, fn1955, fn1956, v1957, v1958, v1959, v1960, v1961, v1962, v1963, v1964, v1965, fn1966, fn1967, v2248, v2249, r2246, p0, p1, p2, p3, -, p5, p6, p7, p8, p9, p10, p11, p12, p13, p14, p15, p16, p17, -, p19, p20, e0, e1, e2, e3, e4, e5, e6, e7, e8, e9, e10, e11, e12, e13, e14, e15, e16, e17, e18⟩ | h
  · have y := fm_loop p6 hs
    rw [e15]
    exact y.1
  · have y := fm_loop p6 hs
    rw [e15]
    exact y.1
  · have y := fm_loop p6 hs
    rw [e15]
    exact y.1
  · exact h.elim
theorem f_isFlange {x1 : Int32} {h0_count : Int32} {o_r : Int32} (h : S_P_isFlange x1 h0_count o_r)  : (o_r.toInt = 0 ∧ ¬ (0 ≤ x1.toInt ∧ x1.toInt < h0_count.toInt)) ∨ (o_r.toInt = 1 ∧ 0 ≤ x1.toInt ∧ x1.toInt < h0_count.toInt) := by
  rcases h with ⟨p0, e0⟩ | ⟨p0, p1, e0⟩ | ⟨p0, p1, e0⟩ | h
  · omega
  · omega
  · omega
  · exact h.elim
theorem f_isBend {x1 : Int32} {h0_count : Int32} {o_r : Int32} (h : S_P_isBend x1 h0_count o_r)  : (o_r.toInt = 0 ∧ ¬ (1 ≤ x1.toInt ∧ x1.toInt < h0_count.toInt)) ∨ (o_r.toInt = 1 ∧ 1 ≤ x1.toInt ∧ x1.toInt < h0_count.toInt) := by
  rcases h with ⟨p0, e0⟩ | ⟨p0, p1, e0⟩ | ⟨p0, p1, e0⟩ | h
  · omega
  · omega
  · omega
  · exact h.elim
theorem n_isFlange {x1 : Int32} {h0_hasPart : Int32} {h0_told_3 : Int32} {o_r : Int32} (h : S_N_isFlange x1 h0_hasPart h0_told_3 o_r) (hH : ((h0_hasPart.toInt = 0 ∧ h0_told_3.toInt = 0) ∨ (h0_hasPart.toInt = 1 ∧ 1 ≤ h0_told_3.toInt))) : (o_r.toInt = 0 ∧ ¬ (0 ≤ x1.toInt ∧ x1.toInt < h0_told_3.toInt)) ∨ (o_r.toInt = 1 ∧ 0 ≤ x1.toInt ∧ x1.toInt < h0_told_3.toInt) := by
  rcases h with ⟨r1, z5, r8, p0, p1, p2, p3, p4, p5, p6, p7, e0⟩ | h
  · omega
  · exact h.elim
theorem n_isBend {x1 : Int32} {h0_hasPart : Int32} {h0_told_3 : Int32} {o_r : Int32} (h : S_N_isBend x1 h0_hasPart h0_told_3 o_r) (hH : ((h0_hasPart.toInt = 0 ∧ h0_told_3.toInt = 0) ∨ (h0_hasPart.toInt = 1 ∧ 1 ≤ h0_told_3.toInt))) : (o_r.toInt = 0 ∧ ¬ (1 ≤ x1.toInt ∧ x1.toInt < h0_told_3.toInt)) ∨ (o_r.toInt = 1 ∧ 1 ≤ x1.toInt ∧ x1.toInt < h0_told_3.toInt) := by
  rcases h with ⟨r1, r5, p0, p1, p2, p3, p4, p5, p6, e0⟩ | h
  · omega
  · exact h.elim
