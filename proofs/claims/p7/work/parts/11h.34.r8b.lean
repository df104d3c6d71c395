/-- where both are ahead of a statement -/
def PLP (B : Int → Int) (sz : Int) (par rad nam sid frm wid hei tw td rd rn : Nat → Int32) (at_ F P cnt tc pu st k th rd3 rd4 k2 at2 W WA : Int) : Prop := RC B sz at_ (-1) F P at2 W WA ∧ (F = 0 → DCS par rad nam sid frm wid hei tw td rd rn cnt tc pu th rd3 rd4 ∧ st = k2 ∧ k + 1 ≤ at_)
theorem pw_step {B : Int → Int} {f_h0_tape_bytes : (Nat → Int32)} {h0_tape_length : Int32} {v1949 : Int32} {fn1950 : (Nat → Int32)} {fn1951 : (Nat → Int32)} {fn1952 : (Nat → Int32)} {fn1953 : (Nat → Int32)} {fn1954 : (Nat → Int32)} {fn1955 : (Nat → Int32)} {fn1956 : (Nat → Int32)} {v1957 : Int32} {v1958 : Int32} {v1959 : Int32} {v1960 : Int32} {v1961 : Int32} {v1962 : Int32} {v1963 : Int32} {v1964 : Int32} {v1965 : Int32} {fn1966 : (Nat → Int32)} {fn1967 : (Nat → Int32)} {v2248 : Int32} {v2249 : Int32} {r2246 : Int32} {v2258 : Int32} {v2259 : Int32} {v2260 : Int32} {v2261 : Int32} {v2262 : Int32} {r2269 : Int32} {fn2363 : (Nat → Int32)} {fn2364 : (Nat → Int32)} {fn2365 : (Nat → Int32)} {fn2366 : (Nat → Int32)} {fn2367 : (Nat → Int32)} {fn2368 : (Nat → Int32)} {fn2369 : (Nat → Int32)} {v2370 : Int32} {v2371 : Int32} {v2372 : Int32} {v2373 : Int32} {fn2374 : (Nat → Int32)} {fn2375 : (Nat → Int32)} {v2376 : Int32} {v2377 : Int32} {v2378 : Int32} {v2379 : Int32} {v2380 : Int32} {v2395 : Int32} {v2396 : Int32} {v2397 : Int32} {v2398 : Int32} {v2399 : Int32} {z2405 : Int32} {f_h0_ownLetters' : (Nat → Int32)} {f_h0_tape' : (Nat → Int32)} {h0_size' : Int32} {v15337' : Int32} {fn15338' : (Nat → Int32)} {v15339' : Int32} {v15340' : Int32} {fn15341' : (Nat → Int32)} {v15342' : Int32} {v15343' : Int32} {v15344' : Int32} {v15345' : Int32} {r15450' : Int32} {v15457' : Int32} {r15455' : Int32} {v15466' : Int32} {v15467' : Int32} {v15468' : Int32} {v15469' : Int32} {r15477' : Int32} {v15484' : Int32} {r15489' : Int32} {v15496' : Int32} {v15497' : Int32} {v15498' : Int32} {v15499' : Int32} {f15500' : (Nat → Int32)} {v15501' : Int32} {v15502' : Int32} {f15503' : (Nat → Int32)} {v15519' : Int32} {v15520' : Int32} {v15521' : Int32} {z15527' : Int32} {th : Int} (c : cTB f_h0_tape_bytes h0_tape_length B) (d : rTB f_h0_tape' h0_size' B) (ho : pOwn f_h0_ownLetters') (p1 : v1959.toInt = (0 : Int)) (p6 : S_R_moreText v1957 h0_tape_length f_h0_tape_bytes v2248 v2249 r2246) (p7 : ¬ (r2246.toInt = (0 : Int))) (p13 : S_R_readWord v2248 (-1 : Int32) v1959 v1960 h0_tape_length f_h0_tape_bytes v2258 v2259 v2260 v2261 v2262) (p15 : S_R_wordIs_3 v2258 v2259 h0_tape_length f_h0_tape_bytes r2269) (p16 : J_R_read_119_2 f_h0_tape_bytes fn1950 fn1951 fn1952 fn1953 fn1954 fn1955 fn1956 fn1966 fn1967 h0_tape_length r2269 v1961 v1963 v1964 v1965 v2258 v2259 v2260 v2261 v2262 fn2363 fn2364 fn2365 fn2366 fn2367 fn2368 fn2369 v2370 v2371 v2372 v2373 fn2374 fn2375 v2376 v2377 v2378 v2379 v2380) (p27 : S_R_semicolon v2376 v2379 v2380 h0_tape_length f_h0_tape_bytes v1962 v2395 v2396 v2397 v2398 v2399) (p28 : z2405.toInt = v1949.toInt + 1) (q2 : S_M_goesWell v15344' r15450') (q3 : ¬ (r15450'.toInt = (0 : Int))) (q7 : (v15457'.toInt ≤ h0_size'.toInt ∧ v15342'.toInt ≤ v15457'.toInt)) (q8 : S_M_here h0_size' v15342' f_h0_tape' v15457' r15455') (q9 : ¬ (r15455'.toInt = (-1 : Int))) (q14 : (v15466'.toInt ≤ h0_size'.toInt ∧ v15457'.toInt ≤ v15466'.toInt)) (q16 : S_M_word h0_size' v15457' v15343' v15344' v15345' f_h0_tape' v15466' v15467' v15468' v15469') (q19 : S_M_goesWell v15468' r15477') (q20 : J_M_readsAll_153_4 f_h0_ownLetters' f_h0_tape' r15477' v15466' v15467' v15484') (q23 : S_M_goesWell v15468' r15489') (q24 : ¬ (r15489'.toInt = (0 : Int))) (q31 : (v15496'.toInt ≤ h0_size'.toInt ∧ v15466'.toInt ≤ v15496'.toInt)) (q33 : S_M_readsLine v15484' h0_size' v15466' v15467' v15468' v15469' fn15338' v15339' v15340' f_h0_tape' f_h0_ownLetters' fn15341' v15496' v15497' v15498' v15499' f15500' v15501' v15502' f15503') (q36 : (v15519'.toInt ≤ h0_size'.toInt ∧ v15496'.toInt ≤ v15519'.toInt)) (q38 : S_M_endsWell h0_size' v15496' v15498' v15499' f_h0_tape' v15519' v15520' v15521') (q39 : z15527' = v15337' + 1) (hk9 : -2147483648 ≤ v15337'.toInt + 1 ∧ v15337'.toInt + 1 < 2147483648) (hP : PLP B h0_size'.toInt fn1950 fn1951 fn1952 fn1953 fn1954 fn1966 fn1967 fn1955 fn1956 fn15338' fn15341' v1957.toInt v1959.toInt v1960.toInt v1961.toInt v1965.toInt v1963.toInt v1962.toInt v1949.toInt th v15339'.toInt v15340'.toInt v15337'.toInt v15342'.toInt v15344'.toInt v15345'.toInt) : PLP B h0_size'.toInt fn2363 fn2364 fn2365 fn2366 fn2367 fn2374 fn2375 fn2368 fn2369 f15500' f15503' v2395.toInt v2397.toInt v2398.toInt v2370.toInt v2373.toInt v2371.toInt v2399.toInt z2405.toInt th v15501'.toInt v15502'.toInt z15527'.toInt v15519'.toInt v15520'.toInt v15521'.toInt := by
  have hF := p1
  obtain ⟨R0, RD⟩ := hP
  have w0 : v15344'.toInt = 0 := R0.1.symm.trans hF
  obtain ⟨a1, a2, a3, a4⟩ := R0.2.2 hF
  have hm := c_more p6 c
  have hh := m_here q8 d
  have es : v2248.toInt = v15457'.toInt := isSk.uq hm.1 (by rw [a1]; exact hh.1)
  have lm : v2248.toInt ≤ h0_size'.toInt := by
    rcases hm.2.2 with ⟨_, a⟩ | ⟨a, _⟩
    · have := (TXB.in d.1 (Int.le_trans a2 hm.1.1)).mpr (fun q => q9 (hh.2.trans (by rw [← es]; exact q)))
      omega
    · exact absurd a p7
  have sk := RC.sk R0 hF rfl hm.1 lm
  have r1 := sk.1
  have e1m : ((-1 : Int32).toInt) = -1 := by decide
  have r2 : RC B h0_size'.toInt v2248.toInt ((-1 : Int32).toInt) v1959.toInt v1960.toInt v15457'.toInt v15344'.toInt v15345'.toInt := by rw [e1m, ← es]; exact r1
  have b1 := pw_word c d p13 q16 r2
  have w2 : v15468'.toInt = 0 := b11 (m_goesWell q23) q24
  have z1 := b1.1.1.trans w2
  have s6 := b1.2 z1
  have s5 := b1.1.2.2 z1
  have ow0 : OWR B v2259.toInt v2258.toInt v15484'.toInt := by
    rcases q20 with ⟨q0, g0⟩ | ⟨ro, q0, q1, g0⟩ | hj
    · exact absurd w2 (b10 (m_goesWell q19) q0)
    · have ow := m_own q1 d ho (own_b s6.2.1 s6.2.2.2.2 s6.2.2.2.1 s5.1 s5.2.2.1)
      rw [← s5.1, ← s6.2.1] at ow
      rw [g0]; exact ow
    · exact hj.elim
  have hw := c_wI_3 p15 c
  rw [ow_3] at hw
  have D := RD hF
  have b2 := pw_line c d p16 q33 ho z1 w2 s6.2.1 hw ow0 D.1 b1.1
  have b3 := pw_semi c d p27 q38 b2.1
  refine ⟨b3.1, fun z => ?_⟩
  have y3 := b3.2 z
  have y2 := b2.2 y3.1
  have y1 := b2.1.2.2 y3.1
  refine ⟨y2, ?_, ?_⟩
  · have zz := za y3.2.1 D.2.1 (show (1 : Int32).toInt = 1 by decide) hk9
    exact zz.trans (za q39 rfl (show (1 : Int32).toInt = 1 by decide) hk9).symm
  · have l1 := q31
    have l2 := D.2.2
    have l3 := hm.1.1
    have l4 := s6.2.2.2.1
    have l5 := s5.1
    have l6 := y1.1
    have l7 := y3.2.2
    have l8 := (c_word p13 c).1.1
    have l9 := p28
    clear R0 RD b1 b2 b3 hm hh sk r1 r2 ow0 hw D y1 y2 y3 s5 s6
    omega
