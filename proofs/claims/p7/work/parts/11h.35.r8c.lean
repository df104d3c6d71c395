theorem lp_M {f14587' : (Nat → Int32)} {f14661' : (Nat → Int32)} {f_h0_ownLetters' : (Nat → Int32)} {f_h0_tape' : (Nat → Int32)} {g14594' : Int32} {h0_size' : Int32} {v14650' : Int32} {v14668' : Int32} {v14669' : Int32} {v14670' : Int32} {v15337' : Int32} {fn15338' : (Nat → Int32)} {v15339' : Int32} {v15340' : Int32} {fn15341' : (Nat → Int32)} {v15342' : Int32} {v15343' : Int32} {v15344' : Int32} {v15345' : Int32} (h0 : v14669'.toInt = 0 → (1 : Int32).toInt ≤ v14668'.toInt) (h : I_M_readsAll_119_3 f14587' f14661' f_h0_ownLetters' f_h0_tape' g14594' h0_size' v14650' v14668' v14669' v14670' v15337' fn15338' v15339' v15340' fn15341' v15342' v15343' v15344' v15345') : 1 ≤ v15337'.toInt ∧ v15337'.toInt ≤ 1201 ∧ (v15344'.toInt = 0 → v15337'.toInt ≤ v15342'.toInt) := by
  refine I_M_readsAll_119_3.ind (Q_ := fun v15337' fn15338' v15339' v15340' fn15341' v15342' v15343' v15344' v15345' => 1 ≤ v15337'.toInt ∧ v15337'.toInt ≤ 1201 ∧ (v15344'.toInt = 0 → v15337'.toInt ≤ v15342'.toInt)) ?_ ?_ h
  · exact ⟨by decide, by decide, h0⟩
  · intros v15337' fn15338' v15339' v15340' fn15341' v15342' v15343' v15344' v15345' r15450' v15457' r15455' v15466' v15467' v15468' v15469' r15477' v15484' r15489' v15496' v15497' v15498' v15499' f15500' v15501' v15502' f15503' v15519' v15520' v15521' z15527' hI ihM q0 q1 q2 q3 q4 q5 q6 q7 q8 q9 q10 q11 q12 q13 q14 q15 q16 q17 q18 q19 q20 q21 q22 q23 q24 q25 q26 q27 q28 q29 q30 q31 q32 q33 q34 q35 q36 q37 q38 q39
    obtain ⟨i1, i2, i3⟩ := ihM
    have w0 := b11 (m_goesWell q2) q3
    have k0 := i3 w0
    have w2 := b11 (m_goesWell q23) q24
    have hlt := q13.resolve_left (fun z => z w2)
    have hh := q4
    have l7 := q7.2
    have l31 := q31.2
    have l36 := q36.2
    have zz := za q39 (rfl : v15337'.toInt = _) (show (1 : Int32).toInt = 1 by decide) (by clear q1 q6 q12 q13 q15 q18 q22 q32 q37; omega)
    clear q1 q6 q12 q13 q15 q18 q22 q32 q37
    refine ⟨by omega, by omega, fun z => by omega⟩
theorem lp_R {f13 : (Nat → Int32)} {f14 : (Nat → Int32)} {f3 : (Nat → Int32)} {f_h0_tape_bytes : (Nat → Int32)} {f_y1_from : (Nat → Int32)} {f_y1_name : (Nat → Int32)} {f_y1_parent : (Nat → Int32)} {f_y1_radius : (Nat → Int32)} {f_y1_side : (Nat → Int32)} {f_y1_toolWidth : (Nat → Int32)} {h0_tape_length : Int32} {v10 : Int32} {v11 : Int32} {v7 : Int32} {v8 : Int32} {v9 : Int32} {v1949 : Int32} {fn1950 : (Nat → Int32)} {fn1951 : (Nat → Int32)} {fn1952 : (Nat → Int32)} {fn1953 : (Nat → Int32)} {fn1954 : (Nat → Int32)} {fn1955 : (Nat → Int32)} {fn1956 : (Nat → Int32)} {v1957 : Int32} {v1958 : Int32} {v1959 : Int32} {v1960 : Int32} {v1961 : Int32} {v1962 : Int32} {v1963 : Int32} {v1964 : Int32} {v1965 : Int32} {fn1966 : (Nat → Int32)} {fn1967 : (Nat → Int32)} (h : I_R_read_11_1 f13 f14 f3 f_h0_tape_bytes f_y1_from f_y1_name f_y1_parent f_y1_radius f_y1_side f_y1_toolWidth h0_tape_length v10 v11 v7 v8 v9 v1949 fn1950 fn1951 fn1952 fn1953 fn1954 fn1955 fn1956 v1957 v1958 v1959 v1960 v1961 v1962 v1963 v1964 v1965 fn1966 fn1967) : 0 ≤ v1949.toInt := by
  refine I_R_read_11_1.ind (Q_ := fun v1949 fn1950 fn1951 fn1952 fn1953 fn1954 fn1955 fn1956 v1957 v1958 v1959 v1960 v1961 v1962 v1963 v1964 v1965 fn1966 fn1967 => 0 ≤ v1949.toInt) ?_ ?_ h
  · decide
  · intros v1949 fn1950 fn1951 fn1952 fn1953 fn1954 fn1955 fn1956 v1957 v1958 v1959 v1960 v1961 v1962 v1963 v1964 v1965 fn1966 fn1967 v2248 v2249 r2246 v2258 v2259 v2260 v2261 v2262 r2269 fn2363 fn2364 fn2365 fn2366 fn2367 fn2368 fn2369 v2370 v2371 v2372 v2373 fn2374 fn2375 v2376 v2377 v2378 v2379 v2380 v2395 v2396 v2397 v2398 v2399 z2405 hI ih p0 p1 p2 p3 p4 p5 p6 p7 p8 p9 p10 p11 p12 p13 p14 p15 p16 p17 p18 p19 p20 p21 p22 p23 p24 p25 p26 p27 p28
    have e := p28
    rw [e]
    exact Int.add_nonneg ih (by decide)
theorem za_b {k : Int} (a : 1 ≤ k) (b : k ≤ 1201) : -2147483648 ≤ k + 1 ∧ k + 1 < 2147483648 := by omega
theorem za_c {z2 z k k2 : Int} (h : z2 = z + 1) (e : z2 = k2 + 1) (p : z = k + 1) : k2 = k + 1 := by omega
theorem lp_A {B : Int → Int} {f13 : (Nat → Int32)} {f14 : (Nat → Int32)} {f3 : (Nat → Int32)} {f_h0_tape_bytes : (Nat → Int32)} {f_y1_from : (Nat → Int32)} {f_y1_name : (Nat → Int32)} {f_y1_parent : (Nat → Int32)} {f_y1_radius : (Nat → Int32)} {f_y1_side : (Nat → Int32)} {f_y1_toolWidth : (Nat → Int32)} {h0_tape_length : Int32} {v10 : Int32} {v11 : Int32} {v7 : Int32} {v8 : Int32} {v9 : Int32} {v1949 : Int32} {fn1950 : (Nat → Int32)} {fn1951 : (Nat → Int32)} {fn1952 : (Nat → Int32)} {fn1953 : (Nat → Int32)} {fn1954 : (Nat → Int32)} {fn1955 : (Nat → Int32)} {fn1956 : (Nat → Int32)} {v1957 : Int32} {v1958 : Int32} {v1959 : Int32} {v1960 : Int32} {v1961 : Int32} {v1962 : Int32} {v1963 : Int32} {v1964 : Int32} {v1965 : Int32} {fn1966 : (Nat → Int32)} {fn1967 : (Nat → Int32)} {f14587' : (Nat → Int32)} {f14661' : (Nat → Int32)} {f_h0_ownLetters' : (Nat → Int32)} {f_h0_tape' : (Nat → Int32)} {g14594' : Int32} {h0_size' : Int32} {v14650' : Int32} {v14668' : Int32} {v14669' : Int32} {v14670' : Int32} {th : Int} (c : cTB f_h0_tape_bytes h0_tape_length B) (d : rTB f_h0_tape' h0_size' B) (ho : pOwn f_h0_ownLetters') (h0 : v14669'.toInt = 0 → (1 : Int32).toInt ≤ v14668'.toInt) (hE : PLP B h0_size'.toInt f_y1_parent f_y1_radius f_y1_name f_y1_side f_y1_from f13 f14 f_y1_toolWidth f3 f14661' f14587' v7.toInt v9.toInt v10.toInt (1 : Int32).toInt (0 : Int32).toInt (30 : Int32).toInt v11.toInt (0 : Int32).toInt th (1 : Int32).toInt g14594'.toInt (1 : Int32).toInt v14668'.toInt v14669'.toInt v14670'.toInt) (h : I_R_read_11_1 f13 f14 f3 f_h0_tape_bytes f_y1_from f_y1_name f_y1_parent f_y1_radius f_y1_side f_y1_toolWidth h0_tape_length v10 v11 v7 v8 v9 v1949 fn1950 fn1951 fn1952 fn1953 fn1954 fn1955 fn1956 v1957 v1958 v1959 v1960 v1961 v1962 v1963 v1964 v1965 fn1966 fn1967) : ∀ (v15337' : Int32) (fn15338' : (Nat → Int32)) (v15339' : Int32) (v15340' : Int32) (fn15341' : (Nat → Int32)) (v15342' : Int32) (v15343' : Int32) (v15344' : Int32) (v15345' : Int32), I_M_readsAll_119_3 f14587' f14661' f_h0_ownLetters' f_h0_tape' g14594' h0_size' v14650' v14668' v14669' v14670' v15337' fn15338' v15339' v15340' fn15341' v15342' v15343' v15344' v15345' → v15337'.toInt = v1949.toInt + 1 → PLP B h0_size'.toInt fn1950 fn1951 fn1952 fn1953 fn1954 fn1966 fn1967 fn1955 fn1956 fn15338' fn15341' v1957.toInt v1959.toInt v1960.toInt v1961.toInt v1965.toInt v1963.toInt v1962.toInt v1949.toInt th v15339'.toInt v15340'.toInt v15337'.toInt v15342'.toInt v15344'.toInt v15345'.toInt := by
  refine I_R_read_11_1.ind (Q_ := fun v1949 fn1950 fn1951 fn1952 fn1953 fn1954 fn1955 fn1956 v1957 v1958 v1959 v1960 v1961 v1962 v1963 v1964 v1965 fn1966 fn1967 => ∀ (v15337' : Int32) (fn15338' : (Nat → Int32)) (v15339' : Int32) (v15340' : Int32) (fn15341' : (Nat → Int32)) (v15342' : Int32) (v15343' : Int32) (v15344' : Int32) (v15345' : Int32), I_M_readsAll_119_3 f14587' f14661' f_h0_ownLetters' f_h0_tape' g14594' h0_size' v14650' v14668' v14669' v14670' v15337' fn15338' v15339' v15340' fn15341' v15342' v15343' v15344' v15345' → v15337'.toInt = v1949.toInt + 1 → PLP B h0_size'.toInt fn1950 fn1951 fn1952 fn1953 fn1954 fn1966 fn1967 fn1955 fn1956 fn15338' fn15341' v1957.toInt v1959.toInt v1960.toInt v1961.toInt v1965.toInt v1963.toInt v1962.toInt v1949.toInt th v15339'.toInt v15340'.toInt v15337'.toInt v15342'.toInt v15344'.toInt v15345'.toInt) ?_ ?_ h
  · intros v15337' fn15338' v15339' v15340' fn15341' v15342' v15343' v15344' v15345' hM hk
    revert hk
    refine I_M_readsAll_119_3.ind (Q_ := fun v15337' fn15338' v15339' v15340' fn15341' v15342' v15343' v15344' v15345' => v15337'.toInt = (0 : Int32).toInt + 1 → PLP B h0_size'.toInt f_y1_parent f_y1_radius f_y1_name f_y1_side f_y1_from f13 f14 f_y1_toolWidth f3 fn15338' fn15341' v7.toInt v9.toInt v10.toInt (1 : Int32).toInt (0 : Int32).toInt (30 : Int32).toInt v11.toInt (0 : Int32).toInt th v15339'.toInt v15340'.toInt v15337'.toInt v15342'.toInt v15344'.toInt v15345'.toInt) ?_ ?_ hM
    · exact fun _ => hE
    · intros v15337' fn15338' v15339' v15340' fn15341' v15342' v15343' v15344' v15345' r15450' v15457' r15455' v15466' v15467' v15468' v15469' r15477' v15484' r15489' v15496' v15497' v15498' v15499' f15500' v15501' v15502' f15503' v15519' v15520' v15521' z15527' hI ihM q0 q1 q2 q3 q4 q5 q6 q7 q8 q9 q10 q11 q12 q13 q14 q15 q16 q17 q18 q19 q20 q21 q22 q23 q24 q25 q26 q27 q28 q29 q30 q31 q32 q33 q34 q35 q36 q37 q38 q39
      clear q1 q6 q12 q13 q15 q18 q22 q32 q37
      intro hk
      exfalso
      have a := lp_M h0 hI
      have e := za q39 (rfl : v15337'.toInt = _) (show (1 : Int32).toInt = 1 by decide) (by omega)
      have e00 : (0 : Int32).toInt = 0 := by decide
      omega
  · intros v1949 fn1950 fn1951 fn1952 fn1953 fn1954 fn1955 fn1956 v1957 v1958 v1959 v1960 v1961 v1962 v1963 v1964 v1965 fn1966 fn1967 v2248 v2249 r2246 v2258 v2259 v2260 v2261 v2262 r2269 fn2363 fn2364 fn2365 fn2366 fn2367 fn2368 fn2369 v2370 v2371 v2372 v2373 fn2374 fn2375 v2376 v2377 v2378 v2379 v2380 v2395 v2396 v2397 v2398 v2399 z2405 hR ih p0 p1 p2 p3 p4 p5 p6 p7 p8 p9 p10 p11 p12 p13 p14 p15 p16 p17 p18 p19 p20 p21 p22 p23 p24 p25 p26 p27 p28 v15337' fn15338' v15339' v15340' fn15341' v15342' v15343' v15344' v15345' hM hk
    revert hk
    clear p5 p12 p26
    have k0 := lp_R hR
    have kz := p28
    refine I_M_readsAll_119_3.ind (Q_ := fun v15337' fn15338' v15339' v15340' fn15341' v15342' v15343' v15344' v15345' => v15337'.toInt = z2405.toInt + 1 → PLP B h0_size'.toInt fn2363 fn2364 fn2365 fn2366 fn2367 fn2374 fn2375 fn2368 fn2369 fn15338' fn15341' v2395.toInt v2397.toInt v2398.toInt v2370.toInt v2373.toInt v2371.toInt v2399.toInt z2405.toInt th v15339'.toInt v15340'.toInt v15337'.toInt v15342'.toInt v15344'.toInt v15345'.toInt) ?_ ?_ hM
    · intro hk
      exfalso
      have e11 : (1 : Int32).toInt = 1 := by decide
      omega
    · intros v15337' fn15338' v15339' v15340' fn15341' v15342' v15343' v15344' v15345' r15450' v15457' r15455' v15466' v15467' v15468' v15469' r15477' v15484' r15489' v15496' v15497' v15498' v15499' f15500' v15501' v15502' f15503' v15519' v15520' v15521' z15527' hI ihM q0 q1 q2 q3 q4 q5 q6 q7 q8 q9 q10 q11 q12 q13 q14 q15 q16 q17 q18 q19 q20 q21 q22 q23 q24 q25 q26 q27 q28 q29 q30 q31 q32 q33 q34 q35 q36 q37 q38 q39
      clear q1 q6 q12 q13 q15 q18 q22 q32 q37
      intro hk
      have a := lp_M h0 hI
      have b := za_b a.1 a.2.1
      have e := za q39 (rfl : v15337'.toInt = _) (show (1 : Int32).toInt = 1 by decide) b
      exact pw_step (v1958 := v1958) c d ho p1 p6 p7 p13 p15 p16 p27 p28 q2 q3 q7 q8 q9 q14 q16 q19 q20 q23 q24 q31 q33 q36 q38 q39 b (ih v15337' fn15338' v15339' v15340' fn15341' v15342' v15343' v15344' v15345' hI (za_c hk e kz))
