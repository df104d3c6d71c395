theorem fs_flange {h0_at : Int32} {h0_tokenStart : Int32} {h0_tokenEnd : Int32} {h0_fault : Int32} {h0_place : Int32} {h0_into_count : Int32} {h0_into_ups : Int32} {f_h0_into_parent : (Nat → Int32)} {f_h0_into_radius : (Nat → Int32)} {h0_tape_length : Int32} {f_h0_tape_bytes : (Nat → Int32)} {f_h0_into_name : (Nat → Int32)} {f_h0_into_side : (Nat → Int32)} {f_h0_into_from : (Nat → Int32)} {f_h0_into_width : (Nat → Int32)} {f_h0_into_height : (Nat → Int32)} {o_u_h0_at : Int32} {o_u_h0_tokenStart : Int32} {o_u_h0_tokenEnd : Int32} {o_u_h0_fault : Int32} {o_u_h0_place : Int32} {o_u_h0_into_count : Int32} {o_u_h0_into_ups : Int32} {o_u_h0_into_parent : (Nat → Int32)} {o_u_h0_into_radius : (Nat → Int32)} {o_u_h0_into_name : (Nat → Int32)} {o_u_h0_into_side : (Nat → Int32)} {o_u_h0_into_from : (Nat → Int32)} {o_u_h0_into_width : (Nat → Int32)} {o_u_h0_into_height : (Nat → Int32)} (h : S_R_readFlange h0_at h0_tokenStart h0_tokenEnd h0_fault h0_place h0_into_count h0_into_ups f_h0_into_parent f_h0_into_radius h0_tape_length f_h0_tape_bytes f_h0_into_name f_h0_into_side f_h0_into_from f_h0_into_width f_h0_into_height o_u_h0_at o_u_h0_tokenStart o_u_h0_tokenEnd o_u_h0_fault o_u_h0_place o_u_h0_into_count o_u_h0_into_ups o_u_h0_into_parent o_u_h0_into_radius o_u_h0_into_name o_u_h0_into_side o_u_h0_into_from o_u_h0_into_width o_u_h0_into_height) (h1 : 1 ≤ h0_into_count.toInt) (hs : gG f_h0_into_side 0 = 0) : gG o_u_h0_into_side 0 = 0 ∧ 1 ≤ o_u_h0_into_count.toInt := by
  refine h _ ⟨?_, ?_, trivial⟩
  · intros v4 v5 v6 v7 v8 r2 f15 v19 v20 v21 v22 v23 v32 v33 v34 v35 v36 r30 f45 z48 v53 v54 v55 v56 v57 r51 f65 v70 v71 v72 v73 v74 v83 v84 v85 v86 v87 r81 f95 v99 v100 v101 v102 v103 v112 v113 v114 v115 v116 r110 f124 v128 v129 v135 v136 v137 v138 v139 v148 v149 v150 v151 v152 r146 f160 v164 v165 v166 v167 v168 r162 v181 v187 v188 v189 v190 v191 v200 v201 v202 v203 v204 r198 f212 z214 p0 p1 p2 p3 p4 p5 p6 p7 p8 p9 p10 p11 p12 p13 p14 p15 p16 p17 p18 p19 p20 p21 p22 p23 p24 p25 p26 p27 p28 p29 p30 p31 p32 p33 p34 p35 p36 p37 p38 p39 p40 p41 p42 p43 p44 p45 p46 p47 p48 p49 p50 p51 p52 p53 p54 p55 p56 p57 p58 p59 p60 p61 p62 p63 p64 p65 p66 p67 p68 p69 p70 p71 p72 p73 p74 p75 p76 p77 p78 p79 p80 p81 p82 p83 p84 p85 p86 p87 p88 p89 p90 p91 p92 p93 p94 p95 p96 p97 p98 p99 p100 e0 e1 e2 e3 e4 e5 e6 e7 e8 e9 e10 e11 e12 e13
    clear p5 p12 p19 p20 p30 p37 p43 p44 p51 p57 p58 p62 p68 p74 p75 p83 p90 p96 p97
    rw [e10, e5]
    refine ⟨?_, by omega⟩
    rw [gU_ne p32 rfl (fl_0 h1)]; exact hs
  · intros v224 v225 p0 p1 p2 p3 e0 e1 e2 e3 e4 e5 e6 e7 e8 e9 e10 e11 e12 e13
    rw [e10, e5]
    exact ⟨hs, h1⟩
theorem fs_line {f_h0_tape_bytes : (Nat → Int32)} {fn1950 : (Nat → Int32)} {fn1951 : (Nat → Int32)} {fn1952 : (Nat → Int32)} {fn1953 : (Nat → Int32)} {fn1954 : (Nat → Int32)} {fn1955 : (Nat → Int32)} {fn1956 : (Nat → Int32)} {fn1966 : (Nat → Int32)} {fn1967 : (Nat → Int32)} {h0_tape_length : Int32} {r2269 : Int32} {v1961 : Int32} {v1963 : Int32} {v1964 : Int32} {v1965 : Int32} {v2258 : Int32} {v2259 : Int32} {v2260 : Int32} {v2261 : Int32} {v2262 : Int32} {fn2363 : (Nat → Int32)} {fn2364 : (Nat → Int32)} {fn2365 : (Nat → Int32)} {fn2366 : (Nat → Int32)} {fn2367 : (Nat → Int32)} {fn2368 : (Nat → Int32)} {fn2369 : (Nat → Int32)} {v2370 : Int32} {v2371 : Int32} {v2372 : Int32} {v2373 : Int32} {fn2374 : (Nat → Int32)} {fn2375 : (Nat → Int32)} {v2376 : Int32} {v2377 : Int32} {v2378 : Int32} {v2379 : Int32} {v2380 : Int32} (h : J_R_read_119_2 f_h0_tape_bytes fn1950 fn1951 fn1952 fn1953 fn1954 fn1955 fn1956 fn1966 fn1967 h0_tape_length r2269 v1961 v1963 v1964 v1965 v2258 v2259 v2260 v2261 v2262 fn2363 fn2364 fn2365 fn2366 fn2367 fn2368 fn2369 v2370 v2371 v2372 v2373 fn2374 fn2375 v2376 v2377 v2378 v2379 v2380) (h1 : 1 ≤ v1961.toInt) (hs : gG fn1953 0 = 0) : gG fn2366 0 = 0 ∧ 1 ≤ v2370.toInt := by
  rcases h with ⟨r2409, r2413, r2417, v2423, v2424, p0, p1, p2, p3, p4, p5, p6, p7, p8, p9, p10, p11, p12, e0, e1, e2, e3, e4, e5, e6, e7, e8, e9, e10, e11, e12, e13, e14, e15, e16, e17⟩ | ⟨r2409, r2413, r2417, v2430, v2431, v2432, v2433, v2434, v2435, v2436, f2437, f2438, f2439, f2440, f2441, f2442, f2443, p0, p1, p2, p3, p4, p5, p6, p7, p8, p9, p10, p11, p12, p13, p14, -, p16, e0, e1, e2, e3, e4, e5, e6, e7, e8, e9, e10, e11, e12, e13, e14, e15, e16, e17⟩ | ⟨r2409, r2413, v2457, v2458, v2459, v2460, v2461, f2462, p0, p1, p2, p3, p4, p5, p6, p7, p8, p9, p10, -, p12, e0, e1, e2, e3, e4, e5, e6, e7, e8, e9, e10, e11, e12, e13, e14, e15, e16, e17⟩ | ⟨r2409, v2471, v2472, v2473, v2474, v2475, v2476, f2477, p0, p1, p2, p3, p4, p5, p6, p7, p8, -, p10, e0, e1, e2, e3, e4, e5, e6, e7, e8, e9, e10, e11, e12, e13, e14, e15, e16, e17⟩ | ⟨v2487, v2488, v2489, v2490, v2491, r2485, p0, p1, p2, p3, p4, -, -, p7, e0, e1, e2, e3, e4, e5, e6, e7, e8, e9, e10, e11, e12, e13, e14, e15, e16, e17⟩ | h
  · rw [e3, e7]
    exact ⟨hs, h1⟩
  · have y := fs_flange p16 h1 hs
    rw [e3, e7]
    exact y
  · rw [e3, e7]
    exact ⟨hs, h1⟩
  · rw [e3, e7]
    exact ⟨hs, h1⟩
  · rw [e3, e7]
    exact ⟨hs, h1⟩
  · exact h.elim
theorem fs_loop {f13 : (Nat → Int32)} {f14 : (Nat → Int32)} {f3 : (Nat → Int32)} {f_h0_tape_bytes : (Nat → Int32)} {f_y1_from : (Nat → Int32)} {f_y1_name : (Nat → Int32)} {f_y1_parent : (Nat → Int32)} {f_y1_radius : (Nat → Int32)} {f_y1_side : (Nat → Int32)} {f_y1_toolWidth : (Nat → Int32)} {h0_tape_length : Int32} {v10 : Int32} {v11 : Int32} {v7 : Int32} {v8 : Int32} {v9 : Int32} {v1949 : Int32} {fn1950 : (Nat → Int32)} {fn1951 : (Nat → Int32)} {fn1952 : (Nat → Int32)} {fn1953 : (Nat → Int32)} {fn1954 : (Nat → Int32)} {fn1955 : (Nat → Int32)} {fn1956 : (Nat → Int32)} {v1957 : Int32} {v1958 : Int32} {v1959 : Int32} {v1960 : Int32} {v1961 : Int32} {v1962 : Int32} {v1963 : Int32} {v1964 : Int32} {v1965 : Int32} {fn1966 : (Nat → Int32)} {fn1967 : (Nat → Int32)} (h : I_R_read_11_1 f13 f14 f3 f_h0_tape_bytes f_y1_from f_y1_name f_y1_parent f_y1_radius f_y1_side f_y1_toolWidth h0_tape_length v10 v11 v7 v8 v9 v1949 fn1950 fn1951 fn1952 fn1953 fn1954 fn1955 fn1956 v1957 v1958 v1959 v1960 v1961 v1962 v1963 v1964 v1965 fn1966 fn1967) (hs : gG f_y1_side 0 = 0) : gG fn1953 0 = 0 ∧ 1 ≤ v1961.toInt := by
  refine I_R_read_11_1.ind (Q_ := fun v1949 fn1950 fn1951 fn1952 fn1953 fn1954 fn1955 fn1956 v1957 v1958 v1959 v1960 v1961 v1962 v1963 v1964 v1965 fn1966 fn1967 => gG fn1953 0 = 0 ∧ 1 ≤ v1961.toInt) ?_ ?_ h
  · exact ⟨hs, by decide⟩
  · intros v1949 fn1950 fn1951 fn1952 fn1953 fn1954 fn1955 fn1956 v1957 v1958 v1959 v1960 v1961 v1962 v1963 v1964 v1965 fn1966 fn1967 v2248 v2249 r2246 v2258 v2259 v2260 v2261 v2262 r2269 fn2363 fn2364 fn2365 fn2366 fn2367 fn2368 fn2369 v2370 v2371 v2372 v2373 fn2374 fn2375 v2376 v2377 v2378 v2379 v2380 v2395 v2396 v2397 v2398 v2399 z2405 hI ih p0 p1 p2 p3 p4 p5 p6 p7 p8 p9 p10 p11 p12 p13 p14 p15 p16 p17 p18 p19 p20 p21 p22 p23 p24 p25 p26 p27 p28
    exact fs_line p16 ih.2 ih.1
theorem lp_side {f_y1_told : (Nat → Int32)} {h0_tape_length : Int32} {f_h0_tape_bytes : (Nat → Int32)} {f_y1_width : (Nat → Int32)} {f_y1_height : (Nat → Int32)} {f_y1_parent : (Nat → Int32)} {f_y1_radius : (Nat → Int32)} {f_y1_name : (Nat → Int32)} {f_y1_side : (Nat → Int32)} {f_y1_from : (Nat → Int32)} {f_y1_toolWidth : (Nat → Int32)} {o_u_h0_at : Int32} {o_u_h0_tokenStart : Int32} {o_u_h0_fault : Int32} {o_u_h0_place : Int32} {o_u_y1_count : Int32} {o_u_y1_statements : Int32} {o_u_y1_thick : Int32} {o_u_y1_punch : Int32} {o_u_y1_ups : Int32} {o_u_y1_toolCount : Int32} {o_u_y1_told : (Nat → Int32)} {o_u_y1_width : (Nat → Int32)} {o_u_y1_height : (Nat → Int32)} {o_u_y1_parent : (Nat → Int32)} {o_u_y1_radius : (Nat → Int32)} {o_u_y1_name : (Nat → Int32)} {o_u_y1_side : (Nat → Int32)} {o_u_y1_from : (Nat → Int32)} {o_u_y1_toolWidth : (Nat → Int32)} (h : S_R_read f_y1_told h0_tape_length f_h0_tape_bytes f_y1_width f_y1_height f_y1_parent f_y1_radius f_y1_name f_y1_side f_y1_from f_y1_toolWidth o_u_h0_at o_u_h0_tokenStart o_u_h0_fault o_u_h0_place o_u_y1_count o_u_y1_statements o_u_y1_thick o_u_y1_punch o_u_y1_ups o_u_y1_toolCount o_u_y1_told o_u_y1_width o_u_y1_height o_u_y1_parent o_u_y1_radius o_u_y1_name o_u_y1_side o_u_y1_from o_u_y1_toolWidth) (hs : pS0 f_y1_side) : pS0 o_u_y1_side := by
  unfold pS0 at hs ⊢
  rcases h with ⟨f3, v7, v8, v9, v10, v11, v12, f13, f14, v1949, fn1950, fn1951, fn1952, fn1953, fn1954, fn1955, fn1956, v1957, v1958, v1959, v1960, v1961, v1962, v1963, v1964, v1965, fn1966, fn1967, p0, p1, p2, p3, -, p5, p6, p7, p8, p9, p10, p11, p12, p13, e0, e1, e2, e3, e4, e5, e6, e7, e8, e9, e10, e11, e12, e13, e14, e15, e16, e17, e18⟩ | ⟨f3, v7, v8, v9, v10, v11, v12, f13, f14, v1949, fn1950, fn1951, fn1952, fn1953, fn1954, fn1955, fn1956, v1957, v1958, v1959, v1960, v1961, v1962, v1963, v1964, v1965, fn1966, fn1967, p0, p1, p2, p3, -, p5, p6, p7, p8, p9, p10, p11, p12, p13, p14, e0, e1, e2, e3, e4, e5, e6, e7, e8, e9, e10, e11, e12, e13, e14, e15, e16, e17, e18⟩ | ⟨f3, v7, v8, v9, v10, v11, v12, f13, f14, v1949, fn1950, fn1951, fn1952, fn1953, fn1954, fn1955, fn1956, v1957, v1958, v1959, v1960, v1961, v1962, v1963, v1964, v1965, fn1966, fn1967, v2248, v2249, r2246, p0, p1, p2, p3, -, p5, p6, p7, p8, p9, p10, p11, p12, p13, p14, p15, p16, p17, -, p19, p20, e0, e1, e2, e3, e4, e5, e6, e7, e8, e9, e10, e11, e12, e13, e14, e15, e16, e17, e18⟩ | h
  · have y := fs_loop p6 hs
    rw [e16]
    exact y.1
  · have y := fs_loop p6 hs
    rw [e16]
    exact y.1
  · have y := fs_loop p6 hs
    rw [e16]
    exact y.1
  · exact h.elim
/-- what part() of the reference told: r its answer -/
def pRA (sz fr : Int32) (rd0 rn0 tp ol : Nat → Int32) (at2 fr2 W WA : Int32) (rd2 : Nat → Int32) (c3 c4 : Int32) (rn2 : Nat → Int32) (r : Int32) : Prop := ∃ n : Int32, S_M_readsAll sz (0 : Int32) fr (0 : Int32) (-1 : Int32) rd0 rn0 tp ol at2 fr2 W WA rd2 c3 c4 rn2 n ∧ ((¬ W.toInt = 0 ∧ r = -1) ∨ (W.toInt = 0 ∧ r = n))
theorem rd_eq {f_y1_told : (Nat → Int32)} {h0_tape_length : Int32} {f_h0_tape_bytes : (Nat → Int32)} {f_y1_width : (Nat → Int32)} {f_y1_height : (Nat → Int32)} {f_y1_parent : (Nat → Int32)} {f_y1_radius : (Nat → Int32)} {f_y1_name : (Nat → Int32)} {f_y1_side : (Nat → Int32)} {f_y1_from : (Nat → Int32)} {f_y1_toolWidth : (Nat → Int32)} {o_u_h0_at : Int32} {o_u_h0_tokenStart : Int32} {o_u_h0_fault : Int32} {o_u_h0_place : Int32} {o_u_y1_count : Int32} {o_u_y1_statements : Int32} {o_u_y1_thick : Int32} {o_u_y1_punch : Int32} {o_u_y1_ups : Int32} {o_u_y1_toolCount : Int32} {o_u_y1_told : (Nat → Int32)} {o_u_y1_width : (Nat → Int32)} {o_u_y1_height : (Nat → Int32)} {o_u_y1_parent : (Nat → Int32)} {o_u_y1_radius : (Nat → Int32)} {o_u_y1_name : (Nat → Int32)} {o_u_y1_side : (Nat → Int32)} {o_u_y1_from : (Nat → Int32)} {o_u_y1_toolWidth : (Nat → Int32)} {sz fr at2 fr2 W WA c3 c4 r9 : Int32} {rd0 rn0 tp ol rd2 rn2 : Nat → Int32} (h : S_R_read f_y1_told h0_tape_length f_h0_tape_bytes f_y1_width f_y1_height f_y1_parent f_y1_radius f_y1_name f_y1_side f_y1_from f_y1_toolWidth o_u_h0_at o_u_h0_tokenStart o_u_h0_fault o_u_h0_place o_u_y1_count o_u_y1_statements o_u_y1_thick o_u_y1_punch o_u_y1_ups o_u_y1_toolCount o_u_y1_told o_u_y1_width o_u_y1_height o_u_y1_parent o_u_y1_radius o_u_y1_name o_u_y1_side o_u_y1_from o_u_y1_toolWidth) (h' : pRA sz fr rd0 rn0 tp ol at2 fr2 W WA rd2 c3 c4 rn2 r9) (hT : pTP f_h0_tape_bytes tp h0_tape_length) (h0 : 0 ≤ h0_tape_length.toInt ∧ h0_tape_length.toInt ≤ 1200) (hs : sz.toInt = h0_tape_length.toInt) (ho : pOwn ol) (hs0 : pS0 f_y1_side) : o_u_h0_fault.toInt = W.toInt ∧ o_u_h0_place.toInt = WA.toInt ∧ ((¬ o_u_h0_fault.toInt = 0 ∧ r9.toInt = -1) ∨ (o_u_h0_fault.toInt = 0 ∧ o_u_y1_statements.toInt = r9.toInt ∧ DCS o_u_y1_parent o_u_y1_radius o_u_y1_name o_u_y1_side o_u_y1_from o_u_y1_width o_u_y1_height o_u_y1_toolWidth o_u_y1_told rd2 rn2 o_u_y1_count.toInt o_u_y1_toolCount.toInt o_u_y1_punch.toInt o_u_y1_thick.toInt c3.toInt c4.toInt)) := by
  obtain ⟨n, h1, h2⟩ := h'
  have k := lp_fin (TX.c hT h0.1 h0.2) (TX.r hT h0.1 h0.2 hs) h h1 ho (by decide) (by decide) (by decide) hs0
  refine ⟨k.1, k.2.1, ?_⟩
  rcases h2 with ⟨a, b⟩ | ⟨a, b⟩
  · exact .inl ⟨fun z => a (k.1.symm.trans z), by rw [b]; decide⟩
  · have z := k.1.trans a
    have y := k.2.2 z
    exact .inr ⟨z, by rw [b]; exact y.2, y.1⟩
def OWN_ : List Int32 := [19, 8, 5, 5, 20, 0, 20, 8, 9, 3, 11, 0, 2, 1, 19, 5, 0, 16, 18, 5, 19, 19, 0, 20, 15, 15, 12, 0, 1, 12, 12, 15, 23, 0, 6, 12, 1, 14, 7, 5, 0, 15, 14, 0, 14, 15, 18, 20, 8, 0, 5, 1, 19, 20, 0, 19, 15, 21, 20, 8, 0, 23, 5, 19, 20, 0, 6, 18, 15, 13, 0, 23, 9, 4, 5, 0, 8, 9, 7, 8, 0, 21, 16, 0, 4, 15, 23, 14, 0, 18, 15, 21, 14, 4, 0]
/-- the first n letters stand -/
def pO (f : Nat → Int32) (n : Nat) : Prop := ∀ j : Nat, j < n → f j = OWN_.getD j 0
theorem pO.zero {f : Nat → Int32} : pO f 0 := fun j h => absurd h (Nat.not_lt_zero _)
theorem pO.step {f f2 : Nat → Int32} {k : Nat} {j x : Int32} (h : pO f k) (e : f2 = upd f j.toNatClampNeg x) (hj : j.toNatClampNeg = k) (hx : x = OWN_.getD k 0) : pO f2 (k + 1) := by
  intro i hi
  rw [e, hj]
  by_cases q : i = k
  · rw [q, pk_us]; exact hx
  · rw [pk_un q]; exact h i (by omega)
theorem own_t : ∀ k : Nat, k < 95 → (OWN_.getD k 0).toInt = if chZ 7 ((k : Int) + 1) = 32 then 0 else chZ 7 ((k : Int) + 1) - 96 := by decide +kernel
theorem pOwn.of {f : Nat → Int32} (h : pO f 95) : pOwn f := by
  intro k k0 k1
  have q := own_t k.toNat (by omega)
  rw [show ((k.toNat : Nat) : Int) = k by omega] at q
  unfold gG
  rw [h k.toNat (by omega)]; exact q
