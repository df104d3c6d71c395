theorem j46_ {h0_from : Int32} {h0_read_4 : Int32} {h0_wrong : Int32} {h0_wrongAt : Int32} {v80 : Int32} {v81 : Int32} (h : J_M_readsLine_46_1 h0_from h0_read_4 h0_wrong h0_wrongAt v80 v81)  : ((h0_read_4.toInt = 8 ∧ ((¬ h0_wrong.toInt = 0 ∧ v80.toInt = h0_wrong.toInt ∧ v81.toInt = h0_wrongAt.toInt) ∨ (h0_wrong.toInt = 0 ∧ v80.toInt = 5 ∧ v81.toInt = h0_from.toInt))) ∨ (¬ h0_read_4.toInt = 8 ∧ v80.toInt = h0_wrong.toInt ∧ v81.toInt = h0_wrongAt.toInt)) := by
  rcases h with ⟨p0, e0, e1⟩ | ⟨v157, v158, p0, p1, p2, p3, e0, e1⟩ | h
  · have e5_ : (5 : Int32).toInt = 5 := by decide
    omega
  · have i5_ : (5 : Int32).toInt = 5 := by decide
    have k3 := m_faults p3
    have e5_ : (5 : Int32).toInt = 5 := by decide
    omega
  · exact h.elim
theorem j75_ {f_h0_read : (Nat → Int32)} {h0_read_4 : Int32} {r102 : Int32} {r88 : Int32} {fn115 : (Nat → Int32)} (h : J_M_readsLine_75_2 f_h0_read h0_read_4 r102 r88 fn115)  : (r102.toInt = 0 ∧ fn115 = f_h0_read) ∨ (¬ r102.toInt = 0 ∧ ∃ z : Int32, z.toInt = 5 + h0_read_4.toInt ∧ fn115 = upd f_h0_read z.toNatClampNeg r88) := by
  rcases h with ⟨p0, e0⟩ | ⟨z146, f149, p0, p1, p2, e0⟩ | h
  · exact .inl ⟨p0, e0⟩
  · exact .inr ⟨p0, _, p1, e0.trans p2⟩
  · exact h.elim
theorem pw_line {B : Int → Int} {f_h0_tape_bytes : (Nat → Int32)} {fn1950 : (Nat → Int32)} {fn1951 : (Nat → Int32)} {fn1952 : (Nat → Int32)} {fn1953 : (Nat → Int32)} {fn1954 : (Nat → Int32)} {fn1955 : (Nat → Int32)} {fn1956 : (Nat → Int32)} {fn1966 : (Nat → Int32)} {fn1967 : (Nat → Int32)} {h0_tape_length : Int32} {r2269 : Int32} {v1961 : Int32} {v1963 : Int32} {v1964 : Int32} {v1965 : Int32} {v2258 : Int32} {v2259 : Int32} {v2260 : Int32} {v2261 : Int32} {v2262 : Int32} {fn2363 : (Nat → Int32)} {fn2364 : (Nat → Int32)} {fn2365 : (Nat → Int32)} {fn2366 : (Nat → Int32)} {fn2367 : (Nat → Int32)} {fn2368 : (Nat → Int32)} {fn2369 : (Nat → Int32)} {v2370 : Int32} {v2371 : Int32} {v2372 : Int32} {v2373 : Int32} {fn2374 : (Nat → Int32)} {fn2375 : (Nat → Int32)} {v2376 : Int32} {v2377 : Int32} {v2378 : Int32} {v2379 : Int32} {v2380 : Int32} {x1' : Int32} {h0_size' : Int32} {h0_at' : Int32} {h0_from' : Int32} {h0_wrong' : Int32} {h0_wrongAt' : Int32} {f_h0_read' : (Nat → Int32)} {h0_read_3' : Int32} {h0_read_4' : Int32} {f_h0_tape' : (Nat → Int32)} {f_h0_ownLetters' : (Nat → Int32)} {f_h0_readNow' : (Nat → Int32)} {o_u_h0_at' : Int32} {o_u_h0_from' : Int32} {o_u_h0_wrong' : Int32} {o_u_h0_wrongAt' : Int32} {o_u_h0_read' : (Nat → Int32)} {o_u_h0_read_3' : Int32} {o_u_h0_read_4' : Int32} {o_u_h0_readNow' : (Nat → Int32)} {th : Int} (c : cTB f_h0_tape_bytes h0_tape_length B) (d : rTB f_h0_tape' h0_size' B) (h : J_R_read_119_2 f_h0_tape_bytes fn1950 fn1951 fn1952 fn1953 fn1954 fn1955 fn1956 fn1966 fn1967 h0_tape_length r2269 v1961 v1963 v1964 v1965 v2258 v2259 v2260 v2261 v2262 fn2363 fn2364 fn2365 fn2366 fn2367 fn2368 fn2369 v2370 v2371 v2372 v2373 fn2374 fn2375 v2376 v2377 v2378 v2379 v2380) (h' : S_M_readsLine x1' h0_size' h0_at' h0_from' h0_wrong' h0_wrongAt' f_h0_read' h0_read_3' h0_read_4' f_h0_tape' f_h0_ownLetters' f_h0_readNow' o_u_h0_at' o_u_h0_from' o_u_h0_wrong' o_u_h0_wrongAt' o_u_h0_read' o_u_h0_read_3' o_u_h0_read_4' o_u_h0_readNow') (ho : pOwn f_h0_ownLetters') (hF : v2261.toInt = 0) (hW : h0_wrong'.toInt = 0) (ht : v2259.toInt = h0_from'.toInt) (hw : ((r2269.toInt = 1 ∧ OW B v2259.toInt v2258.toInt 3) ∨ (r2269.toInt = 0 ∧ ¬ OW B v2259.toInt v2258.toInt 3))) (ow : OWR B v2259.toInt v2258.toInt x1'.toInt) (D : DCS fn1950 fn1951 fn1952 fn1953 fn1954 fn1966 fn1967 fn1955 fn1956 f_h0_read' f_h0_readNow' v1961.toInt v1965.toInt v1963.toInt th h0_read_3'.toInt h0_read_4'.toInt) (r : RC B h0_size'.toInt v2258.toInt v2260.toInt v2261.toInt v2262.toInt h0_at'.toInt h0_wrong'.toInt h0_wrongAt'.toInt) : RC B h0_size'.toInt v2376.toInt v2378.toInt v2379.toInt v2380.toInt o_u_h0_at'.toInt o_u_h0_wrong'.toInt o_u_h0_wrongAt'.toInt ∧ (v2379.toInt = 0 → DCS fn2363 fn2364 fn2365 fn2366 fn2367 fn2374 fn2375 fn2368 fn2369 o_u_h0_read' o_u_h0_readNow' v2370.toInt v2373.toInt v2371.toInt th o_u_h0_read_3'.toInt o_u_h0_read_4'.toInt) := by
  rcases h with ⟨r2409, r2413, r2417, v2423, v2424, p0, p1, p2, p3, p4, p5, p6, p7, p8, p9, p10, p11, p12, e0, e1, e2, e3, e4, e5, e6, e7, e8, e9, e10, e11, e12, e13, e14, e15, e16, e17⟩ | ⟨r2409, r2413, r2417, v2430, v2431, v2432, v2433, v2434, v2435, v2436, f2437, f2438, f2439, f2440, f2441, f2442, f2443, p0, p1, p2, p3, p4, p5, p6, p7, p8, p9, p10, p11, p12, p13, p14, -, p16, e0, e1, e2, e3, e4, e5, e6, e7, e8, e9, e10, e11, e12, e13, e14, e15, e16, e17⟩ | ⟨r2409, r2413, v2457, v2458, v2459, v2460, v2461, f2462, p0, p1, p2, p3, p4, p5, p6, p7, p8, p9, p10, -, p12, e0, e1, e2, e3, e4, e5, e6, e7, e8, e9, e10, e11, e12, e13, e14, e15, e16, e17⟩ | ⟨r2409, v2471, v2472, v2473, v2474, v2475, v2476, f2477, p0, p1, p2, p3, p4, p5, p6, p7, p8, -, p10, e0, e1, e2, e3, e4, e5, e6, e7, e8, e9, e10, e11, e12, e13, e14, e15, e16, e17⟩ | ⟨v2487, v2488, v2489, v2490, v2491, r2485, p0, p1, p2, p3, p4, -, -, p7, e0, e1, e2, e3, e4, e5, e6, e7, e8, e9, e10, e11, e12, e13, e14, e15, e16, e17⟩ | h
  · have q3 := ow.no hw p0
    have wk4 := c_wI_4 p2 c
    rw [ow_4] at wk4
    have q4 := ow.no wk4 p3
    have wk5 := c_wI_5 p5 c
    rw [ow_5] at wk5
    have q5 := ow.no wk5 p6
    have wk6 := c_wI_6 p8 c
    rw [ow_6] at wk6
    have q6 := ow.no wk6 p9
    rcases h' with ⟨v7', v8', t0, t1, t2, t3, t4, t5, t6, g0, g1, g2, g3, g4, g5, g6, g7⟩ | ⟨v14', v15', v16', v17', f18', v19', f20', t0, t1, t2, t3, t4, t5, t6, t7, t8, t9, -, t11, g0, g1, g2, g3, g4, g5, g6, g7⟩ | ⟨v35', v36', v37', v38', r33', v49', v50', v51', v52', r47', r61', t0, t1, t2, t3, t4, t5, -, -, t8, -, t10, t11, t12, t13, -, -, t16, -, t18, t19, -, t21, t22, g0, g1, g2, g3, g4, g5, g6, g7⟩ | ⟨v35', v36', v37', v38', r33', v49', v50', v51', v52', r47', r61', z66', f69', t0, t1, t2, t3, t4, t5, -, -, t8, -, t10, t11, t12, t13, -, -, t16, -, t18, t19, -, t21, t22, t23, t24, g0, g1, g2, g3, g4, g5, g6, g7⟩ | ⟨v80', v81', v90', v91', v92', v93', r88', r102', fn115', r124', z129', f132', t0, t1, t2, t3, t4, t5, t6, -, -, t9, -, t11, t12, -, t14, t15, t16, -, t18, t19, t20, t21, g0, g1, g2, g3, g4, g5, g6, g7⟩ | ⟨v80', v81', v90', v91', v92', v93', r88', r102', fn115', r124', z137', f140', t0, t1, t2, t3, t4, t5, t6, -, -, t9, -, t11, t12, -, t14, t15, t16, -, t18, t19, t20, t21, g0, g1, g2, g3, g4, g5, g6, g7⟩ | ⟨v164', v165', v166', v167', r162', f176', t0, t1, t2, t3, -, -, t6, -, t8, t9, g0, g1, g2, g3, g4, g5, g6, g7⟩ | h'
    · have kf := c_fail p12
      have mf := m_faults t6
      have e1_ : (1 : Int32).toInt = 1 := by decide
      have z1 : v2423.toInt = 1 ∧ v2424.toInt = v2259.toInt := by
        rcases kf with ⟨a, _⟩ | ⟨_, a⟩
        · exact absurd hF a
        · exact ⟨a.1.trans e1_, a.2⟩
      have z2 : v7'.toInt = 1 ∧ v8'.toInt = h0_from'.toInt := by
        rcases mf with ⟨a, _⟩ | ⟨_, a⟩
        · exact absurd hW a
        · exact ⟨a.1.trans e1_, a.2⟩
      have nz : ¬ v2423.toInt = 0 := by omega
      rw [e13, e15, e16, e17, g0, g2, g3]
      exact ⟨⟨by omega, by omega, fun z => absurd z nz⟩, fun z => absurd z nz⟩
    · exfalso
      omega
    · exfalso
      omega
    · exfalso
      omega
    · exfalso
      omega
    · exfalso
      omega
    · exfalso
      omega
    · exact h'.elim
  · have q3 := ow.no hw p0
    have wk4 := c_wI_4 p2 c
    rw [ow_4] at wk4
    have q4 := ow.no wk4 p3
    have wk5 := c_wI_5 p5 c
    rw [ow_5] at wk5
    have q5 := ow.no wk5 p6
    have wk6 := c_wI_6 p8 c
    rw [ow_6] at wk6
    have q6 := ow.is (by decide) wk6 p9
    rcases h' with ⟨v7', v8', t0, t1, t2, t3, t4, t5, t6, g0, g1, g2, g3, g4, g5, g6, g7⟩ | ⟨v14', v15', v16', v17', f18', v19', f20', t0, t1, t2, t3, t4, t5, t6, t7, t8, t9, -, t11, g0, g1, g2, g3, g4, g5, g6, g7⟩ | ⟨v35', v36', v37', v38', r33', v49', v50', v51', v52', r47', r61', t0, t1, t2, t3, t4, t5, -, -, t8, -, t10, t11, t12, t13, -, -, t16, -, t18, t19, -, t21, t22, g0, g1, g2, g3, g4, g5, g6, g7⟩ | ⟨v35', v36', v37', v38', r33', v49', v50', v51', v52', r47', r61', z66', f69', t0, t1, t2, t3, t4, t5, -, -, t8, -, t10, t11, t12, t13, -, -, t16, -, t18, t19, -, t21, t22, t23, t24, g0, g1, g2, g3, g4, g5, g6, g7⟩ | ⟨v80', v81', v90', v91', v92', v93', r88', r102', fn115', r124', z129', f132', t0, t1, t2, t3, t4, t5, t6, -, -, t9, -, t11, t12, -, t14, t15, t16, -, t18, t19, t20, t21, g0, g1, g2, g3, g4, g5, g6, g7⟩ | ⟨v80', v81', v90', v91', v92', v93', r88', r102', fn115', r124', z137', f140', t0, t1, t2, t3, t4, t5, t6, -, -, t9, -, t11, t12, -, t14, t15, t16, -, t18, t19, t20, t21, g0, g1, g2, g3, g4, g5, g6, g7⟩ | ⟨v164', v165', v166', v167', r162', f176', t0, t1, t2, t3, -, -, t6, -, t8, t9, g0, g1, g2, g3, g4, g5, g6, g7⟩ | h'
    · exfalso
      omega
    · obtain ⟨⟨d1, d9, d3⟩, dF, dN, d0, _⟩ := id D
      have a0 := pw_flange c d p16 t11 ho hF hW ht d3 d1 d9 dF d0 (by rw [← d3]; exact dN) r
      rw [e13, e15, e16, e17, g0, g2, g3, e0, e1, e2, e3, e4, e5, e6, e7, e8, e10, e11, e12, g4, g5, g6, g7]
      refine ⟨a0.1, fun z => ?_⟩
      obtain ⟨b1, b2, b3, b4, b5, b6, b7, b8, _⟩ := a0.2 z
      exact D.flange b1 b2 b3 b4 b5 b6 b7 b8
    · exfalso
      omega
    · exfalso
      omega
    · exfalso
      omega
    · exfalso
      omega
    · exfalso
      omega
    · exact h'.elim
  · have q3 := ow.no hw p0
    have wk4 := c_wI_4 p2 c
    rw [ow_4] at wk4
    have q4 := ow.no wk4 p3
    have wk5 := c_wI_5 p5 c
    rw [ow_5] at wk5
    have q5 := ow.is (by decide) wk5 p6
    rcases h' with ⟨v7', v8', t0, t1, t2, t3, t4, t5, t6, g0, g1, g2, g3, g4, g5, g6, g7⟩ | ⟨v14', v15', v16', v17', f18', v19', f20', t0, t1, t2, t3, t4, t5, t6, t7, t8, t9, -, t11, g0, g1, g2, g3, g4, g5, g6, g7⟩ | ⟨v35', v36', v37', v38', r33', v49', v50', v51', v52', r47', r61', t0, t1, t2, t3, t4, t5, -, -, t8, -, t10, t11, t12, t13, -, -, t16, -, t18, t19, -, t21, t22, g0, g1, g2, g3, g4, g5, g6, g7⟩ | ⟨v35', v36', v37', v38', r33', v49', v50', v51', v52', r47', r61', z66', f69', t0, t1, t2, t3, t4, t5, -, -, t8, -, t10, t11, t12, t13, -, -, t16, -, t18, t19, -, t21, t22, t23, t24, g0, g1, g2, g3, g4, g5, g6, g7⟩ | ⟨v80', v81', v90', v91', v92', v93', r88', r102', fn115', r124', z129', f132', t0, t1, t2, t3, t4, t5, t6, -, -, t9, -, t11, t12, -, t14, t15, t16, -, t18, t19, t20, t21, g0, g1, g2, g3, g4, g5, g6, g7⟩ | ⟨v80', v81', v90', v91', v92', v93', r88', r102', fn115', r124', z137', f140', t0, t1, t2, t3, t4, t5, t6, -, -, t9, -, t11, t12, -, t14, t15, t16, -, t18, t19, t20, t21, g0, g1, g2, g3, g4, g5, g6, g7⟩ | ⟨v164', v165', v166', v167', r162', f176', t0, t1, t2, t3, -, -, t6, -, t8, t9, g0, g1, g2, g3, g4, g5, g6, g7⟩ | h'
    · exfalso
      omega
    · exfalso
      omega
    · rcases p12 with ⟨v3, v4, v5, v6, v7, r1, v17, v18, v19, v20, v21, r15, s0, s1, s2, s3, -, -, s6, s7, s8, s9, s10, -, -, s13, s14, x0, x1, x2, x3, x4, x5⟩ | ⟨v3, v4, v5, v6, v7, r1, v17, v18, v19, v20, v21, r15, f30, s0, s1, s2, s3, -, -, s6, s7, s8, s9, s10, -, -, s13, s14, s15, x0, x1, x2, x3, x4, x5⟩ | p12
      · have a0 := pw_num c d s6 t10 r ⟨rfl, rfl⟩
        have a1 := pw_num c d s13 t18 a0.1 ⟨rfl, rfl⟩
        have gw := m_goesWell t21
        rw [e13, e15, e16, e17, g0, g2, g3]
        rw [x0, x2, x3, x4]
        exact ⟨a1.1, fun z => absurd z s14⟩
      · have a0 := pw_num c d s6 t10 r ⟨rfl, rfl⟩
        have a1 := pw_num c d s13 t18 a0.1 ⟨rfl, rfl⟩
        have gw := m_goesWell t21
        exact absurd (a1.1.1.symm.trans s14) (b10 gw t22)
      · exact p12.elim
    · rcases p12 with ⟨v3, v4, v5, v6, v7, r1, v17, v18, v19, v20, v21, r15, s0, s1, s2, s3, -, -, s6, s7, s8, s9, s10, -, -, s13, s14, x0, x1, x2, x3, x4, x5⟩ | ⟨v3, v4, v5, v6, v7, r1, v17, v18, v19, v20, v21, r15, f30, s0, s1, s2, s3, -, s5, s6, s7, s8, s9, s10, -, -, s13, s14, s15, x0, x1, x2, x3, x4, x5⟩ | p12
      · have a0 := pw_num c d s6 t10 r ⟨rfl, rfl⟩
        have a1 := pw_num c d s13 t18 a0.1 ⟨rfl, rfl⟩
        have gw := m_goesWell t21
        exact absurd (a1.1.1.trans (b11 gw t22)) s14
      · have a0 := pw_num c d s6 t10 r ⟨rfl, rfl⟩
        have a1 := pw_num c d s13 t18 a0.1 ⟨rfl, rfl⟩
        have gw := m_goesWell t21
        rw [e13, e15, e16, e17, g0, g2, g3, e0, e1, e2, e3, e4, e5, e6, e7, e8, e10, e11, e12, g4, g5, g6, g7]
        rw [x0, x2, x3, x4, x5]
        exact ⟨a1.1, fun z => D.allow s15 t24 t23 (a0.2 (a1.2 z).1).2.1 (a1.2 z).2.1 (s5.resolve_left (fun w => w (a1.2 z).1))⟩
      · exact p12.elim
    · exfalso
      omega
    · exfalso
      omega
    · exfalso
      omega
    · exact h'.elim
  · have q3 := ow.no hw p0
    have wk4 := c_wI_4 p2 c
    rw [ow_4] at wk4
    have q4 := ow.is (by decide) wk4 p3
    rcases h' with ⟨v7', v8', t0, t1, t2, t3, t4, t5, t6, g0, g1, g2, g3, g4, g5, g6, g7⟩ | ⟨v14', v15', v16', v17', f18', v19', f20', t0, t1, t2, t3, t4, t5, t6, t7, t8, t9, -, t11, g0, g1, g2, g3, g4, g5, g6, g7⟩ | ⟨v35', v36', v37', v38', r33', v49', v50', v51', v52', r47', r61', t0, t1, t2, t3, t4, t5, -, -, t8, -, t10, t11, t12, t13, -, -, t16, -, t18, t19, -, t21, t22, g0, g1, g2, g3, g4, g5, g6, g7⟩ | ⟨v35', v36', v37', v38', r33', v49', v50', v51', v52', r47', r61', z66', f69', t0, t1, t2, t3, t4, t5, -, -, t8, -, t10, t11, t12, t13, -, -, t16, -, t18, t19, -, t21, t22, t23, t24, g0, g1, g2, g3, g4, g5, g6, g7⟩ | ⟨v80', v81', v90', v91', v92', v93', r88', r102', fn115', r124', z129', f132', t0, t1, t2, t3, t4, t5, t6, -, -, t9, -, t11, t12, -, t14, t15, t16, -, t18, t19, t20, t21, g0, g1, g2, g3, g4, g5, g6, g7⟩ | ⟨v80', v81', v90', v91', v92', v93', r88', r102', fn115', r124', z137', f140', t0, t1, t2, t3, t4, t5, t6, -, -, t9, -, t11, t12, -, t14, t15, t16, -, t18, t19, t20, t21, g0, g1, g2, g3, g4, g5, g6, g7⟩ | ⟨v164', v165', v166', v167', r162', f176', t0, t1, t2, t3, -, -, t6, -, t8, t9, g0, g1, g2, g3, g4, g5, g6, g7⟩ | h'
    · exfalso
      omega
    · exfalso
      omega
    · exfalso
      omega
    · exfalso
      omega
    · rcases p10 with ⟨v4, v5, v6, v7, v8, r2, f16, z18, s0, s1, s2, s3, s4, -, -, s7, s8, s9, x0, x1, x2, x3, x4, x5, x6⟩ | ⟨v23, v24, s0, s1, s2, s3, x0, x1, x2, x3, x4, x5, x6⟩ | p10
      · have j2 := j46_ t2
        have g9 : v80'.toInt = h0_wrong'.toInt ∧ v81'.toInt = h0_wrongAt'.toInt := by
          rcases j2 with ⟨a, _⟩ | ⟨_, a⟩
          · exact absurd a (tl_8 D.2.2.2.2.1.2 s0)
          · exact a
        have r1 := r
        rw [← g9.1, ← g9.2] at r1
        have a0 := pw_num c d s7 t11 r1 ⟨rfl, rfl⟩
        have nw := b10 (m_goesWell t18) t19
        have nz : ¬ v7.toInt = 0 := fun z => nw (a0.1.1.symm.trans z)
        rw [e13, e15, e16, e17, g0, g2, g3]
        rw [x0, x2, x3, x4]
        exact ⟨a0.1, fun z => absurd z nz⟩
      · have j2 := j46_ t2
        have kf := c_fail s3
        have e5_ : (5 : Int32).toInt = 5 := by decide
        have z1 : v23.toInt = 5 ∧ v24.toInt = v2259.toInt := by
          rcases kf with ⟨a, _⟩ | ⟨_, a⟩
          · exact absurd hF a
          · exact ⟨a.1.trans e5_, a.2⟩
        have z2 : v80'.toInt = 5 ∧ v81'.toInt = h0_from'.toInt := by
          rcases j2 with ⟨_, ⟨a, _⟩ | ⟨_, a⟩⟩ | ⟨a, _⟩
          · exact absurd hW a
          · exact a
          · exact absurd (tl_n D.2.2.2.2.1.2 s0 D.2.2.2.2.1.1.2.1) a
        have z3 := fz_M_number t11 (by omega)
        have nz : ¬ v23.toInt = 0 := by omega
        rw [e13, e15, e16, e17, g0, g2, g3]
        rw [x0, x2, x3, x4]
        exact ⟨⟨by omega, by omega, fun z => absurd z nz⟩, fun z => absurd z nz⟩
      · exact p10.elim
    · rcases p10 with ⟨v4, v5, v6, v7, v8, r2, f16, z18, s0, s1, s2, s3, s4, -, s6, s7, s8, s9, x0, x1, x2, x3, x4, x5, x6⟩ | ⟨v23, v24, s0, s1, s2, s3, x0, x1, x2, x3, x4, x5, x6⟩ | p10
      · have j2 := j46_ t2
        have g9 : v80'.toInt = h0_wrong'.toInt ∧ v81'.toInt = h0_wrongAt'.toInt := by
          rcases j2 with ⟨a, _⟩ | ⟨_, a⟩
          · exact absurd a (tl_8 D.2.2.2.2.1.2 s0)
          · exact a
        have r1 := r
        rw [← g9.1, ← g9.2] at r1
        have a0 := pw_num c d s7 t11 r1 ⟨rfl, rfl⟩
        have w1 := b11 (m_goesWell t18) t19
        have j3 := (j75_ t15).resolve_left (fun z => b10 (m_goesWell t14) z.1 w1)
        obtain ⟨_, zz, hzz, huz⟩ := j3
        rw [e13, e15, e16, e17, g0, g2, g3, e0, e1, e2, e3, e4, e5, e6, e7, e8, e10, e11, e12, g4, g5, g6, g7]
        rw [x0, x2, x3, x4, x5, x6]
        exact ⟨a0.1, fun z => D.tool rfl (by omega) s8 huz t21 hzz (a0.2 z).2.1 (s6.resolve_left (fun w => w z)) s9 t20⟩
      · have j2 := j46_ t2
        have kf := c_fail s3
        have e5_ : (5 : Int32).toInt = 5 := by decide
        have z1 : v23.toInt = 5 ∧ v24.toInt = v2259.toInt := by
          rcases kf with ⟨a, _⟩ | ⟨_, a⟩
          · exact absurd hF a
          · exact ⟨a.1.trans e5_, a.2⟩
        have z2 : v80'.toInt = 5 ∧ v81'.toInt = h0_from'.toInt := by
          rcases j2 with ⟨_, ⟨a, _⟩ | ⟨_, a⟩⟩ | ⟨a, _⟩
          · exact absurd hW a
          · exact a
          · exact absurd (tl_n D.2.2.2.2.1.2 s0 D.2.2.2.2.1.1.2.1) a
        have z3 := fz_M_number t11 (by omega)
        have nz : ¬ v23.toInt = 0 := by omega
        rw [e13, e15, e16, e17, g0, g2, g3]
        rw [x0, x2, x3, x4]
        exact ⟨⟨by omega, by omega, fun z => absurd z nz⟩, fun z => absurd z nz⟩
      · exact p10.elim
    · exfalso
      omega
    · exact h'.elim
  · have q3 := ow.is (by decide) hw p0
    rcases h' with ⟨v7', v8', t0, t1, t2, t3, t4, t5, t6, g0, g1, g2, g3, g4, g5, g6, g7⟩ | ⟨v14', v15', v16', v17', f18', v19', f20', t0, t1, t2, t3, t4, t5, t6, t7, t8, t9, -, t11, g0, g1, g2, g3, g4, g5, g6, g7⟩ | ⟨v35', v36', v37', v38', r33', v49', v50', v51', v52', r47', r61', t0, t1, t2, t3, t4, t5, -, -, t8, -, t10, t11, t12, t13, -, -, t16, -, t18, t19, -, t21, t22, g0, g1, g2, g3, g4, g5, g6, g7⟩ | ⟨v35', v36', v37', v38', r33', v49', v50', v51', v52', r47', r61', z66', f69', t0, t1, t2, t3, t4, t5, -, -, t8, -, t10, t11, t12, t13, -, -, t16, -, t18, t19, -, t21, t22, t23, t24, g0, g1, g2, g3, g4, g5, g6, g7⟩ | ⟨v80', v81', v90', v91', v92', v93', r88', r102', fn115', r124', z129', f132', t0, t1, t2, t3, t4, t5, t6, -, -, t9, -, t11, t12, -, t14, t15, t16, -, t18, t19, t20, t21, g0, g1, g2, g3, g4, g5, g6, g7⟩ | ⟨v80', v81', v90', v91', v92', v93', r88', r102', fn115', r124', z137', f140', t0, t1, t2, t3, t4, t5, t6, -, -, t9, -, t11, t12, -, t14, t15, t16, -, t18, t19, t20, t21, g0, g1, g2, g3, g4, g5, g6, g7⟩ | ⟨v164', v165', v166', v167', r162', f176', t0, t1, t2, t3, -, -, t6, -, t8, t9, g0, g1, g2, g3, g4, g5, g6, g7⟩ | h'
    · exfalso
      omega
    · exfalso
      omega
    · exfalso
      omega
    · exfalso
      omega
    · exfalso
      omega
    · exfalso
      omega
    · have a0 := pw_num c d p7 t8 r ⟨rfl, rfl⟩
      rw [e13, e15, e16, e17, g0, g2, g3, e0, e1, e2, e3, e4, e5, e6, e7, e8, e10, e11, e12, g4, g5, g6, g7]
      exact ⟨a0.1, fun z => D.press t9 (a0.2 z).2.1⟩
    · exact h'.elim
  · exact h.elim
