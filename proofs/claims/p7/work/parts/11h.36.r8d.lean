/-- a word can begin at s -/
def okW (B : Int → Int) (s : Int) : Prop := 97 ≤ B s ∧ B s ≤ 122
theorem in_F {k a s n : Int} (h1 : k + 1 ≤ a) (h2 : a ≤ s) (h3 : s < n) (h4 : n ≤ 1200) : k < 1200 := by omega
theorem lt_c {a b c : Int} (h : a + 1 < b) (e : b = c + 1) (n : ¬ a + 1 < c) : c = a + 1 := by omega
theorem le_c {a b c : Int} (h : a ≤ b) (e : b = c + 1) (n : ¬ a ≤ c) : a = c + 1 := by omega
theorem no_c {a b : Int} (h : a + 1 < b) (e : b = 1) (h0 : 0 ≤ a) : False := by omega
theorem no_d {a b : Int} (h : a ≤ b) (e : b = 0) (h0 : 1 ≤ a) : False := by omega
theorem lp_E {B : Int → Int} {f13 : (Nat → Int32)} {f14 : (Nat → Int32)} {f3 : (Nat → Int32)} {f_h0_tape_bytes : (Nat → Int32)} {f_y1_from : (Nat → Int32)} {f_y1_name : (Nat → Int32)} {f_y1_parent : (Nat → Int32)} {f_y1_radius : (Nat → Int32)} {f_y1_side : (Nat → Int32)} {f_y1_toolWidth : (Nat → Int32)} {h0_tape_length : Int32} {v10 : Int32} {v11 : Int32} {v7 : Int32} {v8 : Int32} {v9 : Int32} {f14587' : (Nat → Int32)} {f14661' : (Nat → Int32)} {f_h0_ownLetters' : (Nat → Int32)} {f_h0_tape' : (Nat → Int32)} {g14594' : Int32} {h0_size' : Int32} {v14650' : Int32} {v14668' : Int32} {v14669' : Int32} {v14670' : Int32} {v15337' : Int32} {fn15338' : (Nat → Int32)} {v15339' : Int32} {v15340' : Int32} {fn15341' : (Nat → Int32)} {v15342' : Int32} {v15343' : Int32} {v15344' : Int32} {v15345' : Int32} {th : Int} (c : cTB f_h0_tape_bytes h0_tape_length B) (d : rTB f_h0_tape' h0_size' B) (ho : pOwn f_h0_ownLetters') (h0 : v14669'.toInt = 0 → (1 : Int32).toInt ≤ v14668'.toInt) (hE : PLP B h0_size'.toInt f_y1_parent f_y1_radius f_y1_name f_y1_side f_y1_from f13 f14 f_y1_toolWidth f3 f14661' f14587' v7.toInt v9.toInt v10.toInt (1 : Int32).toInt (0 : Int32).toInt (30 : Int32).toInt v11.toInt (0 : Int32).toInt th (1 : Int32).toInt g14594'.toInt (1 : Int32).toInt v14668'.toInt v14669'.toInt v14670'.toInt) (h : I_M_readsAll_119_3 f14587' f14661' f_h0_ownLetters' f_h0_tape' g14594' h0_size' v14650' v14668' v14669' v14670' v15337' fn15338' v15339' v15340' fn15341' v15342' v15343' v15344' v15345') : ∀ (v1949 : Int32) (fn1950 : (Nat → Int32)) (fn1951 : (Nat → Int32)) (fn1952 : (Nat → Int32)) (fn1953 : (Nat → Int32)) (fn1954 : (Nat → Int32)) (fn1955 : (Nat → Int32)) (fn1956 : (Nat → Int32)) (v1957 : Int32) (v1958 : Int32) (v1959 : Int32) (v1960 : Int32) (v1961 : Int32) (v1962 : Int32) (v1963 : Int32) (v1964 : Int32) (v1965 : Int32) (fn1966 : (Nat → Int32)) (fn1967 : (Nat → Int32)), I_R_read_11_1 f13 f14 f3 f_h0_tape_bytes f_y1_from f_y1_name f_y1_parent f_y1_radius f_y1_side f_y1_toolWidth h0_tape_length v10 v11 v7 v8 v9 v1949 fn1950 fn1951 fn1952 fn1953 fn1954 fn1955 fn1956 v1957 v1958 v1959 v1960 v1961 v1962 v1963 v1964 v1965 fn1966 fn1967 → v1949.toInt + 1 < v15337'.toInt → v1959.toInt = 0 ∧ (∃ s : Int, isSk B v1957.toInt s ∧ s < h0_size'.toInt) ∧ v1949.toInt < 1200 := by
  refine I_M_readsAll_119_3.ind (Q_ := fun v15337' fn15338' v15339' v15340' fn15341' v15342' v15343' v15344' v15345' => ∀ (v1949 : Int32) (fn1950 : (Nat → Int32)) (fn1951 : (Nat → Int32)) (fn1952 : (Nat → Int32)) (fn1953 : (Nat → Int32)) (fn1954 : (Nat → Int32)) (fn1955 : (Nat → Int32)) (fn1956 : (Nat → Int32)) (v1957 : Int32) (v1958 : Int32) (v1959 : Int32) (v1960 : Int32) (v1961 : Int32) (v1962 : Int32) (v1963 : Int32) (v1964 : Int32) (v1965 : Int32) (fn1966 : (Nat → Int32)) (fn1967 : (Nat → Int32)), I_R_read_11_1 f13 f14 f3 f_h0_tape_bytes f_y1_from f_y1_name f_y1_parent f_y1_radius f_y1_side f_y1_toolWidth h0_tape_length v10 v11 v7 v8 v9 v1949 fn1950 fn1951 fn1952 fn1953 fn1954 fn1955 fn1956 v1957 v1958 v1959 v1960 v1961 v1962 v1963 v1964 v1965 fn1966 fn1967 → v1949.toInt + 1 < v15337'.toInt → v1959.toInt = 0 ∧ (∃ s : Int, isSk B v1957.toInt s ∧ s < h0_size'.toInt) ∧ v1949.toInt < 1200) ?_ ?_ h
  · intros v1949 fn1950 fn1951 fn1952 fn1953 fn1954 fn1955 fn1956 v1957 v1958 v1959 v1960 v1961 v1962 v1963 v1964 v1965 fn1966 fn1967 hR hk
    exact (no_c hk (by decide) (lp_R hR)).elim
  · intros v15337' fn15338' v15339' v15340' fn15341' v15342' v15343' v15344' v15345' r15450' v15457' r15455' v15466' v15467' v15468' v15469' r15477' v15484' r15489' v15496' v15497' v15498' v15499' f15500' v15501' v15502' f15503' v15519' v15520' v15521' z15527' hI ihM q0 q1 q2 q3 q4 q5 q6 q7 q8 q9 q10 q11 q12 q13 q14 q15 q16 q17 q18 q19 q20 q21 q22 q23 q24 q25 q26 q27 q28 q29 q30 q31 q32 q33 q34 q35 q36 q37 q38 q39
    clear q1 q6 q12 q13 q15 q18 q22 q32 q37
    intros v1949 fn1950 fn1951 fn1952 fn1953 fn1954 fn1955 fn1956 v1957 v1958 v1959 v1960 v1961 v1962 v1963 v1964 v1965 fn1966 fn1967 hR hk
    have a := lp_M h0 hI
    have e := za q39 (rfl : v15337'.toInt = _) (show (1 : Int32).toInt = 1 by decide) (za_b a.1 a.2.1)
    by_cases z : v1949.toInt + 1 < v15337'.toInt
    · exact ihM v1949 fn1950 fn1951 fn1952 fn1953 fn1954 fn1955 fn1956 v1957 v1958 v1959 v1960 v1961 v1962 v1963 v1964 v1965 fn1966 fn1967 hR z
    · have ek := lt_c hk e z
      have P := lp_A c d ho h0 hE hR v15337' fn15338' v15339' v15340' fn15341' v15342' v15343' v15344' v15345' hI ek
      have w0 := b11 (m_goesWell q2) q3
      have F0 := P.1.1.trans w0
      obtain ⟨a1, a2, a3, a4⟩ := P.1.2.2 F0
      have hh := m_here q8 d
      have D := P.2 F0
      have sk : isSk B v1957.toInt v15457'.toInt := by rw [a1]; exact hh.1
      have lt := (TXB.in d.1 (Int.le_trans a2 sk.1)).mpr (fun q => q9 (hh.2.trans q))
      exact ⟨F0, ⟨_, sk, lt⟩, in_F D.2.2 sk.1 lt d.1.2.1⟩
theorem lp_D {B : Int → Int} {f13 : (Nat → Int32)} {f14 : (Nat → Int32)} {f3 : (Nat → Int32)} {f_h0_tape_bytes : (Nat → Int32)} {f_y1_from : (Nat → Int32)} {f_y1_name : (Nat → Int32)} {f_y1_parent : (Nat → Int32)} {f_y1_radius : (Nat → Int32)} {f_y1_side : (Nat → Int32)} {f_y1_toolWidth : (Nat → Int32)} {h0_tape_length : Int32} {v10 : Int32} {v11 : Int32} {v7 : Int32} {v8 : Int32} {v9 : Int32} {v1949 : Int32} {fn1950 : (Nat → Int32)} {fn1951 : (Nat → Int32)} {fn1952 : (Nat → Int32)} {fn1953 : (Nat → Int32)} {fn1954 : (Nat → Int32)} {fn1955 : (Nat → Int32)} {fn1956 : (Nat → Int32)} {v1957 : Int32} {v1958 : Int32} {v1959 : Int32} {v1960 : Int32} {v1961 : Int32} {v1962 : Int32} {v1963 : Int32} {v1964 : Int32} {v1965 : Int32} {fn1966 : (Nat → Int32)} {fn1967 : (Nat → Int32)} {f14587' : (Nat → Int32)} {f14661' : (Nat → Int32)} {f_h0_ownLetters' : (Nat → Int32)} {f_h0_tape' : (Nat → Int32)} {g14594' : Int32} {h0_size' : Int32} {v14650' : Int32} {v14668' : Int32} {v14669' : Int32} {v14670' : Int32} {th : Int} (c : cTB f_h0_tape_bytes h0_tape_length B) (d : rTB f_h0_tape' h0_size' B) (ho : pOwn f_h0_ownLetters') (h0 : v14669'.toInt = 0 → (1 : Int32).toInt ≤ v14668'.toInt) (hE : PLP B h0_size'.toInt f_y1_parent f_y1_radius f_y1_name f_y1_side f_y1_from f13 f14 f_y1_toolWidth f3 f14661' f14587' v7.toInt v9.toInt v10.toInt (1 : Int32).toInt (0 : Int32).toInt (30 : Int32).toInt v11.toInt (0 : Int32).toInt th (1 : Int32).toInt g14594'.toInt (1 : Int32).toInt v14668'.toInt v14669'.toInt v14670'.toInt) (h : I_R_read_11_1 f13 f14 f3 f_h0_tape_bytes f_y1_from f_y1_name f_y1_parent f_y1_radius f_y1_side f_y1_toolWidth h0_tape_length v10 v11 v7 v8 v9 v1949 fn1950 fn1951 fn1952 fn1953 fn1954 fn1955 fn1956 v1957 v1958 v1959 v1960 v1961 v1962 v1963 v1964 v1965 fn1966 fn1967) : ∀ (v15337' : Int32) (fn15338' : (Nat → Int32)) (v15339' : Int32) (v15340' : Int32) (fn15341' : (Nat → Int32)) (v15342' : Int32) (v15343' : Int32) (v15344' : Int32) (v15345' : Int32), I_M_readsAll_119_3 f14587' f14661' f_h0_ownLetters' f_h0_tape' g14594' h0_size' v14650' v14668' v14669' v14670' v15337' fn15338' v15339' v15340' fn15341' v15342' v15343' v15344' v15345' → v15337'.toInt ≤ v1949.toInt → v15344'.toInt = 0 ∧ ∃ s : Int, isSk B v15342'.toInt s ∧ ¬ B s = -1 ∧ ¬ alB B (s - 1) ∧ (okW B s ∨ (¬ okW B s ∧ v1949.toInt = v15337'.toInt ∧ v1959.toInt = 1 ∧ v1960.toInt = s)) := by
  refine I_R_read_11_1.ind (Q_ := fun v1949 fn1950 fn1951 fn1952 fn1953 fn1954 fn1955 fn1956 v1957 v1958 v1959 v1960 v1961 v1962 v1963 v1964 v1965 fn1966 fn1967 => ∀ (v15337' : Int32) (fn15338' : (Nat → Int32)) (v15339' : Int32) (v15340' : Int32) (fn15341' : (Nat → Int32)) (v15342' : Int32) (v15343' : Int32) (v15344' : Int32) (v15345' : Int32), I_M_readsAll_119_3 f14587' f14661' f_h0_ownLetters' f_h0_tape' g14594' h0_size' v14650' v14668' v14669' v14670' v15337' fn15338' v15339' v15340' fn15341' v15342' v15343' v15344' v15345' → v15337'.toInt ≤ v1949.toInt → v15344'.toInt = 0 ∧ ∃ s : Int, isSk B v15342'.toInt s ∧ ¬ B s = -1 ∧ ¬ alB B (s - 1) ∧ (okW B s ∨ (¬ okW B s ∧ v1949.toInt = v15337'.toInt ∧ v1959.toInt = 1 ∧ v1960.toInt = s))) ?_ ?_ h
  · intros v15337' fn15338' v15339' v15340' fn15341' v15342' v15343' v15344' v15345' hM hk
    exact (no_d hk (by decide) (lp_M h0 hM).1).elim
  · intros v1949 fn1950 fn1951 fn1952 fn1953 fn1954 fn1955 fn1956 v1957 v1958 v1959 v1960 v1961 v1962 v1963 v1964 v1965 fn1966 fn1967 v2248 v2249 r2246 v2258 v2259 v2260 v2261 v2262 r2269 fn2363 fn2364 fn2365 fn2366 fn2367 fn2368 fn2369 v2370 v2371 v2372 v2373 fn2374 fn2375 v2376 v2377 v2378 v2379 v2380 v2395 v2396 v2397 v2398 v2399 z2405 hR ih p0 p1 p2 p3 p4 p5 p6 p7 p8 p9 p10 p11 p12 p13 p14 p15 p16 p17 p18 p19 p20 p21 p22 p23 p24 p25 p26 p27 p28 v15337' fn15338' v15339' v15340' fn15341' v15342' v15343' v15344' v15345' hM hk
    clear p5 p12 p26
    by_cases z : v15337'.toInt ≤ v1949.toInt
    · obtain ⟨w0, s, s1, s2, s4, s3⟩ := ih v15337' fn15338' v15339' v15340' fn15341' v15342' v15343' v15344' v15345' hM z
      refine ⟨w0, s, s1, s2, s4, .inl ?_⟩
      rcases s3 with s3 | ⟨_, _, f1, _⟩
      · exact s3
      · exact absurd (f1.symm.trans p1) (by decide)
    · have ek := le_c hk p28 z
      have P := lp_A c d ho h0 hE hR v15337' fn15338' v15339' v15340' fn15341' v15342' v15343' v15344' v15345' hM ek
      have F0 := p1
      have w0 := P.1.1.symm.trans F0
      obtain ⟨a1, a2, a3, a4⟩ := P.1.2.2 F0
      have hm := c_more p6 c
      have lm : v2248.toInt < h0_tape_length.toInt := by
        rcases hm.2.2 with ⟨_, a⟩ | ⟨a, _⟩
        · exact a
        · exact absurd a p7
      have nB := (TXB.in c.1 (Int.le_trans a2 hm.1.1)).mp lm
      have lz := (TXB.in d.1 (Int.le_trans a2 hm.1.1)).mpr nB
      have nal := (RC.sk P.1 F0 rfl hm.1 (Int.le_of_lt lz)).2.2
      refine ⟨w0, v2248.toInt, by rw [← a1]; exact hm.1, nB, nal, ?_⟩
      by_cases o : okW B v2248.toInt
      · exact .inl o
      · refine .inr ⟨o, ?_, ?_⟩
        · rw [p28]; exact ek.symm
        · have cw := c_word p13 c
          have et : v2259.toInt = v2248.toInt := isSk.uq cw.1 hm.1.self
          have ws := cw.2.1.st
          have ea : v2258.toInt = v2259.toInt := by
            rcases ws with ⟨a, _⟩ | ⟨_, a, b⟩
            · exact a
            · exact absurd ⟨by rw [← et]; exact a, by rw [← et]; exact b⟩ o
          have f1 : v2261.toInt = 1 ∧ v2262.toInt = v2259.toInt := by
            rcases cw.2.2.2 with ⟨_, ⟨a, _⟩ | ⟨_, a⟩⟩ | ⟨a, _⟩
            · exact absurd F0 a
            · exact a
            · exact absurd (.inl ea) a
          have n1 : ¬ v2261.toInt = 0 := fun z => absurd (f1.1.symm.trans z) (by decide)
          have fl := fz_line p16 n1
          have n2 : ¬ v2379.toInt = 0 := fun z => n1 (fl.1.symm.trans z)
          have fs := fz_R_semicolon p27 n2
          exact ⟨fs.1.trans (fl.1.trans f1.1), fs.2.trans (fl.2.trans (f1.2.trans et))⟩
