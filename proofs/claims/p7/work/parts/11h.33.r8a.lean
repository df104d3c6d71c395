theorem i_fill {f_y1 : (Nat → Int32)} {x2 : Int32} {v58 : Int32} {fn59 : (Nat → Int32)} (h : I_J_fill_10_5_1 f_y1 x2 v58 fn59)  : 0 ≤ v58.toInt ∧ ∀ j : Int, 0 ≤ j → j < v58.toInt → gG fn59 j = x2.toInt := by
  refine I_J_fill_10_5_1.ind (Q_ := fun v58 fn59 => 0 ≤ v58.toInt ∧ ∀ j : Int, 0 ≤ j → j < v58.toInt → gG fn59 j = x2.toInt) ?_ ?_ h
  · have e0_ : (0 : Int32).toInt = 0 := by decide
    exact ⟨by omega, fun j h0 h1 => absurd h1 (by omega)⟩
  · intro v58 fn59 f74 z76 hp ih p0 p1 p2
    obtain ⟨i0, i1⟩ := ih
    refine ⟨by omega, fun j j0 j1 => ?_⟩
    by_cases q : j = v58.toInt
    · rw [q, gU_eq p1 rfl]
      skip
    · rw [gU_ne p1 rfl ⟨j0, i0, q⟩]; exact i1 j j0 (by omega)
theorem i_z1 {f_h0_read : (Nat → Int32)} {v7795 : Int32} {fn7796 : (Nat → Int32)} (h : I_M_readsAll_2_1 f_h0_read v7795 fn7796)  : 0 ≤ v7795.toInt ∧ ∀ j : Int, 0 ≤ j → j < v7795.toInt → gG fn7796 j = 0 := by
  refine I_M_readsAll_2_1.ind (Q_ := fun v7795 fn7796 => 0 ≤ v7795.toInt ∧ ∀ j : Int, 0 ≤ j → j < v7795.toInt → gG fn7796 j = 0) ?_ ?_ h
  · have e0_ : (0 : Int32).toInt = 0 := by decide
    exact ⟨by omega, fun j h0 h1 => absurd h1 (by omega)⟩
  · intro v7795 fn7796 f15545 z15548 hp ih p0 p1 p2
    obtain ⟨i0, i1⟩ := ih
    refine ⟨by omega, fun j j0 j1 => ?_⟩
    by_cases q : j = v7795.toInt
    · rw [q, gU_eq p1 rfl]
      decide
    · rw [gU_ne p1 rfl ⟨j0, i0, q⟩]; exact i1 j j0 (by omega)
theorem i_z2 {f_h0_readNow : (Nat → Int32)} {v13626 : Int32} {fn13627 : (Nat → Int32)} (h : I_M_readsAll_23_2 f_h0_readNow v13626 fn13627)  : 0 ≤ v13626.toInt ∧ ∀ j : Int, 0 ≤ j → j < v13626.toInt → (fun x : Int => (j < 11 ∧ x = 0) ∨ (11 ≤ j ∧ x = -1)) (gG fn13627 j) := by
  refine I_M_readsAll_23_2.ind (Q_ := fun v13626 fn13627 => 0 ≤ v13626.toInt ∧ ∀ j : Int, 0 ≤ j → j < v13626.toInt → (fun x : Int => (j < 11 ∧ x = 0) ∨ (11 ≤ j ∧ x = -1)) (gG fn13627 j)) ?_ ?_ ?_ h
  · have e0_ : (0 : Int32).toInt = 0 := by decide
    exact ⟨by omega, fun j h0 h1 => absurd h1 (by omega)⟩
  · intro v13626 fn13627 f15533 z15536 hp ih p0 p1 p2 p3
    obtain ⟨i0, i1⟩ := ih
    refine ⟨by omega, fun j j0 j1 => ?_⟩
    by_cases q : j = v13626.toInt
    · rw [q, gU_eq p2 rfl]
      exact .inr ⟨by omega, by decide⟩
    · rw [gU_ne p2 rfl ⟨j0, i0, q⟩]; exact i1 j j0 (by omega)
  · intro v13626 fn13627 f15539 z15542 hp ih p0 p1 p2 p3
    obtain ⟨i0, i1⟩ := ih
    refine ⟨by omega, fun j j0 j1 => ?_⟩
    by_cases q : j = v13626.toInt
    · rw [q, gU_eq p2 rfl]
      exact .inl ⟨by omega, by decide⟩
    · rw [gU_ne p2 rfl ⟨j0, i0, q⟩]; exact i1 j j0 (by omega)
theorem c_begin {f_y1_told o_u_y1_told : Nat → Int32} (h : S_R_begin f_y1_told o_u_y1_told) : ∀ r : Int, 0 ≤ r → r ≤ 9 → gG o_u_y1_told r = -1 := by
  rcases h with ⟨f3, p0, e0⟩ | h
  · rcases p0 with ⟨f4, p1, e1⟩ | p0
    · rcases p1 with ⟨v, fn, q0, q1, q2, e2⟩ | p1
      · have k := i_fill q0
        have em : (-1 : Int32).toInt = -1 := by decide
        intro r r0 r1
        rw [e0, e1, e2]
        exact (k.2 r r0 (by omega)).trans em
      · exact p1.elim
    · exact p0.elim
  · exact h.elim
theorem RC.sk {B : Int → Int} {n a te F P a2 W WA s : Int} (r : RC B n a te F P a2 W WA) (hF : F = 0) (te1 : te = -1) (k : isSk B a s) (hs : s ≤ n) : RC B n s (-1) F P s W WA ∧ 0 ≤ a ∧ ¬ alB B (s - 1) := by
  obtain ⟨r1, r2, r3⟩ := r
  obtain ⟨a1, a2', a3, a4⟩ := r3 hF
  have k1 := k.1
  have al : ¬ alB B (s - 1) := by
    intro q
    have := (adj a4 a2' k).mpr q
    omega
  exact ⟨⟨r1, r2, fun _ => ⟨rfl, by omega, hs, .inr ⟨rfl, al⟩⟩⟩, a2', al⟩
theorem TXB.in {B : Int → Int} {n s : Int} (h : TXB B n) (h0 : 0 ≤ s) : s < n ↔ ¬ B s = -1 := by
  constructor
  · intro q; have := (h.2.2.2.2 s h0 q).1; omega
  · intro q
    rcases Int.lt_or_le s n with z | z
    · exact z
    · exact absurd (h.2.2.2.1 s z) q
theorem isSk.self {B : Int → Int} {a s : Int} (k : isSk B a s) : isSk B s s := ⟨Int.le_refl _, fun p h1 h2 => absurd h2 (by omega), k.2.2⟩
theorem sh_1 {a a2 : Int} (h : a < a2) (h0 : 0 ≤ a) : 1 ≤ a2 := by omega
theorem pw_sheet {B : Int → Int} {h0_at : Int32} {h0_tokenEnd : Int32} {h0_fault : Int32} {h0_place : Int32} {h0_tape_length : Int32} {f_h0_tape_bytes : (Nat → Int32)} {h0_into_statements : Int32} {f_h0_into_width : (Nat → Int32)} {f_h0_into_height : (Nat → Int32)} {o_u_h0_at : Int32} {o_u_h0_tokenStart : Int32} {o_u_h0_fault : Int32} {o_u_h0_place : Int32} {o_u_h0_into_statements : Int32} {o_u_h0_into_thick : Int32} {o_u_h0_into_width : (Nat → Int32)} {o_u_h0_into_height : (Nat → Int32)} {h0_size' a0 f0 w0 wa0 a1 f1 w1 wa1 a2 f2 w2 wa2 a3 f3 w3 wa3 a4 f4 w4 wa4 a5 w5 wa5 q1 q2 q3 : Int32} {tp ol : Nat → Int32} (c : cTB f_h0_tape_bytes h0_tape_length B) (d : rTB tp h0_size' B) (h : S_R_readSheet h0_at h0_tokenEnd h0_fault h0_place h0_tape_length f_h0_tape_bytes h0_into_statements f_h0_into_width f_h0_into_height o_u_h0_at o_u_h0_tokenStart o_u_h0_fault o_u_h0_place o_u_h0_into_statements o_u_h0_into_thick o_u_h0_into_width o_u_h0_into_height) (m0 : S_M_must (0 : Int32) h0_size' a0 f0 w0 wa0 tp ol a1 f1 w1 wa1) (m1 : S_M_after (1 : Int32) (1 : Int32) (9 : Int32) h0_size' a1 f1 w1 wa1 tp ol a2 f2 w2 wa2 q1) (m2 : S_M_after (2 : Int32) (1 : Int32) (60 : Int32) h0_size' a2 f2 w2 wa2 tp ol a3 f3 w3 wa3 q2) (m3 : S_M_number (1 : Int32) (60 : Int32) h0_size' a3 f3 w3 wa3 tp a4 f4 w4 wa4 q3) (m4 : S_M_endsWell h0_size' a4 w4 wa4 tp a5 w5 wa5) (ho : pOwn ol) (r : RC B h0_size'.toInt h0_at.toInt h0_tokenEnd.toInt h0_fault.toInt h0_place.toInt a0.toInt w0.toInt wa0.toInt) : RC B h0_size'.toInt o_u_h0_at.toInt (-1) o_u_h0_fault.toInt o_u_h0_place.toInt a5.toInt w5.toInt wa5.toInt ∧ (o_u_h0_fault.toInt = 0 → o_u_h0_into_statements = h0_into_statements + 1 ∧ o_u_h0_into_thick.toInt = q1.toInt ∧ gG o_u_h0_into_width 0 = q2.toInt ∧ gG o_u_h0_into_height 0 = q3.toInt ∧ 1 ≤ o_u_h0_at.toInt) := by
  rcases h with ⟨v3, v4, v5, v6, v7, v16, v17, v18, v19, v20, v29, v30, v31, v32, v33, r27, v43, v44, v45, v46, v47, v56, v57, v58, v59, v60, r54, f68, v72, v73, v74, v75, v76, r70, f84, v88, v89, v90, v91, v92, p0, p1, p2, p3, -, p5, p6, p7, p8, p9, -, p11, p12, p13, p14, p15, -, -, p18, p19, p20, p21, p22, -, p24, p25, p26, p27, p28, -, -, p31, p32, p33, p34, p35, p36, -, -, p39, p40, p41, p42, p43, -, p45, e0, e1, e2, e3, e4, e5, e6, e7⟩ | h
  · have b0 := pw_kw_0 c d p5 m0 r ho (by decide)
    have b1 := pw_after_1 c d p11 p18 m1 b0.1 ho (by decide) ⟨rfl, rfl⟩
    have b2 := pw_after_2 c d p24 p31 m2 b1.1 ho (by decide) ⟨rfl, rfl⟩
    have b3 := pw_num c d p39 m3 b2.1 ⟨rfl, rfl⟩
    have b4 := pw_semi c d p45 m4 b3.1
    rw [e0, e2, e3, e5, e6, e7]
    refine ⟨b4.1, fun z => ?_⟩
    have z4 := b4.2 z
    have z3 := b3.2 z4.1
    have z2 := b2.2 z3.1
    have z1 := b1.2 z2.1
    exact ⟨by rw [xie e4]; exact z4.2.1, z1.2, by rw [gU_eq p32 (by decide)]; exact z2.2, by rw [gU_eq p40 (by decide)]; exact z3.2.1, sh_1 z4.2.2 (b3.1.2.2 z4.1).2.1⟩
  · exact h.elim
