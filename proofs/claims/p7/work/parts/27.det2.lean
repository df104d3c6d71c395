theorem parb {b z : Int32} (hb : 1 ≤ b.toInt ∧ b.toInt ≤ 8) (h : 0 ≤ z.toInt ∧ z.toInt ≤ 8 ∧ (z.toInt = 0 ∨ z.toInt < ((13 : Int32) + b).toInt - 13)) : (0 ≤ z.toInt ∧ z.toInt ≤ 8) ∧ (z.toInt = 0 ∨ z.toInt < b.toInt) := by
  have e : ((13 : Int32) + b).toInt = 13 + b.toInt := za rfl (by decide) rfl (by omega)
  rw [e] at h; omega
theorem r3c {r : Int32} (h : 0 ≤ r.toInt ∧ r.toInt ≤ 2) : r = 0 ∨ r = 1 ∨ r = 2 := by
  rcases (show r.toInt = (0 : Int32).toInt ∨ r.toInt = (1 : Int32).toInt ∨ r.toInt = (2 : Int32).toInt by
    have e0 : (0 : Int32).toInt = 0 := by decide
    have e1 : (1 : Int32).toInt = 1 := by decide
    have e2 : (2 : Int32).toInt = 2 := by decide
    omega) with q | q | q
  · exact .inl (i32e q)
  · exact .inr (.inl (i32e q))
  · exact .inr (.inr (i32e q))
theorem zq31 {r : Int32} (h : 0 ≤ r.toInt ∧ r.toInt ≤ 2) : 0 ≤ (r + 1 - (r + 1) / 3 * 3).toInt ∧ (r + 1 - (r + 1) / 3 * 3).toInt ≤ 2 := by
  rcases r3c h with rfl | rfl | rfl <;> decide
theorem zq32 {r : Int32} (h : 0 ≤ r.toInt ∧ r.toInt ≤ 2) : 0 ≤ (r + 2 - (r + 2) / 3 * 3).toInt ∧ (r + 2 - (r + 2) / 3 * 3).toInt ≤ 2 := by
  rcases r3c h with rfl | rfl | rfl <;> decide
theorem zq33 {r q : Int32} (h : 0 ≤ r.toInt ∧ r.toInt ≤ 2) (g : 0 ≤ q.toInt ∧ q.toInt ≤ 2) (n : ¬ (r.toInt = q.toInt)) : 0 ≤ ((3 : Int32) - r - q).toInt ∧ ((3 : Int32) - r - q).toInt ≤ 2 := by
  rcases r3c h with rfl | rfl | rfl <;> rcases r3c g with rfl | rfl | rfl <;> first | exact absurd rfl n | decide

theorem d_laysPunch {G1 : Nat → Prop} {G3 : Nat → Prop} {b : Int32} {X Y N T C W L H X2 Y2 N2 C2 L2 H2 X' Y' N' C' L' H' X2' Y2' N2' C2' L2' H2' : Nat → Int32} (h : S_laysPunch b X Y N T C W L H X' Y' N' C' L' H') (h' : S_laysPunch b X2 Y2 N2 T C2 W L2 H2 X2' Y2' N2' C2' L2' H2') (hb : 1 ≤ b.toInt ∧ b.toInt ≤ 8) (aX : Ag G1 X X2) (aY : Ag G1 Y Y2) (aN : Ag G1 N N2) (aC : Ag G3 C C2) (aL : Ag G3 L L2) (aH : Ag G3 H H2) (hpar : ∀ p : Int32, 0 ≤ p.toInt → (p.toInt = 0 ∨ p.toInt < b.toInt) → G1 p.toNatClampNeg ∧ ∀ k, R3 p k → G3 k) : Ag (fun k => G1 k ∨ k = (9 : Int32).toNatClampNeg) X' X2' ∧ Ag (fun k => G1 k ∨ k = (9 : Int32).toNatClampNeg) Y' Y2' ∧ Ag (fun k => G1 k ∨ k = (9 : Int32).toNatClampNeg) N' N2' ∧ Ag (fun k => G3 k ∨ R3 9 k) C' C2' ∧ Ag (fun k => G3 k ∨ R3 9 k) L' L2' ∧ Ag (fun k => G3 k ∨ R3 9 k) H' H2' := by
  refine h _ ⟨?_, ?_, ?_, ?_, trivial⟩
  · intros z1 z4 z7 z10 z13 f19 z22 f26 z30 z33 z37 z41 f44 z50 f54 z61 z64 z66 f70 f71 p0_0 p1_0 p1_1 p2_0 p3_0 p3_1 p4_0 p5_0 p6_0 p7_0 p7_1 p7_2 p8_0 p9_0 p10_0 p10_1 p11_0 p12_0 p12_1 p12_2 p13_0 p14_0 p15_0 p15_1 p15_2 p16_0 p17_0 p18_0 p19_0 p20_0 e0 e1 e2 e3 e4 e5
    subst p0_0
    subst p1_0
    subst p2_0
    subst p3_0
    subst p4_0
    subst p9_0
    subst p10_0
    subst p13_0
    subst p17_0
    subst p18_0
    subst p19_0
    subst e0
    subst e1
    subst e2
    subst e3
    subst e4
    subst e5
    refine h' _ ⟨?_, ?_, ?_, ?_, trivial⟩
    · intros z1' z4' z7' z10' z13' f19' z22' f26' z30' z33' z37' z41' f44' z50' f54' z61' z64' z66' f70' f71' q0_0 q1_0 q1_1 q2_0 q3_0 q3_1 q4_0 q5_0 q6_0 q7_0 q7_1 q7_2 q8_0 q9_0 q10_0 q10_1 q11_0 q12_0 q12_1 q12_2 q13_0 q14_0 q15_0 q15_1 q15_2 q16_0 q17_0 q18_0 q19_0 q20_0 g0 g1 g2 g3 g4 g5
      subst q0_0
      subst q1_0
      subst q2_0
      subst q3_0
      subst q4_0
      subst q9_0
      subst q10_0
      subst q13_0
      subst q17_0
      subst q18_0
      subst q19_0
      subst g0
      subst g1
      subst g2
      subst g3
      subst g4
      subst g5
      have hz := parb hb p1_1
      obtain ⟨gp, g3⟩ := hpar _ hz.1.1 hz.2
      have k6 := d_goesToSide p6_0 q6_0 (by decide) hz.1 aX aY aC gp g3
      obtain rfl := aY.ld gp p7_0 q7_0
      have g8 := aX.st p8_0 q8_0 rfl
      obtain rfl := aN.ld gp p12_0 q12_0
      have g14 := aY.st p14_0 q14_0 rfl
      obtain rfl := g8.ld (.inl gp) p15_0 q15_0
      have g16 := aN.st p16_0 q16_0 rfl
      have k20 := d_ends p20_0 q20_0 (by decide) (k6.mono (fun _ h9 => .inr h9)) (g8.mono (fun _ h9 => .inr h9)) (g14.mono (fun _ h9 => .inr h9)) aL aH
      exact ⟨g8, g14, g16, k6, k20.1, k20.2⟩
    · intros z1' z4' z7' z10' z13' f19' z22' f26' z30' z33' z73' f77' z83' f87' z94' z97' z99' f103' f104' q0_0 q1_0 q1_1 q2_0 q3_0 q3_1 q4_0 q5_0 q6_0 q7_0 q7_1 q7_2 q8_0 q9_0 q10_0 q10_1 q11_0 q12_0 q12_1 q12_2 q13_0 q14_0 q14_1 q14_2 q15_0 q16_0 q17_0 q18_0 q19_0 g0 g1 g2 g3 g4 g5
      subst q0_0
      subst q1_0
      subst q2_0
      subst q3_0
      subst q4_0
      subst q9_0
      subst q10_0
      subst q16_0
      subst q17_0
      subst q18_0
      subst g0
      subst g1
      subst g2
      subst g3
      subst g4
      subst g5
      have hz := parb hb p1_1
      obtain ⟨gp, g3⟩ := hpar _ hz.1.1 hz.2
      have k6 := d_goesToSide p6_0 q6_0 (by decide) hz.1 aX aY aC gp g3
      obtain rfl := aY.ld gp p7_0 q7_0
      have g8 := aX.st p8_0 q8_0 rfl
      exact absurd q11_0 p11_0
    · intros z1' z4' z7' z10' z13' f108' z111' f115' z119' z122' z126' z130' f133' z139' f143' z150' z153' z155' f159' f160' q0_0 q1_0 q1_1 q2_0 q3_0 q3_1 q4_0 q5_0 q6_0 q7_0 q7_1 q7_2 q8_0 q9_0 q10_0 q10_1 q11_0 q12_0 q12_1 q12_2 q13_0 q14_0 q15_0 q15_1 q15_2 q16_0 q17_0 q18_0 q19_0 q20_0 g0 g1 g2 g3 g4 g5
      subst q0_0
      subst q1_0
      subst q2_0
      subst q3_0
      subst q4_0
      exact absurd q5_0 p5_0
    · intros z1' z4' z7' z10' z13' f108' z111' f115' z119' z122' z162' f166' z172' f176' z183' z186' z188' f192' f193' q0_0 q1_0 q1_1 q2_0 q3_0 q3_1 q4_0 q5_0 q6_0 q7_0 q7_1 q7_2 q8_0 q9_0 q10_0 q10_1 q11_0 q12_0 q12_1 q12_2 q13_0 q14_0 q14_1 q14_2 q15_0 q16_0 q17_0 q18_0 q19_0 g0 g1 g2 g3 g4 g5
      subst q0_0
      subst q1_0
      subst q2_0
      subst q3_0
      subst q4_0
      exact absurd q5_0 p5_0
  · intros z1 z4 z7 z10 z13 f19 z22 f26 z30 z33 z73 f77 z83 f87 z94 z97 z99 f103 f104 p0_0 p1_0 p1_1 p2_0 p3_0 p3_1 p4_0 p5_0 p6_0 p7_0 p7_1 p7_2 p8_0 p9_0 p10_0 p10_1 p11_0 p12_0 p12_1 p12_2 p13_0 p14_0 p14_1 p14_2 p15_0 p16_0 p17_0 p18_0 p19_0 e0 e1 e2 e3 e4 e5
    subst p0_0
    subst p1_0
    subst p2_0
    subst p3_0
    subst p4_0
    subst p9_0
    subst p10_0
    subst p16_0
    subst p17_0
    subst p18_0
    subst e0
    subst e1
    subst e2
    subst e3
    subst e4
    subst e5
    refine h' _ ⟨?_, ?_, ?_, ?_, trivial⟩
    · intros z1' z4' z7' z10' z13' f19' z22' f26' z30' z33' z37' z41' f44' z50' f54' z61' z64' z66' f70' f71' q0_0 q1_0 q1_1 q2_0 q3_0 q3_1 q4_0 q5_0 q6_0 q7_0 q7_1 q7_2 q8_0 q9_0 q10_0 q10_1 q11_0 q12_0 q12_1 q12_2 q13_0 q14_0 q15_0 q15_1 q15_2 q16_0 q17_0 q18_0 q19_0 q20_0 g0 g1 g2 g3 g4 g5
      subst q0_0
      subst q1_0
      subst q2_0
      subst q3_0
      subst q4_0
      subst q9_0
      subst q10_0
      subst q13_0
      subst q17_0
      subst q18_0
      subst q19_0
      subst g0
      subst g1
      subst g2
      subst g3
      subst g4
      subst g5
      have hz := parb hb p1_1
      obtain ⟨gp, g3⟩ := hpar _ hz.1.1 hz.2
      have k6 := d_goesToSide p6_0 q6_0 (by decide) hz.1 aX aY aC gp g3
      obtain rfl := aY.ld gp p7_0 q7_0
      have g8 := aX.st p8_0 q8_0 rfl
      exact absurd p11_0 q11_0
    · intros z1' z4' z7' z10' z13' f19' z22' f26' z30' z33' z73' f77' z83' f87' z94' z97' z99' f103' f104' q0_0 q1_0 q1_1 q2_0 q3_0 q3_1 q4_0 q5_0 q6_0 q7_0 q7_1 q7_2 q8_0 q9_0 q10_0 q10_1 q11_0 q12_0 q12_1 q12_2 q13_0 q14_0 q14_1 q14_2 q15_0 q16_0 q17_0 q18_0 q19_0 g0 g1 g2 g3 g4 g5
      subst q0_0
      subst q1_0
      subst q2_0
      subst q3_0
      subst q4_0
      subst q9_0
      subst q10_0
      subst q16_0
      subst q17_0
      subst q18_0
      subst g0
      subst g1
      subst g2
      subst g3
      subst g4
      subst g5
      have hz := parb hb p1_1
      obtain ⟨gp, g3⟩ := hpar _ hz.1.1 hz.2
      have k6 := d_goesToSide p6_0 q6_0 (by decide) hz.1 aX aY aC gp g3
      obtain rfl := aY.ld gp p7_0 q7_0
      have g8 := aX.st p8_0 q8_0 rfl
      obtain rfl := aN.ld gp p12_0 q12_0
      have g13 := aY.st p13_0 q13_0 rfl
      obtain rfl := g8.ld (.inl gp) p14_0 q14_0
      have g15 := aN.st p15_0 q15_0 rfl
      have k19 := d_ends p19_0 q19_0 (by decide) (k6.mono (fun _ h9 => .inr h9)) (g8.mono (fun _ h9 => .inr h9)) (g13.mono (fun _ h9 => .inr h9)) aL aH
      exact ⟨g8, g13, g15, k6, k19.1, k19.2⟩
    · intros z1' z4' z7' z10' z13' f108' z111' f115' z119' z122' z126' z130' f133' z139' f143' z150' z153' z155' f159' f160' q0_0 q1_0 q1_1 q2_0 q3_0 q3_1 q4_0 q5_0 q6_0 q7_0 q7_1 q7_2 q8_0 q9_0 q10_0 q10_1 q11_0 q12_0 q12_1 q12_2 q13_0 q14_0 q15_0 q15_1 q15_2 q16_0 q17_0 q18_0 q19_0 q20_0 g0 g1 g2 g3 g4 g5
      subst q0_0
      subst q1_0
      subst q2_0
      subst q3_0
      subst q4_0
      exact absurd q5_0 p5_0
    · intros z1' z4' z7' z10' z13' f108' z111' f115' z119' z122' z162' f166' z172' f176' z183' z186' z188' f192' f193' q0_0 q1_0 q1_1 q2_0 q3_0 q3_1 q4_0 q5_0 q6_0 q7_0 q7_1 q7_2 q8_0 q9_0 q10_0 q10_1 q11_0 q12_0 q12_1 q12_2 q13_0 q14_0 q14_1 q14_2 q15_0 q16_0 q17_0 q18_0 q19_0 g0 g1 g2 g3 g4 g5
      subst q0_0
      subst q1_0
      subst q2_0
      subst q3_0
      subst q4_0
      exact absurd q5_0 p5_0
  · intros z1 z4 z7 z10 z13 f108 z111 f115 z119 z122 z126 z130 f133 z139 f143 z150 z153 z155 f159 f160 p0_0 p1_0 p1_1 p2_0 p3_0 p3_1 p4_0 p5_0 p6_0 p7_0 p7_1 p7_2 p8_0 p9_0 p10_0 p10_1 p11_0 p12_0 p12_1 p12_2 p13_0 p14_0 p15_0 p15_1 p15_2 p16_0 p17_0 p18_0 p19_0 p20_0 e0 e1 e2 e3 e4 e5
    subst p0_0
    subst p1_0
    subst p2_0
    subst p3_0
    subst p4_0
    subst p9_0
    subst p10_0
    subst p13_0
    subst p17_0
    subst p18_0
    subst p19_0
    subst e0
    subst e1
    subst e2
    subst e3
    subst e4
    subst e5
    refine h' _ ⟨?_, ?_, ?_, ?_, trivial⟩
    · intros z1' z4' z7' z10' z13' f19' z22' f26' z30' z33' z37' z41' f44' z50' f54' z61' z64' z66' f70' f71' q0_0 q1_0 q1_1 q2_0 q3_0 q3_1 q4_0 q5_0 q6_0 q7_0 q7_1 q7_2 q8_0 q9_0 q10_0 q10_1 q11_0 q12_0 q12_1 q12_2 q13_0 q14_0 q15_0 q15_1 q15_2 q16_0 q17_0 q18_0 q19_0 q20_0 g0 g1 g2 g3 g4 g5
      subst q0_0
      subst q1_0
      subst q2_0
      subst q3_0
      subst q4_0
      exact absurd p5_0 q5_0
    · intros z1' z4' z7' z10' z13' f19' z22' f26' z30' z33' z73' f77' z83' f87' z94' z97' z99' f103' f104' q0_0 q1_0 q1_1 q2_0 q3_0 q3_1 q4_0 q5_0 q6_0 q7_0 q7_1 q7_2 q8_0 q9_0 q10_0 q10_1 q11_0 q12_0 q12_1 q12_2 q13_0 q14_0 q14_1 q14_2 q15_0 q16_0 q17_0 q18_0 q19_0 g0 g1 g2 g3 g4 g5
      subst q0_0
      subst q1_0
      subst q2_0
      subst q3_0
      subst q4_0
      exact absurd p5_0 q5_0
    · intros z1' z4' z7' z10' z13' f108' z111' f115' z119' z122' z126' z130' f133' z139' f143' z150' z153' z155' f159' f160' q0_0 q1_0 q1_1 q2_0 q3_0 q3_1 q4_0 q5_0 q6_0 q7_0 q7_1 q7_2 q8_0 q9_0 q10_0 q10_1 q11_0 q12_0 q12_1 q12_2 q13_0 q14_0 q15_0 q15_1 q15_2 q16_0 q17_0 q18_0 q19_0 q20_0 g0 g1 g2 g3 g4 g5
      subst q0_0
      subst q1_0
      subst q2_0
      subst q3_0
      subst q4_0
      subst q9_0
      subst q10_0
      subst q13_0
      subst q17_0
      subst q18_0
      subst q19_0
      subst g0
      subst g1
      subst g2
      subst g3
      subst g4
      subst g5
      have hz := parb hb p1_1
      obtain ⟨gp, g3⟩ := hpar _ hz.1.1 hz.2
      have k6 := d_goesToSide p6_0 q6_0 (by decide) hz.1 aX aY aC gp g3
      obtain rfl := aX.ld gp p7_0 q7_0
      have g8 := aX.st p8_0 q8_0 rfl
      obtain rfl := aN.ld gp p12_0 q12_0
      have g14 := aY.st p14_0 q14_0 rfl
      obtain rfl := g14.ld (.inl gp) p15_0 q15_0
      have g16 := aN.st p16_0 q16_0 rfl
      have k20 := d_ends p20_0 q20_0 (by decide) (k6.mono (fun _ h9 => .inr h9)) (g8.mono (fun _ h9 => .inr h9)) (g14.mono (fun _ h9 => .inr h9)) aL aH
      exact ⟨g8, g14, g16, k6, k20.1, k20.2⟩
    · intros z1' z4' z7' z10' z13' f108' z111' f115' z119' z122' z162' f166' z172' f176' z183' z186' z188' f192' f193' q0_0 q1_0 q1_1 q2_0 q3_0 q3_1 q4_0 q5_0 q6_0 q7_0 q7_1 q7_2 q8_0 q9_0 q10_0 q10_1 q11_0 q12_0 q12_1 q12_2 q13_0 q14_0 q14_1 q14_2 q15_0 q16_0 q17_0 q18_0 q19_0 g0 g1 g2 g3 g4 g5
      subst q0_0
      subst q1_0
      subst q2_0
      subst q3_0
      subst q4_0
      subst q9_0
      subst q10_0
      subst q16_0
      subst q17_0
      subst q18_0
      subst g0
      subst g1
      subst g2
      subst g3
      subst g4
      subst g5
      have hz := parb hb p1_1
      obtain ⟨gp, g3⟩ := hpar _ hz.1.1 hz.2
      have k6 := d_goesToSide p6_0 q6_0 (by decide) hz.1 aX aY aC gp g3
      obtain rfl := aX.ld gp p7_0 q7_0
      have g8 := aX.st p8_0 q8_0 rfl
      exact absurd q11_0 p11_0
  · intros z1 z4 z7 z10 z13 f108 z111 f115 z119 z122 z162 f166 z172 f176 z183 z186 z188 f192 f193 p0_0 p1_0 p1_1 p2_0 p3_0 p3_1 p4_0 p5_0 p6_0 p7_0 p7_1 p7_2 p8_0 p9_0 p10_0 p10_1 p11_0 p12_0 p12_1 p12_2 p13_0 p14_0 p14_1 p14_2 p15_0 p16_0 p17_0 p18_0 p19_0 e0 e1 e2 e3 e4 e5
    subst p0_0
    subst p1_0
    subst p2_0
    subst p3_0
    subst p4_0
    subst p9_0
    subst p10_0
    subst p16_0
    subst p17_0
    subst p18_0
    subst e0
    subst e1
    subst e2
    subst e3
    subst e4
    subst e5
    refine h' _ ⟨?_, ?_, ?_, ?_, trivial⟩
    · intros z1' z4' z7' z10' z13' f19' z22' f26' z30' z33' z37' z41' f44' z50' f54' z61' z64' z66' f70' f71' q0_0 q1_0 q1_1 q2_0 q3_0 q3_1 q4_0 q5_0 q6_0 q7_0 q7_1 q7_2 q8_0 q9_0 q10_0 q10_1 q11_0 q12_0 q12_1 q12_2 q13_0 q14_0 q15_0 q15_1 q15_2 q16_0 q17_0 q18_0 q19_0 q20_0 g0 g1 g2 g3 g4 g5
      subst q0_0
      subst q1_0
      subst q2_0
      subst q3_0
      subst q4_0
      exact absurd p5_0 q5_0
    · intros z1' z4' z7' z10' z13' f19' z22' f26' z30' z33' z73' f77' z83' f87' z94' z97' z99' f103' f104' q0_0 q1_0 q1_1 q2_0 q3_0 q3_1 q4_0 q5_0 q6_0 q7_0 q7_1 q7_2 q8_0 q9_0 q10_0 q10_1 q11_0 q12_0 q12_1 q12_2 q13_0 q14_0 q14_1 q14_2 q15_0 q16_0 q17_0 q18_0 q19_0 g0 g1 g2 g3 g4 g5
      subst q0_0
      subst q1_0
      subst q2_0
      subst q3_0
      subst q4_0
      exact absurd p5_0 q5_0
    · intros z1' z4' z7' z10' z13' f108' z111' f115' z119' z122' z126' z130' f133' z139' f143' z150' z153' z155' f159' f160' q0_0 q1_0 q1_1 q2_0 q3_0 q3_1 q4_0 q5_0 q6_0 q7_0 q7_1 q7_2 q8_0 q9_0 q10_0 q10_1 q11_0 q12_0 q12_1 q12_2 q13_0 q14_0 q15_0 q15_1 q15_2 q16_0 q17_0 q18_0 q19_0 q20_0 g0 g1 g2 g3 g4 g5
      subst q0_0
      subst q1_0
      subst q2_0
      subst q3_0
      subst q4_0
      subst q9_0
      subst q10_0
      subst q13_0
      subst q17_0
      subst q18_0
      subst q19_0
      subst g0
      subst g1
      subst g2
      subst g3
      subst g4
      subst g5
      have hz := parb hb p1_1
      obtain ⟨gp, g3⟩ := hpar _ hz.1.1 hz.2
      have k6 := d_goesToSide p6_0 q6_0 (by decide) hz.1 aX aY aC gp g3
      obtain rfl := aX.ld gp p7_0 q7_0
      have g8 := aX.st p8_0 q8_0 rfl
      exact absurd p11_0 q11_0
    · intros z1' z4' z7' z10' z13' f108' z111' f115' z119' z122' z162' f166' z172' f176' z183' z186' z188' f192' f193' q0_0 q1_0 q1_1 q2_0 q3_0 q3_1 q4_0 q5_0 q6_0 q7_0 q7_1 q7_2 q8_0 q9_0 q10_0 q10_1 q11_0 q12_0 q12_1 q12_2 q13_0 q14_0 q14_1 q14_2 q15_0 q16_0 q17_0 q18_0 q19_0 g0 g1 g2 g3 g4 g5
      subst q0_0
      subst q1_0
      subst q2_0
      subst q3_0
      subst q4_0
      subst q9_0
      subst q10_0
      subst q16_0
      subst q17_0
      subst q18_0
      subst g0
      subst g1
      subst g2
      subst g3
      subst g4
      subst g5
      have hz := parb hb p1_1
      obtain ⟨gp, g3⟩ := hpar _ hz.1.1 hz.2
      have k6 := d_goesToSide p6_0 q6_0 (by decide) hz.1 aX aY aC gp g3
      obtain rfl := aX.ld gp p7_0 q7_0
      have g8 := aX.st p8_0 q8_0 rfl
      obtain rfl := aN.ld gp p12_0 q12_0
      have g13 := aY.st p13_0 q13_0 rfl
      obtain rfl := g13.ld (.inl gp) p14_0 q14_0
      have g15 := aN.st p15_0 q15_0 rfl
      have k19 := d_ends p19_0 q19_0 (by decide) (k6.mono (fun _ h9 => .inr h9)) (g8.mono (fun _ h9 => .inr h9)) (g13.mono (fun _ h9 => .inr h9)) aL aH
      exact ⟨g8, g13, g15, k6, k19.1, k19.2⟩
theorem d_axisOf {f r r' : Int32} {N N2 : Nat → Int32} (h : S_axisOf f N r) (h' : S_axisOf f N2 r') (aN : Ag (fun k => k = f.toNatClampNeg) N N2) : r = r' := by
  rcases h with ⟨z1, z6, z11, p0_0, p0_1, p0_2, p1_0, p2_0, p2_1, p2_2, rfl, rfl⟩ | ⟨z1, z14, z19, z22, p0_0, p0_1, p0_2, p1_0, p2_0, p2_1, p2_2, rfl, rfl, rfl⟩ | h
  · rcases h' with ⟨z1', z6', z11', q0_0, q0_1, q0_2, q1_0, q2_0, q2_1, q2_2, rfl, rfl⟩ | ⟨z1', z14', z19', z22', q0_0, q0_1, q0_2, q1_0, q2_0, q2_1, q2_2, rfl, rfl, rfl⟩ | h'
    · skip
      obtain rfl := aN.ld rfl p0_0 q0_0
      obtain rfl := aN.ld rfl p2_0 q2_0
      rfl
    · skip
      obtain rfl := aN.ld rfl p0_0 q0_0
      exact absurd p1_0 q1_0
    · exact h'.elim
  · rcases h' with ⟨z1', z6', z11', q0_0, q0_1, q0_2, q1_0, q2_0, q2_1, q2_2, rfl, rfl⟩ | ⟨z1', z14', z19', z22', q0_0, q0_1, q0_2, q1_0, q2_0, q2_1, q2_2, rfl, rfl, rfl⟩ | h'
    · skip
      obtain rfl := aN.ld rfl p0_0 q0_0
      exact absurd q1_0 p1_0
    · skip
      obtain rfl := aN.ld rfl p0_0 q0_0
      obtain rfl := aN.ld rfl p2_0 q2_0
      rfl
    · exact h'.elim
  · exact h.elim
theorem d_sharedAlong {G3 : Nat → Prop} {a b x r r' : Int32} {L H L2 H2 : Nat → Int32} (h : S_sharedAlong a b x H L r) (h' : S_sharedAlong a b x H2 L2 r') (ha : 0 ≤ a.toInt ∧ a.toInt ≤ 9) (hb : 0 ≤ b.toInt ∧ b.toInt ≤ 9) (hk : 0 ≤ x.toInt ∧ x.toInt ≤ 2) (ga : ∀ k, R3 a k → G3 k) (gb : ∀ k, R3 b k → G3 k) (aL : Ag G3 L L2) (aH : Ag G3 H H2) : r = r' := by
  rcases h with ⟨z1, z4, z7, z9, z12, z15, r17, z19, z22, z25, z27, z30, z33, r35, z37, rfl, rfl, p2_0, rfl, rfl, p5_0, p6_0, rfl, rfl, p9_0, rfl, rfl, p12_0, p13_0, rfl, rfl⟩ | h
  · rcases h' with ⟨z1', z4', z7', z9', z12', z15', r17', z19', z22', z25', z27', z30', z33', r35', z37', rfl, rfl, q2_0, rfl, rfl, q5_0, q6_0, rfl, rfl, q9_0, rfl, rfl, q12_0, q13_0, rfl, rfl⟩ | h'
    · skip
      obtain rfl := aH.ld (ga _ (m_R3 ha hk)) p2_0 q2_0
      obtain rfl := aH.ld (gb _ (m_R3 hb hk)) p5_0 q5_0
      obtain rfl := d_lesser p6_0 q6_0
      obtain rfl := aL.ld (ga _ (m_R3 ha hk)) p9_0 q9_0
      obtain rfl := aL.ld (gb _ (m_R3 hb hk)) p12_0 q12_0
      obtain rfl := d_greater p13_0 q13_0
      rfl
    · exact h'.elim
  · exact h.elim
theorem d_isBetween {G3 : Nat → Prop} {v b x r r' : Int32} {L H L2 H2 : Nat → Int32} (h : S_isBetween v b x L H r) (h' : S_isBetween v b x L2 H2 r') (hb : 0 ≤ b.toInt ∧ b.toInt ≤ 9) (hk : 0 ≤ x.toInt ∧ x.toInt ≤ 2) (gb : ∀ k, R3 b k → G3 k) (aL : Ag G3 L L2) (aH : Ag G3 H H2) : r = r' := by
  rcases h with ⟨z1, z4, z7, rfl, rfl, p2_0, p3_0, rfl⟩ | ⟨z1, z4, z7, z10, z13, z16, rfl, rfl, p2_0, p3_0, rfl, rfl, p6_0, p7_0, rfl⟩ | ⟨z1, z4, z7, z10, z13, z16, rfl, rfl, p2_0, p3_0, rfl, rfl, p6_0, p7_0, rfl⟩ | h
  · rcases h' with ⟨z1', z4', z7', rfl, rfl, q2_0, q3_0, rfl⟩ | ⟨z1', z4', z7', z10', z13', z16', rfl, rfl, q2_0, q3_0, rfl, rfl, q6_0, q7_0, rfl⟩ | ⟨z1', z4', z7', z10', z13', z16', rfl, rfl, q2_0, q3_0, rfl, rfl, q6_0, q7_0, rfl⟩ | h'
    · skip
      obtain rfl := aL.ld (gb _ (m_R3 hb hk)) p2_0 q2_0
      rfl
    · skip
      obtain rfl := aL.ld (gb _ (m_R3 hb hk)) p2_0 q2_0
      exact absurd p3_0 q3_0
    · skip
      obtain rfl := aL.ld (gb _ (m_R3 hb hk)) p2_0 q2_0
      exact absurd p3_0 q3_0
    · exact h'.elim
  · rcases h' with ⟨z1', z4', z7', rfl, rfl, q2_0, q3_0, rfl⟩ | ⟨z1', z4', z7', z10', z13', z16', rfl, rfl, q2_0, q3_0, rfl, rfl, q6_0, q7_0, rfl⟩ | ⟨z1', z4', z7', z10', z13', z16', rfl, rfl, q2_0, q3_0, rfl, rfl, q6_0, q7_0, rfl⟩ | h'
    · skip
      obtain rfl := aL.ld (gb _ (m_R3 hb hk)) p2_0 q2_0
      exact absurd q3_0 p3_0
    · skip
      obtain rfl := aL.ld (gb _ (m_R3 hb hk)) p2_0 q2_0
      obtain rfl := aH.ld (gb _ (m_R3 hb hk)) p6_0 q6_0
      rfl
    · skip
      obtain rfl := aL.ld (gb _ (m_R3 hb hk)) p2_0 q2_0
      obtain rfl := aH.ld (gb _ (m_R3 hb hk)) p6_0 q6_0
      exact absurd p7_0 q7_0
    · exact h'.elim
  · rcases h' with ⟨z1', z4', z7', rfl, rfl, q2_0, q3_0, rfl⟩ | ⟨z1', z4', z7', z10', z13', z16', rfl, rfl, q2_0, q3_0, rfl, rfl, q6_0, q7_0, rfl⟩ | ⟨z1', z4', z7', z10', z13', z16', rfl, rfl, q2_0, q3_0, rfl, rfl, q6_0, q7_0, rfl⟩ | h'
    · skip
      obtain rfl := aL.ld (gb _ (m_R3 hb hk)) p2_0 q2_0
      exact absurd q3_0 p3_0
    · skip
      obtain rfl := aL.ld (gb _ (m_R3 hb hk)) p2_0 q2_0
      obtain rfl := aH.ld (gb _ (m_R3 hb hk)) p6_0 q6_0
      exact absurd q7_0 p7_0
    · skip
      obtain rfl := aL.ld (gb _ (m_R3 hb hk)) p2_0 q2_0
      obtain rfl := aH.ld (gb _ (m_R3 hb hk)) p6_0 q6_0
      rfl
    · exact h'.elim
  · exact h.elim
theorem d_doClash {G1 : Nat → Prop} {G3 : Nat → Prop} {a b r r' : Int32} {N L H N2 L2 H2 : Nat → Int32} (h : S_doClash a b N L H r) (h' : S_doClash a b N2 L2 H2 r') (ha : 0 ≤ a.toInt ∧ a.toInt ≤ 9) (hb : 0 ≤ b.toInt ∧ b.toInt ≤ 9) (ga : ∀ k, R3 a k → G3 k) (gb : ∀ k, R3 b k → G3 k) (aL : Ag G3 L L2) (aH : Ag G3 H H2) (aN : Ag G1 N N2) (na : G1 a.toNatClampNeg) (nb : G1 b.toNatClampNeg) : r = r' := by
  refine h _ ⟨?_, ?_, ?_, ?_, ?_, ?_, ?_, ?_, trivial⟩
  · intros r1 r4 z8 z11 z14 z16 z19 z22 p0_0 p0_1 p1_0 p1_1 p2_0 p3_0 p4_0 p5_0 p6_0 p7_0 p8_0 p9_0 e0
    subst p3_0
    subst p4_0
    subst p6_0
    subst p7_0
    subst e0
    refine h' _ ⟨?_, ?_, ?_, ?_, ?_, ?_, ?_, ?_, trivial⟩
    · intros r1' r4' z8' z11' z14' z16' z19' z22' q0_0 q0_1 q1_0 q1_1 q2_0 q3_0 q4_0 q5_0 q6_0 q7_0 q8_0 q9_0 g0
      subst q3_0
      subst q4_0
      subst q6_0
      subst q7_0
      subst g0
      obtain rfl := d_axisOf p0_1 q0_1 (aN.mono (fun _ h9 => h9 ▸ na))
      obtain rfl := d_axisOf p1_1 q1_1 (aN.mono (fun _ h9 => h9 ▸ nb))
      obtain rfl := aL.ld (ga _ (m_R3 ha p0_0)) p5_0 q5_0
      obtain rfl := aL.ld (gb _ (m_R3 hb p0_0)) p8_0 q8_0
      rfl
    · intros r1' r4' z8' z11' z14' z16' z19' z22' z25' z28' r31' q0_0 q0_1 q1_0 q1_1 q2_0 q3_0 q4_0 q5_0 q6_0 q7_0 q8_0 q9_0 q10_0 q11_0 q12_0 q13_0 g0
      subst q3_0
      subst q4_0
      subst q6_0
      subst q7_0
      subst q10_0
      subst q11_0
      subst g0
      obtain rfl := d_axisOf p0_1 q0_1 (aN.mono (fun _ h9 => h9 ▸ na))
      obtain rfl := d_axisOf p1_1 q1_1 (aN.mono (fun _ h9 => h9 ▸ nb))
      obtain rfl := aL.ld (ga _ (m_R3 ha p0_0)) p5_0 q5_0
      obtain rfl := aL.ld (gb _ (m_R3 hb p0_0)) p8_0 q8_0
      exact absurd q9_0 p9_0
    · intros r1' r4' z8' z11' z14' z16' z19' z22' z25' z28' r31' z34' z37' r40' q0_0 q0_1 q1_0 q1_1 q2_0 q3_0 q4_0 q5_0 q6_0 q7_0 q8_0 q9_0 q10_0 q11_0 q12_0 q13_0 q14_0 q15_0 q16_0 q17_0 g0
      subst q3_0
      subst q4_0
      subst q6_0
      subst q7_0
      subst q10_0
      subst q11_0
      subst q14_0
      subst q15_0
      subst g0
      obtain rfl := d_axisOf p0_1 q0_1 (aN.mono (fun _ h9 => h9 ▸ na))
      obtain rfl := d_axisOf p1_1 q1_1 (aN.mono (fun _ h9 => h9 ▸ nb))
      obtain rfl := aL.ld (ga _ (m_R3 ha p0_0)) p5_0 q5_0
      obtain rfl := aL.ld (gb _ (m_R3 hb p0_0)) p8_0 q8_0
      exact absurd q9_0 p9_0
    · intros r1' r4' z8' z11' z14' z16' z19' z22' z25' z28' r31' z34' z37' r40' q0_0 q0_1 q1_0 q1_1 q2_0 q3_0 q4_0 q5_0 q6_0 q7_0 q8_0 q9_0 q10_0 q11_0 q12_0 q13_0 q14_0 q15_0 q16_0 q17_0 g0
      subst q3_0
      subst q4_0
      subst q6_0
      subst q7_0
      subst q10_0
      subst q11_0
      subst q14_0
      subst q15_0
      subst g0
      obtain rfl := d_axisOf p0_1 q0_1 (aN.mono (fun _ h9 => h9 ▸ na))
      obtain rfl := d_axisOf p1_1 q1_1 (aN.mono (fun _ h9 => h9 ▸ nb))
      obtain rfl := aL.ld (ga _ (m_R3 ha p0_0)) p5_0 q5_0
      obtain rfl := aL.ld (gb _ (m_R3 hb p0_0)) p8_0 q8_0
      exact absurd q9_0 p9_0
    · intros r1' r4' z43' z46' z49' r51' q0_0 q0_1 q1_0 q1_1 q2_0 q3_0 q4_0 q5_0 q6_0 q6_1 q7_0 g0
      subst q3_0
      subst q4_0
      subst g0
      obtain rfl := d_axisOf p0_1 q0_1 (aN.mono (fun _ h9 => h9 ▸ na))
      obtain rfl := d_axisOf p1_1 q1_1 (aN.mono (fun _ h9 => h9 ▸ nb))
      exact absurd p2_0 q2_0
    · intros r1' r4' z43' z46' z49' r51' z55' z58' z61' r63' q0_0 q0_1 q1_0 q1_1 q2_0 q3_0 q4_0 q5_0 q6_0 q6_1 q7_0 q8_0 q9_0 q10_0 q11_0 q11_1 q12_0 g0
      subst q3_0
      subst q4_0
      subst q8_0
      subst q9_0
      subst g0
      obtain rfl := d_axisOf p0_1 q0_1 (aN.mono (fun _ h9 => h9 ▸ na))
      obtain rfl := d_axisOf p1_1 q1_1 (aN.mono (fun _ h9 => h9 ▸ nb))
      exact absurd p2_0 q2_0
    · intros r1' r4' z43' z46' z49' r51' z55' z58' z61' r63' z67' z70' r73' q0_0 q0_1 q1_0 q1_1 q2_0 q3_0 q4_0 q5_0 q6_0 q6_1 q7_0 q8_0 q9_0 q10_0 q11_0 q11_1 q12_0 q13_0 q14_0 q15_0 q16_0 g0
      subst q3_0
      subst q4_0
      subst q8_0
      subst q9_0
      subst q13_0
      subst q14_0
      subst g0
      obtain rfl := d_axisOf p0_1 q0_1 (aN.mono (fun _ h9 => h9 ▸ na))
      obtain rfl := d_axisOf p1_1 q1_1 (aN.mono (fun _ h9 => h9 ▸ nb))
      exact absurd p2_0 q2_0
    · intros r1' r4' z43' z46' z49' r51' z55' z58' z61' r63' z67' z70' r73' q0_0 q0_1 q1_0 q1_1 q2_0 q3_0 q4_0 q5_0 q6_0 q6_1 q7_0 q8_0 q9_0 q10_0 q11_0 q11_1 q12_0 q13_0 q14_0 q15_0 q16_0 g0
      subst q3_0
      subst q4_0
      subst q8_0
      subst q9_0
      subst q13_0
      subst q14_0
      subst g0
      obtain rfl := d_axisOf p0_1 q0_1 (aN.mono (fun _ h9 => h9 ▸ na))
      obtain rfl := d_axisOf p1_1 q1_1 (aN.mono (fun _ h9 => h9 ▸ nb))
      exact absurd p2_0 q2_0
  · intros r1 r4 z8 z11 z14 z16 z19 z22 z25 z28 r31 p0_0 p0_1 p1_0 p1_1 p2_0 p3_0 p4_0 p5_0 p6_0 p7_0 p8_0 p9_0 p10_0 p11_0 p12_0 p13_0 e0
    subst p3_0
    subst p4_0
    subst p6_0
    subst p7_0
    subst p10_0
    subst p11_0
    subst e0
    refine h' _ ⟨?_, ?_, ?_, ?_, ?_, ?_, ?_, ?_, trivial⟩
    · intros r1' r4' z8' z11' z14' z16' z19' z22' q0_0 q0_1 q1_0 q1_1 q2_0 q3_0 q4_0 q5_0 q6_0 q7_0 q8_0 q9_0 g0
      subst q3_0
      subst q4_0
      subst q6_0
      subst q7_0
      subst g0
      obtain rfl := d_axisOf p0_1 q0_1 (aN.mono (fun _ h9 => h9 ▸ na))
      obtain rfl := d_axisOf p1_1 q1_1 (aN.mono (fun _ h9 => h9 ▸ nb))
      obtain rfl := aL.ld (ga _ (m_R3 ha p0_0)) p5_0 q5_0
      obtain rfl := aL.ld (gb _ (m_R3 hb p0_0)) p8_0 q8_0
      exact absurd p9_0 q9_0
    · intros r1' r4' z8' z11' z14' z16' z19' z22' z25' z28' r31' q0_0 q0_1 q1_0 q1_1 q2_0 q3_0 q4_0 q5_0 q6_0 q7_0 q8_0 q9_0 q10_0 q11_0 q12_0 q13_0 g0
      subst q3_0
      subst q4_0
      subst q6_0
      subst q7_0
      subst q10_0
      subst q11_0
      subst g0
      obtain rfl := d_axisOf p0_1 q0_1 (aN.mono (fun _ h9 => h9 ▸ na))
      obtain rfl := d_axisOf p1_1 q1_1 (aN.mono (fun _ h9 => h9 ▸ nb))
      obtain rfl := aL.ld (ga _ (m_R3 ha p0_0)) p5_0 q5_0
      obtain rfl := aL.ld (gb _ (m_R3 hb p0_0)) p8_0 q8_0
      obtain rfl := d_sharedAlong p12_0 q12_0 ha hb (zq31 p0_0) ga gb aL aH
      rfl
    · intros r1' r4' z8' z11' z14' z16' z19' z22' z25' z28' r31' z34' z37' r40' q0_0 q0_1 q1_0 q1_1 q2_0 q3_0 q4_0 q5_0 q6_0 q7_0 q8_0 q9_0 q10_0 q11_0 q12_0 q13_0 q14_0 q15_0 q16_0 q17_0 g0
      subst q3_0
      subst q4_0
      subst q6_0
      subst q7_0
      subst q10_0
      subst q11_0
      subst q14_0
      subst q15_0
      subst g0
      obtain rfl := d_axisOf p0_1 q0_1 (aN.mono (fun _ h9 => h9 ▸ na))
      obtain rfl := d_axisOf p1_1 q1_1 (aN.mono (fun _ h9 => h9 ▸ nb))
      obtain rfl := aL.ld (ga _ (m_R3 ha p0_0)) p5_0 q5_0
      obtain rfl := aL.ld (gb _ (m_R3 hb p0_0)) p8_0 q8_0
      obtain rfl := d_sharedAlong p12_0 q12_0 ha hb (zq31 p0_0) ga gb aL aH
      exact absurd p13_0 q13_0
    · intros r1' r4' z8' z11' z14' z16' z19' z22' z25' z28' r31' z34' z37' r40' q0_0 q0_1 q1_0 q1_1 q2_0 q3_0 q4_0 q5_0 q6_0 q7_0 q8_0 q9_0 q10_0 q11_0 q12_0 q13_0 q14_0 q15_0 q16_0 q17_0 g0
      subst q3_0
      subst q4_0
      subst q6_0
      subst q7_0
      subst q10_0
      subst q11_0
      subst q14_0
      subst q15_0
      subst g0
      obtain rfl := d_axisOf p0_1 q0_1 (aN.mono (fun _ h9 => h9 ▸ na))
      obtain rfl := d_axisOf p1_1 q1_1 (aN.mono (fun _ h9 => h9 ▸ nb))
      obtain rfl := aL.ld (ga _ (m_R3 ha p0_0)) p5_0 q5_0
      obtain rfl := aL.ld (gb _ (m_R3 hb p0_0)) p8_0 q8_0
      obtain rfl := d_sharedAlong p12_0 q12_0 ha hb (zq31 p0_0) ga gb aL aH
      exact absurd p13_0 q13_0
    · intros r1' r4' z43' z46' z49' r51' q0_0 q0_1 q1_0 q1_1 q2_0 q3_0 q4_0 q5_0 q6_0 q6_1 q7_0 g0
      subst q3_0
      subst q4_0
      subst g0
      obtain rfl := d_axisOf p0_1 q0_1 (aN.mono (fun _ h9 => h9 ▸ na))
      obtain rfl := d_axisOf p1_1 q1_1 (aN.mono (fun _ h9 => h9 ▸ nb))
      exact absurd p2_0 q2_0
    · intros r1' r4' z43' z46' z49' r51' z55' z58' z61' r63' q0_0 q0_1 q1_0 q1_1 q2_0 q3_0 q4_0 q5_0 q6_0 q6_1 q7_0 q8_0 q9_0 q10_0 q11_0 q11_1 q12_0 g0
      subst q3_0
      subst q4_0
      subst q8_0
      subst q9_0
      subst g0
      obtain rfl := d_axisOf p0_1 q0_1 (aN.mono (fun _ h9 => h9 ▸ na))
      obtain rfl := d_axisOf p1_1 q1_1 (aN.mono (fun _ h9 => h9 ▸ nb))
      exact absurd p2_0 q2_0
    · intros r1' r4' z43' z46' z49' r51' z55' z58' z61' r63' z67' z70' r73' q0_0 q0_1 q1_0 q1_1 q2_0 q3_0 q4_0 q5_0 q6_0 q6_1 q7_0 q8_0 q9_0 q10_0 q11_0 q11_1 q12_0 q13_0 q14_0 q15_0 q16_0 g0
      subst q3_0
      subst q4_0
      subst q8_0
      subst q9_0
      subst q13_0
      subst q14_0
      subst g0
      obtain rfl := d_axisOf p0_1 q0_1 (aN.mono (fun _ h9 => h9 ▸ na))
      obtain rfl := d_axisOf p1_1 q1_1 (aN.mono (fun _ h9 => h9 ▸ nb))
      exact absurd p2_0 q2_0
    · intros r1' r4' z43' z46' z49' r51' z55' z58' z61' r63' z67' z70' r73' q0_0 q0_1 q1_0 q1_1 q2_0 q3_0 q4_0 q5_0 q6_0 q6_1 q7_0 q8_0 q9_0 q10_0 q11_0 q11_1 q12_0 q13_0 q14_0 q15_0 q16_0 g0
      subst q3_0
      subst q4_0
      subst q8_0
      subst q9_0
      subst q13_0
      subst q14_0
      subst g0
      obtain rfl := d_axisOf p0_1 q0_1 (aN.mono (fun _ h9 => h9 ▸ na))
      obtain rfl := d_axisOf p1_1 q1_1 (aN.mono (fun _ h9 => h9 ▸ nb))
      exact absurd p2_0 q2_0
  · intros r1 r4 z8 z11 z14 z16 z19 z22 z25 z28 r31 z34 z37 r40 p0_0 p0_1 p1_0 p1_1 p2_0 p3_0 p4_0 p5_0 p6_0 p7_0 p8_0 p9_0 p10_0 p11_0 p12_0 p13_0 p14_0 p15_0 p16_0 p17_0 e0
    subst p3_0
    subst p4_0
    subst p6_0
    subst p7_0
    subst p10_0
    subst p11_0
    subst p14_0
    subst p15_0
    subst e0
    refine h' _ ⟨?_, ?_, ?_, ?_, ?_, ?_, ?_, ?_, trivial⟩
    · intros r1' r4' z8' z11' z14' z16' z19' z22' q0_0 q0_1 q1_0 q1_1 q2_0 q3_0 q4_0 q5_0 q6_0 q7_0 q8_0 q9_0 g0
      subst q3_0
      subst q4_0
      subst q6_0
      subst q7_0
      subst g0
      obtain rfl := d_axisOf p0_1 q0_1 (aN.mono (fun _ h9 => h9 ▸ na))
      obtain rfl := d_axisOf p1_1 q1_1 (aN.mono (fun _ h9 => h9 ▸ nb))
      obtain rfl := aL.ld (ga _ (m_R3 ha p0_0)) p5_0 q5_0
      obtain rfl := aL.ld (gb _ (m_R3 hb p0_0)) p8_0 q8_0
      exact absurd p9_0 q9_0
    · intros r1' r4' z8' z11' z14' z16' z19' z22' z25' z28' r31' q0_0 q0_1 q1_0 q1_1 q2_0 q3_0 q4_0 q5_0 q6_0 q7_0 q8_0 q9_0 q10_0 q11_0 q12_0 q13_0 g0
      subst q3_0
      subst q4_0
      subst q6_0
      subst q7_0
      subst q10_0
      subst q11_0
      subst g0
      obtain rfl := d_axisOf p0_1 q0_1 (aN.mono (fun _ h9 => h9 ▸ na))
      obtain rfl := d_axisOf p1_1 q1_1 (aN.mono (fun _ h9 => h9 ▸ nb))
      obtain rfl := aL.ld (ga _ (m_R3 ha p0_0)) p5_0 q5_0
      obtain rfl := aL.ld (gb _ (m_R3 hb p0_0)) p8_0 q8_0
      obtain rfl := d_sharedAlong p12_0 q12_0 ha hb (zq31 p0_0) ga gb aL aH
      exact absurd q13_0 p13_0
    · intros r1' r4' z8' z11' z14' z16' z19' z22' z25' z28' r31' z34' z37' r40' q0_0 q0_1 q1_0 q1_1 q2_0 q3_0 q4_0 q5_0 q6_0 q7_0 q8_0 q9_0 q10_0 q11_0 q12_0 q13_0 q14_0 q15_0 q16_0 q17_0 g0
      subst q3_0
      subst q4_0
      subst q6_0
      subst q7_0
      subst q10_0
      subst q11_0
      subst q14_0
      subst q15_0
      subst g0
      obtain rfl := d_axisOf p0_1 q0_1 (aN.mono (fun _ h9 => h9 ▸ na))
      obtain rfl := d_axisOf p1_1 q1_1 (aN.mono (fun _ h9 => h9 ▸ nb))
      obtain rfl := aL.ld (ga _ (m_R3 ha p0_0)) p5_0 q5_0
      obtain rfl := aL.ld (gb _ (m_R3 hb p0_0)) p8_0 q8_0
      obtain rfl := d_sharedAlong p12_0 q12_0 ha hb (zq31 p0_0) ga gb aL aH
      obtain rfl := d_sharedAlong p16_0 q16_0 ha hb (zq32 p0_0) ga gb aL aH
      rfl
    · intros r1' r4' z8' z11' z14' z16' z19' z22' z25' z28' r31' z34' z37' r40' q0_0 q0_1 q1_0 q1_1 q2_0 q3_0 q4_0 q5_0 q6_0 q7_0 q8_0 q9_0 q10_0 q11_0 q12_0 q13_0 q14_0 q15_0 q16_0 q17_0 g0
      subst q3_0
      subst q4_0
      subst q6_0
      subst q7_0
      subst q10_0
      subst q11_0
      subst q14_0
      subst q15_0
      subst g0
      obtain rfl := d_axisOf p0_1 q0_1 (aN.mono (fun _ h9 => h9 ▸ na))
      obtain rfl := d_axisOf p1_1 q1_1 (aN.mono (fun _ h9 => h9 ▸ nb))
      obtain rfl := aL.ld (ga _ (m_R3 ha p0_0)) p5_0 q5_0
      obtain rfl := aL.ld (gb _ (m_R3 hb p0_0)) p8_0 q8_0
      obtain rfl := d_sharedAlong p12_0 q12_0 ha hb (zq31 p0_0) ga gb aL aH
      obtain rfl := d_sharedAlong p16_0 q16_0 ha hb (zq32 p0_0) ga gb aL aH
      exact absurd p17_0 q17_0
    · intros r1' r4' z43' z46' z49' r51' q0_0 q0_1 q1_0 q1_1 q2_0 q3_0 q4_0 q5_0 q6_0 q6_1 q7_0 g0
      subst q3_0
      subst q4_0
      subst g0
      obtain rfl := d_axisOf p0_1 q0_1 (aN.mono (fun _ h9 => h9 ▸ na))
      obtain rfl := d_axisOf p1_1 q1_1 (aN.mono (fun _ h9 => h9 ▸ nb))
      exact absurd p2_0 q2_0
    · intros r1' r4' z43' z46' z49' r51' z55' z58' z61' r63' q0_0 q0_1 q1_0 q1_1 q2_0 q3_0 q4_0 q5_0 q6_0 q6_1 q7_0 q8_0 q9_0 q10_0 q11_0 q11_1 q12_0 g0
      subst q3_0
      subst q4_0
      subst q8_0
      subst q9_0
      subst g0
      obtain rfl := d_axisOf p0_1 q0_1 (aN.mono (fun _ h9 => h9 ▸ na))
      obtain rfl := d_axisOf p1_1 q1_1 (aN.mono (fun _ h9 => h9 ▸ nb))
      exact absurd p2_0 q2_0
    · intros r1' r4' z43' z46' z49' r51' z55' z58' z61' r63' z67' z70' r73' q0_0 q0_1 q1_0 q1_1 q2_0 q3_0 q4_0 q5_0 q6_0 q6_1 q7_0 q8_0 q9_0 q10_0 q11_0 q11_1 q12_0 q13_0 q14_0 q15_0 q16_0 g0
      subst q3_0
      subst q4_0
      subst q8_0
      subst q9_0
      subst q13_0
      subst q14_0
      subst g0
      obtain rfl := d_axisOf p0_1 q0_1 (aN.mono (fun _ h9 => h9 ▸ na))
      obtain rfl := d_axisOf p1_1 q1_1 (aN.mono (fun _ h9 => h9 ▸ nb))
      exact absurd p2_0 q2_0
    · intros r1' r4' z43' z46' z49' r51' z55' z58' z61' r63' z67' z70' r73' q0_0 q0_1 q1_0 q1_1 q2_0 q3_0 q4_0 q5_0 q6_0 q6_1 q7_0 q8_0 q9_0 q10_0 q11_0 q11_1 q12_0 q13_0 q14_0 q15_0 q16_0 g0
      subst q3_0
      subst q4_0
      subst q8_0
      subst q9_0
      subst q13_0
      subst q14_0
      subst g0
      obtain rfl := d_axisOf p0_1 q0_1 (aN.mono (fun _ h9 => h9 ▸ na))
      obtain rfl := d_axisOf p1_1 q1_1 (aN.mono (fun _ h9 => h9 ▸ nb))
      exact absurd p2_0 q2_0
  · intros r1 r4 z8 z11 z14 z16 z19 z22 z25 z28 r31 z34 z37 r40 p0_0 p0_1 p1_0 p1_1 p2_0 p3_0 p4_0 p5_0 p6_0 p7_0 p8_0 p9_0 p10_0 p11_0 p12_0 p13_0 p14_0 p15_0 p16_0 p17_0 e0
    subst p3_0
    subst p4_0
    subst p6_0
    subst p7_0
    subst p10_0
    subst p11_0
    subst p14_0
    subst p15_0
    subst e0
    refine h' _ ⟨?_, ?_, ?_, ?_, ?_, ?_, ?_, ?_, trivial⟩
    · intros r1' r4' z8' z11' z14' z16' z19' z22' q0_0 q0_1 q1_0 q1_1 q2_0 q3_0 q4_0 q5_0 q6_0 q7_0 q8_0 q9_0 g0
      subst q3_0
      subst q4_0
      subst q6_0
      subst q7_0
      subst g0
      obtain rfl := d_axisOf p0_1 q0_1 (aN.mono (fun _ h9 => h9 ▸ na))
      obtain rfl := d_axisOf p1_1 q1_1 (aN.mono (fun _ h9 => h9 ▸ nb))
      obtain rfl := aL.ld (ga _ (m_R3 ha p0_0)) p5_0 q5_0
      obtain rfl := aL.ld (gb _ (m_R3 hb p0_0)) p8_0 q8_0
      exact absurd p9_0 q9_0
    · intros r1' r4' z8' z11' z14' z16' z19' z22' z25' z28' r31' q0_0 q0_1 q1_0 q1_1 q2_0 q3_0 q4_0 q5_0 q6_0 q7_0 q8_0 q9_0 q10_0 q11_0 q12_0 q13_0 g0
      subst q3_0
      subst q4_0
      subst q6_0
      subst q7_0
      subst q10_0
      subst q11_0
      subst g0
      obtain rfl := d_axisOf p0_1 q0_1 (aN.mono (fun _ h9 => h9 ▸ na))
      obtain rfl := d_axisOf p1_1 q1_1 (aN.mono (fun _ h9 => h9 ▸ nb))
      obtain rfl := aL.ld (ga _ (m_R3 ha p0_0)) p5_0 q5_0
      obtain rfl := aL.ld (gb _ (m_R3 hb p0_0)) p8_0 q8_0
      obtain rfl := d_sharedAlong p12_0 q12_0 ha hb (zq31 p0_0) ga gb aL aH
      exact absurd q13_0 p13_0
    · intros r1' r4' z8' z11' z14' z16' z19' z22' z25' z28' r31' z34' z37' r40' q0_0 q0_1 q1_0 q1_1 q2_0 q3_0 q4_0 q5_0 q6_0 q7_0 q8_0 q9_0 q10_0 q11_0 q12_0 q13_0 q14_0 q15_0 q16_0 q17_0 g0
      subst q3_0
      subst q4_0
      subst q6_0
      subst q7_0
      subst q10_0
      subst q11_0
      subst q14_0
      subst q15_0
      subst g0
      obtain rfl := d_axisOf p0_1 q0_1 (aN.mono (fun _ h9 => h9 ▸ na))
      obtain rfl := d_axisOf p1_1 q1_1 (aN.mono (fun _ h9 => h9 ▸ nb))
      obtain rfl := aL.ld (ga _ (m_R3 ha p0_0)) p5_0 q5_0
      obtain rfl := aL.ld (gb _ (m_R3 hb p0_0)) p8_0 q8_0
      obtain rfl := d_sharedAlong p12_0 q12_0 ha hb (zq31 p0_0) ga gb aL aH
      obtain rfl := d_sharedAlong p16_0 q16_0 ha hb (zq32 p0_0) ga gb aL aH
      exact absurd q17_0 p17_0
    · intros r1' r4' z8' z11' z14' z16' z19' z22' z25' z28' r31' z34' z37' r40' q0_0 q0_1 q1_0 q1_1 q2_0 q3_0 q4_0 q5_0 q6_0 q7_0 q8_0 q9_0 q10_0 q11_0 q12_0 q13_0 q14_0 q15_0 q16_0 q17_0 g0
      subst q3_0
      subst q4_0
      subst q6_0
      subst q7_0
      subst q10_0
      subst q11_0
      subst q14_0
      subst q15_0
      subst g0
      obtain rfl := d_axisOf p0_1 q0_1 (aN.mono (fun _ h9 => h9 ▸ na))
      obtain rfl := d_axisOf p1_1 q1_1 (aN.mono (fun _ h9 => h9 ▸ nb))
      obtain rfl := aL.ld (ga _ (m_R3 ha p0_0)) p5_0 q5_0
      obtain rfl := aL.ld (gb _ (m_R3 hb p0_0)) p8_0 q8_0
      obtain rfl := d_sharedAlong p12_0 q12_0 ha hb (zq31 p0_0) ga gb aL aH
      obtain rfl := d_sharedAlong p16_0 q16_0 ha hb (zq32 p0_0) ga gb aL aH
      rfl
    · intros r1' r4' z43' z46' z49' r51' q0_0 q0_1 q1_0 q1_1 q2_0 q3_0 q4_0 q5_0 q6_0 q6_1 q7_0 g0
      subst q3_0
      subst q4_0
      subst g0
      obtain rfl := d_axisOf p0_1 q0_1 (aN.mono (fun _ h9 => h9 ▸ na))
      obtain rfl := d_axisOf p1_1 q1_1 (aN.mono (fun _ h9 => h9 ▸ nb))
      exact absurd p2_0 q2_0
    · intros r1' r4' z43' z46' z49' r51' z55' z58' z61' r63' q0_0 q0_1 q1_0 q1_1 q2_0 q3_0 q4_0 q5_0 q6_0 q6_1 q7_0 q8_0 q9_0 q10_0 q11_0 q11_1 q12_0 g0
      subst q3_0
      subst q4_0
      subst q8_0
      subst q9_0
      subst g0
      obtain rfl := d_axisOf p0_1 q0_1 (aN.mono (fun _ h9 => h9 ▸ na))
      obtain rfl := d_axisOf p1_1 q1_1 (aN.mono (fun _ h9 => h9 ▸ nb))
      exact absurd p2_0 q2_0
    · intros r1' r4' z43' z46' z49' r51' z55' z58' z61' r63' z67' z70' r73' q0_0 q0_1 q1_0 q1_1 q2_0 q3_0 q4_0 q5_0 q6_0 q6_1 q7_0 q8_0 q9_0 q10_0 q11_0 q11_1 q12_0 q13_0 q14_0 q15_0 q16_0 g0
      subst q3_0
      subst q4_0
      subst q8_0
      subst q9_0
      subst q13_0
      subst q14_0
      subst g0
      obtain rfl := d_axisOf p0_1 q0_1 (aN.mono (fun _ h9 => h9 ▸ na))
      obtain rfl := d_axisOf p1_1 q1_1 (aN.mono (fun _ h9 => h9 ▸ nb))
      exact absurd p2_0 q2_0
    · intros r1' r4' z43' z46' z49' r51' z55' z58' z61' r63' z67' z70' r73' q0_0 q0_1 q1_0 q1_1 q2_0 q3_0 q4_0 q5_0 q6_0 q6_1 q7_0 q8_0 q9_0 q10_0 q11_0 q11_1 q12_0 q13_0 q14_0 q15_0 q16_0 g0
      subst q3_0
      subst q4_0
      subst q8_0
      subst q9_0
      subst q13_0
      subst q14_0
      subst g0
      obtain rfl := d_axisOf p0_1 q0_1 (aN.mono (fun _ h9 => h9 ▸ na))
      obtain rfl := d_axisOf p1_1 q1_1 (aN.mono (fun _ h9 => h9 ▸ nb))
      exact absurd p2_0 q2_0
  · intros r1 r4 z43 z46 z49 r51 p0_0 p0_1 p1_0 p1_1 p2_0 p3_0 p4_0 p5_0 p6_0 p6_1 p7_0 e0
    subst p3_0
    subst p4_0
    subst e0
    refine h' _ ⟨?_, ?_, ?_, ?_, ?_, ?_, ?_, ?_, trivial⟩
    · intros r1' r4' z8' z11' z14' z16' z19' z22' q0_0 q0_1 q1_0 q1_1 q2_0 q3_0 q4_0 q5_0 q6_0 q7_0 q8_0 q9_0 g0
      subst q3_0
      subst q4_0
      subst q6_0
      subst q7_0
      subst g0
      obtain rfl := d_axisOf p0_1 q0_1 (aN.mono (fun _ h9 => h9 ▸ na))
      obtain rfl := d_axisOf p1_1 q1_1 (aN.mono (fun _ h9 => h9 ▸ nb))
      exact absurd q2_0 p2_0
    · intros r1' r4' z8' z11' z14' z16' z19' z22' z25' z28' r31' q0_0 q0_1 q1_0 q1_1 q2_0 q3_0 q4_0 q5_0 q6_0 q7_0 q8_0 q9_0 q10_0 q11_0 q12_0 q13_0 g0
      subst q3_0
      subst q4_0
      subst q6_0
      subst q7_0
      subst q10_0
      subst q11_0
      subst g0
      obtain rfl := d_axisOf p0_1 q0_1 (aN.mono (fun _ h9 => h9 ▸ na))
      obtain rfl := d_axisOf p1_1 q1_1 (aN.mono (fun _ h9 => h9 ▸ nb))
      exact absurd q2_0 p2_0
    · intros r1' r4' z8' z11' z14' z16' z19' z22' z25' z28' r31' z34' z37' r40' q0_0 q0_1 q1_0 q1_1 q2_0 q3_0 q4_0 q5_0 q6_0 q7_0 q8_0 q9_0 q10_0 q11_0 q12_0 q13_0 q14_0 q15_0 q16_0 q17_0 g0
      subst q3_0
      subst q4_0
      subst q6_0
      subst q7_0
      subst q10_0
      subst q11_0
      subst q14_0
      subst q15_0
      subst g0
      obtain rfl := d_axisOf p0_1 q0_1 (aN.mono (fun _ h9 => h9 ▸ na))
      obtain rfl := d_axisOf p1_1 q1_1 (aN.mono (fun _ h9 => h9 ▸ nb))
      exact absurd q2_0 p2_0
    · intros r1' r4' z8' z11' z14' z16' z19' z22' z25' z28' r31' z34' z37' r40' q0_0 q0_1 q1_0 q1_1 q2_0 q3_0 q4_0 q5_0 q6_0 q7_0 q8_0 q9_0 q10_0 q11_0 q12_0 q13_0 q14_0 q15_0 q16_0 q17_0 g0
      subst q3_0
      subst q4_0
      subst q6_0
      subst q7_0
      subst q10_0
      subst q11_0
      subst q14_0
      subst q15_0
      subst g0
      obtain rfl := d_axisOf p0_1 q0_1 (aN.mono (fun _ h9 => h9 ▸ na))
      obtain rfl := d_axisOf p1_1 q1_1 (aN.mono (fun _ h9 => h9 ▸ nb))
      exact absurd q2_0 p2_0
    · intros r1' r4' z43' z46' z49' r51' q0_0 q0_1 q1_0 q1_1 q2_0 q3_0 q4_0 q5_0 q6_0 q6_1 q7_0 g0
      subst q3_0
      subst q4_0
      subst g0
      obtain rfl := d_axisOf p0_1 q0_1 (aN.mono (fun _ h9 => h9 ▸ na))
      obtain rfl := d_axisOf p1_1 q1_1 (aN.mono (fun _ h9 => h9 ▸ nb))
      obtain rfl := aL.ld (ga _ (m_R3 ha p0_0)) p5_0 q5_0
      obtain rfl := d_isBetween p6_1 q6_1 hb p0_0 gb aL aH
      rfl
    · intros r1' r4' z43' z46' z49' r51' z55' z58' z61' r63' q0_0 q0_1 q1_0 q1_1 q2_0 q3_0 q4_0 q5_0 q6_0 q6_1 q7_0 q8_0 q9_0 q10_0 q11_0 q11_1 q12_0 g0
      subst q3_0
      subst q4_0
      subst q8_0
      subst q9_0
      subst g0
      obtain rfl := d_axisOf p0_1 q0_1 (aN.mono (fun _ h9 => h9 ▸ na))
      obtain rfl := d_axisOf p1_1 q1_1 (aN.mono (fun _ h9 => h9 ▸ nb))
      obtain rfl := aL.ld (ga _ (m_R3 ha p0_0)) p5_0 q5_0
      obtain rfl := d_isBetween p6_1 q6_1 hb p0_0 gb aL aH
      exact absurd p7_0 q7_0
    · intros r1' r4' z43' z46' z49' r51' z55' z58' z61' r63' z67' z70' r73' q0_0 q0_1 q1_0 q1_1 q2_0 q3_0 q4_0 q5_0 q6_0 q6_1 q7_0 q8_0 q9_0 q10_0 q11_0 q11_1 q12_0 q13_0 q14_0 q15_0 q16_0 g0
      subst q3_0
      subst q4_0
      subst q8_0
      subst q9_0
      subst q13_0
      subst q14_0
      subst g0
      obtain rfl := d_axisOf p0_1 q0_1 (aN.mono (fun _ h9 => h9 ▸ na))
      obtain rfl := d_axisOf p1_1 q1_1 (aN.mono (fun _ h9 => h9 ▸ nb))
      obtain rfl := aL.ld (ga _ (m_R3 ha p0_0)) p5_0 q5_0
      obtain rfl := d_isBetween p6_1 q6_1 hb p0_0 gb aL aH
      exact absurd p7_0 q7_0
    · intros r1' r4' z43' z46' z49' r51' z55' z58' z61' r63' z67' z70' r73' q0_0 q0_1 q1_0 q1_1 q2_0 q3_0 q4_0 q5_0 q6_0 q6_1 q7_0 q8_0 q9_0 q10_0 q11_0 q11_1 q12_0 q13_0 q14_0 q15_0 q16_0 g0
      subst q3_0
      subst q4_0
      subst q8_0
      subst q9_0
      subst q13_0
      subst q14_0
      subst g0
      obtain rfl := d_axisOf p0_1 q0_1 (aN.mono (fun _ h9 => h9 ▸ na))
      obtain rfl := d_axisOf p1_1 q1_1 (aN.mono (fun _ h9 => h9 ▸ nb))
      obtain rfl := aL.ld (ga _ (m_R3 ha p0_0)) p5_0 q5_0
      obtain rfl := d_isBetween p6_1 q6_1 hb p0_0 gb aL aH
      exact absurd p7_0 q7_0
  · intros r1 r4 z43 z46 z49 r51 z55 z58 z61 r63 p0_0 p0_1 p1_0 p1_1 p2_0 p3_0 p4_0 p5_0 p6_0 p6_1 p7_0 p8_0 p9_0 p10_0 p11_0 p11_1 p12_0 e0
    subst p3_0
    subst p4_0
    subst p8_0
    subst p9_0
    subst e0
    refine h' _ ⟨?_, ?_, ?_, ?_, ?_, ?_, ?_, ?_, trivial⟩
    · intros r1' r4' z8' z11' z14' z16' z19' z22' q0_0 q0_1 q1_0 q1_1 q2_0 q3_0 q4_0 q5_0 q6_0 q7_0 q8_0 q9_0 g0
      subst q3_0
      subst q4_0
      subst q6_0
      subst q7_0
      subst g0
      obtain rfl := d_axisOf p0_1 q0_1 (aN.mono (fun _ h9 => h9 ▸ na))
      obtain rfl := d_axisOf p1_1 q1_1 (aN.mono (fun _ h9 => h9 ▸ nb))
      exact absurd q2_0 p2_0
    · intros r1' r4' z8' z11' z14' z16' z19' z22' z25' z28' r31' q0_0 q0_1 q1_0 q1_1 q2_0 q3_0 q4_0 q5_0 q6_0 q7_0 q8_0 q9_0 q10_0 q11_0 q12_0 q13_0 g0
      subst q3_0
      subst q4_0
      subst q6_0
      subst q7_0
      subst q10_0
      subst q11_0
      subst g0
      obtain rfl := d_axisOf p0_1 q0_1 (aN.mono (fun _ h9 => h9 ▸ na))
      obtain rfl := d_axisOf p1_1 q1_1 (aN.mono (fun _ h9 => h9 ▸ nb))
      exact absurd q2_0 p2_0
    · intros r1' r4' z8' z11' z14' z16' z19' z22' z25' z28' r31' z34' z37' r40' q0_0 q0_1 q1_0 q1_1 q2_0 q3_0 q4_0 q5_0 q6_0 q7_0 q8_0 q9_0 q10_0 q11_0 q12_0 q13_0 q14_0 q15_0 q16_0 q17_0 g0
      subst q3_0
      subst q4_0
      subst q6_0
      subst q7_0
      subst q10_0
      subst q11_0
      subst q14_0
      subst q15_0
      subst g0
      obtain rfl := d_axisOf p0_1 q0_1 (aN.mono (fun _ h9 => h9 ▸ na))
      obtain rfl := d_axisOf p1_1 q1_1 (aN.mono (fun _ h9 => h9 ▸ nb))
      exact absurd q2_0 p2_0
    · intros r1' r4' z8' z11' z14' z16' z19' z22' z25' z28' r31' z34' z37' r40' q0_0 q0_1 q1_0 q1_1 q2_0 q3_0 q4_0 q5_0 q6_0 q7_0 q8_0 q9_0 q10_0 q11_0 q12_0 q13_0 q14_0 q15_0 q16_0 q17_0 g0
      subst q3_0
      subst q4_0
      subst q6_0
      subst q7_0
      subst q10_0
      subst q11_0
      subst q14_0
      subst q15_0
      subst g0
      obtain rfl := d_axisOf p0_1 q0_1 (aN.mono (fun _ h9 => h9 ▸ na))
      obtain rfl := d_axisOf p1_1 q1_1 (aN.mono (fun _ h9 => h9 ▸ nb))
      exact absurd q2_0 p2_0
    · intros r1' r4' z43' z46' z49' r51' q0_0 q0_1 q1_0 q1_1 q2_0 q3_0 q4_0 q5_0 q6_0 q6_1 q7_0 g0
      subst q3_0
      subst q4_0
      subst g0
      obtain rfl := d_axisOf p0_1 q0_1 (aN.mono (fun _ h9 => h9 ▸ na))
      obtain rfl := d_axisOf p1_1 q1_1 (aN.mono (fun _ h9 => h9 ▸ nb))
      obtain rfl := aL.ld (ga _ (m_R3 ha p0_0)) p5_0 q5_0
      obtain rfl := d_isBetween p6_1 q6_1 hb p0_0 gb aL aH
      exact absurd q7_0 p7_0
    · intros r1' r4' z43' z46' z49' r51' z55' z58' z61' r63' q0_0 q0_1 q1_0 q1_1 q2_0 q3_0 q4_0 q5_0 q6_0 q6_1 q7_0 q8_0 q9_0 q10_0 q11_0 q11_1 q12_0 g0
      subst q3_0
      subst q4_0
      subst q8_0
      subst q9_0
      subst g0
      obtain rfl := d_axisOf p0_1 q0_1 (aN.mono (fun _ h9 => h9 ▸ na))
      obtain rfl := d_axisOf p1_1 q1_1 (aN.mono (fun _ h9 => h9 ▸ nb))
      obtain rfl := aL.ld (ga _ (m_R3 ha p0_0)) p5_0 q5_0
      obtain rfl := d_isBetween p6_1 q6_1 hb p0_0 gb aL aH
      obtain rfl := aL.ld (gb _ (m_R3 hb p1_0)) p10_0 q10_0
      obtain rfl := d_isBetween p11_1 q11_1 ha p1_0 ga aL aH
      rfl
    · intros r1' r4' z43' z46' z49' r51' z55' z58' z61' r63' z67' z70' r73' q0_0 q0_1 q1_0 q1_1 q2_0 q3_0 q4_0 q5_0 q6_0 q6_1 q7_0 q8_0 q9_0 q10_0 q11_0 q11_1 q12_0 q13_0 q14_0 q15_0 q16_0 g0
      subst q3_0
      subst q4_0
      subst q8_0
      subst q9_0
      subst q13_0
      subst q14_0
      subst g0
      obtain rfl := d_axisOf p0_1 q0_1 (aN.mono (fun _ h9 => h9 ▸ na))
      obtain rfl := d_axisOf p1_1 q1_1 (aN.mono (fun _ h9 => h9 ▸ nb))
      obtain rfl := aL.ld (ga _ (m_R3 ha p0_0)) p5_0 q5_0
      obtain rfl := d_isBetween p6_1 q6_1 hb p0_0 gb aL aH
      obtain rfl := aL.ld (gb _ (m_R3 hb p1_0)) p10_0 q10_0
      obtain rfl := d_isBetween p11_1 q11_1 ha p1_0 ga aL aH
      exact absurd p12_0 q12_0
    · intros r1' r4' z43' z46' z49' r51' z55' z58' z61' r63' z67' z70' r73' q0_0 q0_1 q1_0 q1_1 q2_0 q3_0 q4_0 q5_0 q6_0 q6_1 q7_0 q8_0 q9_0 q10_0 q11_0 q11_1 q12_0 q13_0 q14_0 q15_0 q16_0 g0
      subst q3_0
      subst q4_0
      subst q8_0
      subst q9_0
      subst q13_0
      subst q14_0
      subst g0
      obtain rfl := d_axisOf p0_1 q0_1 (aN.mono (fun _ h9 => h9 ▸ na))
      obtain rfl := d_axisOf p1_1 q1_1 (aN.mono (fun _ h9 => h9 ▸ nb))
      obtain rfl := aL.ld (ga _ (m_R3 ha p0_0)) p5_0 q5_0
      obtain rfl := d_isBetween p6_1 q6_1 hb p0_0 gb aL aH
      obtain rfl := aL.ld (gb _ (m_R3 hb p1_0)) p10_0 q10_0
      obtain rfl := d_isBetween p11_1 q11_1 ha p1_0 ga aL aH
      exact absurd p12_0 q12_0
  · intros r1 r4 z43 z46 z49 r51 z55 z58 z61 r63 z67 z70 r73 p0_0 p0_1 p1_0 p1_1 p2_0 p3_0 p4_0 p5_0 p6_0 p6_1 p7_0 p8_0 p9_0 p10_0 p11_0 p11_1 p12_0 p13_0 p14_0 p15_0 p16_0 e0
    subst p3_0
    subst p4_0
    subst p8_0
    subst p9_0
    subst p13_0
    subst p14_0
    subst e0
    refine h' _ ⟨?_, ?_, ?_, ?_, ?_, ?_, ?_, ?_, trivial⟩
    · intros r1' r4' z8' z11' z14' z16' z19' z22' q0_0 q0_1 q1_0 q1_1 q2_0 q3_0 q4_0 q5_0 q6_0 q7_0 q8_0 q9_0 g0
      subst q3_0
      subst q4_0
      subst q6_0
      subst q7_0
      subst g0
      obtain rfl := d_axisOf p0_1 q0_1 (aN.mono (fun _ h9 => h9 ▸ na))
      obtain rfl := d_axisOf p1_1 q1_1 (aN.mono (fun _ h9 => h9 ▸ nb))
      exact absurd q2_0 p2_0
    · intros r1' r4' z8' z11' z14' z16' z19' z22' z25' z28' r31' q0_0 q0_1 q1_0 q1_1 q2_0 q3_0 q4_0 q5_0 q6_0 q7_0 q8_0 q9_0 q10_0 q11_0 q12_0 q13_0 g0
      subst q3_0
      subst q4_0
      subst q6_0
      subst q7_0
      subst q10_0
      subst q11_0
      subst g0
      obtain rfl := d_axisOf p0_1 q0_1 (aN.mono (fun _ h9 => h9 ▸ na))
      obtain rfl := d_axisOf p1_1 q1_1 (aN.mono (fun _ h9 => h9 ▸ nb))
      exact absurd q2_0 p2_0
    · intros r1' r4' z8' z11' z14' z16' z19' z22' z25' z28' r31' z34' z37' r40' q0_0 q0_1 q1_0 q1_1 q2_0 q3_0 q4_0 q5_0 q6_0 q7_0 q8_0 q9_0 q10_0 q11_0 q12_0 q13_0 q14_0 q15_0 q16_0 q17_0 g0
      subst q3_0
      subst q4_0
      subst q6_0
      subst q7_0
      subst q10_0
      subst q11_0
      subst q14_0
      subst q15_0
      subst g0
      obtain rfl := d_axisOf p0_1 q0_1 (aN.mono (fun _ h9 => h9 ▸ na))
      obtain rfl := d_axisOf p1_1 q1_1 (aN.mono (fun _ h9 => h9 ▸ nb))
      exact absurd q2_0 p2_0
    · intros r1' r4' z8' z11' z14' z16' z19' z22' z25' z28' r31' z34' z37' r40' q0_0 q0_1 q1_0 q1_1 q2_0 q3_0 q4_0 q5_0 q6_0 q7_0 q8_0 q9_0 q10_0 q11_0 q12_0 q13_0 q14_0 q15_0 q16_0 q17_0 g0
      subst q3_0
      subst q4_0
      subst q6_0
      subst q7_0
      subst q10_0
      subst q11_0
      subst q14_0
      subst q15_0
      subst g0
      obtain rfl := d_axisOf p0_1 q0_1 (aN.mono (fun _ h9 => h9 ▸ na))
      obtain rfl := d_axisOf p1_1 q1_1 (aN.mono (fun _ h9 => h9 ▸ nb))
      exact absurd q2_0 p2_0
    · intros r1' r4' z43' z46' z49' r51' q0_0 q0_1 q1_0 q1_1 q2_0 q3_0 q4_0 q5_0 q6_0 q6_1 q7_0 g0
      subst q3_0
      subst q4_0
      subst g0
      obtain rfl := d_axisOf p0_1 q0_1 (aN.mono (fun _ h9 => h9 ▸ na))
      obtain rfl := d_axisOf p1_1 q1_1 (aN.mono (fun _ h9 => h9 ▸ nb))
      obtain rfl := aL.ld (ga _ (m_R3 ha p0_0)) p5_0 q5_0
      obtain rfl := d_isBetween p6_1 q6_1 hb p0_0 gb aL aH
      exact absurd q7_0 p7_0
    · intros r1' r4' z43' z46' z49' r51' z55' z58' z61' r63' q0_0 q0_1 q1_0 q1_1 q2_0 q3_0 q4_0 q5_0 q6_0 q6_1 q7_0 q8_0 q9_0 q10_0 q11_0 q11_1 q12_0 g0
      subst q3_0
      subst q4_0
      subst q8_0
      subst q9_0
      subst g0
      obtain rfl := d_axisOf p0_1 q0_1 (aN.mono (fun _ h9 => h9 ▸ na))
      obtain rfl := d_axisOf p1_1 q1_1 (aN.mono (fun _ h9 => h9 ▸ nb))
      obtain rfl := aL.ld (ga _ (m_R3 ha p0_0)) p5_0 q5_0
      obtain rfl := d_isBetween p6_1 q6_1 hb p0_0 gb aL aH
      obtain rfl := aL.ld (gb _ (m_R3 hb p1_0)) p10_0 q10_0
      obtain rfl := d_isBetween p11_1 q11_1 ha p1_0 ga aL aH
      exact absurd q12_0 p12_0
    · intros r1' r4' z43' z46' z49' r51' z55' z58' z61' r63' z67' z70' r73' q0_0 q0_1 q1_0 q1_1 q2_0 q3_0 q4_0 q5_0 q6_0 q6_1 q7_0 q8_0 q9_0 q10_0 q11_0 q11_1 q12_0 q13_0 q14_0 q15_0 q16_0 g0
      subst q3_0
      subst q4_0
      subst q8_0
      subst q9_0
      subst q13_0
      subst q14_0
      subst g0
      obtain rfl := d_axisOf p0_1 q0_1 (aN.mono (fun _ h9 => h9 ▸ na))
      obtain rfl := d_axisOf p1_1 q1_1 (aN.mono (fun _ h9 => h9 ▸ nb))
      obtain rfl := aL.ld (ga _ (m_R3 ha p0_0)) p5_0 q5_0
      obtain rfl := d_isBetween p6_1 q6_1 hb p0_0 gb aL aH
      obtain rfl := aL.ld (gb _ (m_R3 hb p1_0)) p10_0 q10_0
      obtain rfl := d_isBetween p11_1 q11_1 ha p1_0 ga aL aH
      obtain rfl := d_sharedAlong p15_0 q15_0 ha hb (zq33 p0_0 p1_0 p2_0) ga gb aL aH
      rfl
    · intros r1' r4' z43' z46' z49' r51' z55' z58' z61' r63' z67' z70' r73' q0_0 q0_1 q1_0 q1_1 q2_0 q3_0 q4_0 q5_0 q6_0 q6_1 q7_0 q8_0 q9_0 q10_0 q11_0 q11_1 q12_0 q13_0 q14_0 q15_0 q16_0 g0
      subst q3_0
      subst q4_0
      subst q8_0
      subst q9_0
      subst q13_0
      subst q14_0
      subst g0
      obtain rfl := d_axisOf p0_1 q0_1 (aN.mono (fun _ h9 => h9 ▸ na))
      obtain rfl := d_axisOf p1_1 q1_1 (aN.mono (fun _ h9 => h9 ▸ nb))
      obtain rfl := aL.ld (ga _ (m_R3 ha p0_0)) p5_0 q5_0
      obtain rfl := d_isBetween p6_1 q6_1 hb p0_0 gb aL aH
      obtain rfl := aL.ld (gb _ (m_R3 hb p1_0)) p10_0 q10_0
      obtain rfl := d_isBetween p11_1 q11_1 ha p1_0 ga aL aH
      obtain rfl := d_sharedAlong p15_0 q15_0 ha hb (zq33 p0_0 p1_0 p2_0) ga gb aL aH
      exact absurd p16_0 q16_0
  · intros r1 r4 z43 z46 z49 r51 z55 z58 z61 r63 z67 z70 r73 p0_0 p0_1 p1_0 p1_1 p2_0 p3_0 p4_0 p5_0 p6_0 p6_1 p7_0 p8_0 p9_0 p10_0 p11_0 p11_1 p12_0 p13_0 p14_0 p15_0 p16_0 e0
    subst p3_0
    subst p4_0
    subst p8_0
    subst p9_0
    subst p13_0
    subst p14_0
    subst e0
    refine h' _ ⟨?_, ?_, ?_, ?_, ?_, ?_, ?_, ?_, trivial⟩
    · intros r1' r4' z8' z11' z14' z16' z19' z22' q0_0 q0_1 q1_0 q1_1 q2_0 q3_0 q4_0 q5_0 q6_0 q7_0 q8_0 q9_0 g0
      subst q3_0
      subst q4_0
      subst q6_0
      subst q7_0
      subst g0
      obtain rfl := d_axisOf p0_1 q0_1 (aN.mono (fun _ h9 => h9 ▸ na))
      obtain rfl := d_axisOf p1_1 q1_1 (aN.mono (fun _ h9 => h9 ▸ nb))
      exact absurd q2_0 p2_0
    · intros r1' r4' z8' z11' z14' z16' z19' z22' z25' z28' r31' q0_0 q0_1 q1_0 q1_1 q2_0 q3_0 q4_0 q5_0 q6_0 q7_0 q8_0 q9_0 q10_0 q11_0 q12_0 q13_0 g0
      subst q3_0
      subst q4_0
      subst q6_0
      subst q7_0
      subst q10_0
      subst q11_0
      subst g0
      obtain rfl := d_axisOf p0_1 q0_1 (aN.mono (fun _ h9 => h9 ▸ na))
      obtain rfl := d_axisOf p1_1 q1_1 (aN.mono (fun _ h9 => h9 ▸ nb))
      exact absurd q2_0 p2_0
    · intros r1' r4' z8' z11' z14' z16' z19' z22' z25' z28' r31' z34' z37' r40' q0_0 q0_1 q1_0 q1_1 q2_0 q3_0 q4_0 q5_0 q6_0 q7_0 q8_0 q9_0 q10_0 q11_0 q12_0 q13_0 q14_0 q15_0 q16_0 q17_0 g0
      subst q3_0
      subst q4_0
      subst q6_0
      subst q7_0
      subst q10_0
      subst q11_0
      subst q14_0
      subst q15_0
      subst g0
      obtain rfl := d_axisOf p0_1 q0_1 (aN.mono (fun _ h9 => h9 ▸ na))
      obtain rfl := d_axisOf p1_1 q1_1 (aN.mono (fun _ h9 => h9 ▸ nb))
      exact absurd q2_0 p2_0
    · intros r1' r4' z8' z11' z14' z16' z19' z22' z25' z28' r31' z34' z37' r40' q0_0 q0_1 q1_0 q1_1 q2_0 q3_0 q4_0 q5_0 q6_0 q7_0 q8_0 q9_0 q10_0 q11_0 q12_0 q13_0 q14_0 q15_0 q16_0 q17_0 g0
      subst q3_0
      subst q4_0
      subst q6_0
      subst q7_0
      subst q10_0
      subst q11_0
      subst q14_0
      subst q15_0
      subst g0
      obtain rfl := d_axisOf p0_1 q0_1 (aN.mono (fun _ h9 => h9 ▸ na))
      obtain rfl := d_axisOf p1_1 q1_1 (aN.mono (fun _ h9 => h9 ▸ nb))
      exact absurd q2_0 p2_0
    · intros r1' r4' z43' z46' z49' r51' q0_0 q0_1 q1_0 q1_1 q2_0 q3_0 q4_0 q5_0 q6_0 q6_1 q7_0 g0
      subst q3_0
      subst q4_0
      subst g0
      obtain rfl := d_axisOf p0_1 q0_1 (aN.mono (fun _ h9 => h9 ▸ na))
      obtain rfl := d_axisOf p1_1 q1_1 (aN.mono (fun _ h9 => h9 ▸ nb))
      obtain rfl := aL.ld (ga _ (m_R3 ha p0_0)) p5_0 q5_0
      obtain rfl := d_isBetween p6_1 q6_1 hb p0_0 gb aL aH
      exact absurd q7_0 p7_0
    · intros r1' r4' z43' z46' z49' r51' z55' z58' z61' r63' q0_0 q0_1 q1_0 q1_1 q2_0 q3_0 q4_0 q5_0 q6_0 q6_1 q7_0 q8_0 q9_0 q10_0 q11_0 q11_1 q12_0 g0
      subst q3_0
      subst q4_0
      subst q8_0
      subst q9_0
      subst g0
      obtain rfl := d_axisOf p0_1 q0_1 (aN.mono (fun _ h9 => h9 ▸ na))
      obtain rfl := d_axisOf p1_1 q1_1 (aN.mono (fun _ h9 => h9 ▸ nb))
      obtain rfl := aL.ld (ga _ (m_R3 ha p0_0)) p5_0 q5_0
      obtain rfl := d_isBetween p6_1 q6_1 hb p0_0 gb aL aH
      obtain rfl := aL.ld (gb _ (m_R3 hb p1_0)) p10_0 q10_0
      obtain rfl := d_isBetween p11_1 q11_1 ha p1_0 ga aL aH
      exact absurd q12_0 p12_0
    · intros r1' r4' z43' z46' z49' r51' z55' z58' z61' r63' z67' z70' r73' q0_0 q0_1 q1_0 q1_1 q2_0 q3_0 q4_0 q5_0 q6_0 q6_1 q7_0 q8_0 q9_0 q10_0 q11_0 q11_1 q12_0 q13_0 q14_0 q15_0 q16_0 g0
      subst q3_0
      subst q4_0
      subst q8_0
      subst q9_0
      subst q13_0
      subst q14_0
      subst g0
      obtain rfl := d_axisOf p0_1 q0_1 (aN.mono (fun _ h9 => h9 ▸ na))
      obtain rfl := d_axisOf p1_1 q1_1 (aN.mono (fun _ h9 => h9 ▸ nb))
      obtain rfl := aL.ld (ga _ (m_R3 ha p0_0)) p5_0 q5_0
      obtain rfl := d_isBetween p6_1 q6_1 hb p0_0 gb aL aH
      obtain rfl := aL.ld (gb _ (m_R3 hb p1_0)) p10_0 q10_0
      obtain rfl := d_isBetween p11_1 q11_1 ha p1_0 ga aL aH
      obtain rfl := d_sharedAlong p15_0 q15_0 ha hb (zq33 p0_0 p1_0 p2_0) ga gb aL aH
      exact absurd q16_0 p16_0
    · intros r1' r4' z43' z46' z49' r51' z55' z58' z61' r63' z67' z70' r73' q0_0 q0_1 q1_0 q1_1 q2_0 q3_0 q4_0 q5_0 q6_0 q6_1 q7_0 q8_0 q9_0 q10_0 q11_0 q11_1 q12_0 q13_0 q14_0 q15_0 q16_0 g0
      subst q3_0
      subst q4_0
      subst q8_0
      subst q9_0
      subst q13_0
      subst q14_0
      subst g0
      obtain rfl := d_axisOf p0_1 q0_1 (aN.mono (fun _ h9 => h9 ▸ na))
      obtain rfl := d_axisOf p1_1 q1_1 (aN.mono (fun _ h9 => h9 ▸ nb))
      obtain rfl := aL.ld (ga _ (m_R3 ha p0_0)) p5_0 q5_0
      obtain rfl := d_isBetween p6_1 q6_1 hb p0_0 gb aL aH
      obtain rfl := aL.ld (gb _ (m_R3 hb p1_0)) p10_0 q10_0
      obtain rfl := d_isBetween p11_1 q11_1 ha p1_0 ga aL aH
      obtain rfl := d_sharedAlong p15_0 q15_0 ha hb (zq33 p0_0 p1_0 p2_0) ga gb aL aH
      rfl
def B1 (v : Int32) (k : Nat) : Prop := k < v.toInt.toNat
def B3 (v : Int32) (k : Nat) : Prop := k < 3 * v.toInt.toNat
theorem Ag.no {C D : Nat → Int32} : Ag (fun _ => False) C D := fun _ h => h.elim
theorem nat_ {v : Int32} : v.toNatClampNeg = v.toInt.toNat := rfl
theorem R3B {p v : Int32} (h : p.toInt < v.toInt) (h0 : 0 ≤ p.toInt) : ∀ k, R3 p k → B3 v k := fun k ⟨_, b⟩ => by unfold B3; omega
theorem B1p {p v : Int32} (h : p.toInt < v.toInt) (h0 : 0 ≤ p.toInt) : B1 v p.toNatClampNeg := by unfold B1; rw [nat_]; omega
theorem B1s {v z : Int32} (e : z.toInt = v.toInt + 1) (h : 0 ≤ v.toInt) : ∀ k, B1 z k → B1 v k ∨ k = v.toNatClampNeg := fun k hk => by unfold B1 at *; rw [nat_]; omega
theorem B3s {v z : Int32} (e : z.toInt = v.toInt + 1) (h : 0 ≤ v.toInt) : ∀ k, B3 z k → B3 v k ∨ R3 v k := fun k hk => by unfold B3 R3 at *; omega
theorem B1_1 {k : Nat} (h : B1 1 k) : k = (0 : Int32).toNatClampNeg := by
  have e : (1 : Int32).toInt.toNat = 1 := by decide
  have e0 : (0 : Int32).toNatClampNeg = 0 := by decide
  unfold B1 at h; omega
theorem B3_1 {k : Nat} (h : B3 1 k) : R3 0 k := by
  have e : (1 : Int32).toInt.toNat = 1 := by decide
  have e0 : (0 : Int32).toInt.toNat = 0 := by decide
  unfold B3 at h; unfold R3; omega
theorem R3_0 {G : Nat → Prop} : ∀ k, R3 0 k → ((G k ∨ k = (0 : Int32).toNatClampNeg) ∨ k = (1 : Int32).toNatClampNeg) ∨ k = (2 : Int32).toNatClampNeg := fun k ⟨a, b⟩ => by
  have e : (0 : Int32).toInt.toNat = 0 := by decide
  have e0 : (0 : Int32).toNatClampNeg = 0 := by decide
  have e1 : (1 : Int32).toNatClampNeg = 1 := by decide
  have e2 : (2 : Int32).toNatClampNeg = 2 := by decide
  rcases (show k = 0 ∨ k = 1 ∨ k = 2 by omega) with q | q | q
  · exact .inl (.inl (.inr (by omega)))
  · exact .inl (.inr (by omega))
  · exact .inr (by omega)
theorem plt {p v : Int32} (h : p.toInt = 0 ∨ p.toInt < v.toInt) (h1 : 1 ≤ v.toInt) : p.toInt < v.toInt := by omega

theorem u_space {f14 : (Nat → Int32)} {f17 : (Nat → Int32)} {f20 : (Nat → Int32)} {f23 : (Nat → Int32)} {f32 : (Nat → Int32)} {f33 : (Nat → Int32)} {f4 : (Nat → Int32)} {f_h0_now : (Nat → Int32)} {f_h0_told : (Nat → Int32)} {h0_told_3 : Int32} {x1 : Int32} (ht : 1 ≤ h0_told_3.toInt ∧ h0_told_3.toInt ≤ 9) {v555 : Int32} {fn556 : (Nat → Int32)} {fn557 : (Nat → Int32)} {fn558 : (Nat → Int32)} {fn559 : (Nat → Int32)} {fn560 : (Nat → Int32)} {fn561 : (Nat → Int32)} (h : I_laysSpace_64_1 f14 f17 f20 f23 f32 f33 f4 f_h0_now f_h0_told h0_told_3 x1 v555 fn556 fn557 fn558 fn559 fn560 fn561) : 1 ≤ v555.toInt ∧ v555.toInt ≤ h0_told_3.toInt := by
  refine I_laysSpace_64_1.ind (Q_ := fun v555 fn556 fn557 fn558 fn559 fn560 fn561 => 1 ≤ v555.toInt ∧ v555.toInt ≤ h0_told_3.toInt) ?_ ?_ ?_ h
  · have e0_ : (0 : Int32).toInt = 0 := by decide
    have e1_ : (1 : Int32).toInt = 1 := by decide
    have em_ : (-1 : Int32).toInt = -1 := by decide
    omega
  · intro v555 fn556 fn557 fn558 fn559 fn560 fn561 z645 r648 z653 z656 f661 f662 f663 f664 r670 r672 f676 f677 z679 hp ih p0_0 p1_0 p2_0 p2_1 p3_0 p4_0 p5_0 p5_1 p6_0 p7_0 p8_0 p9_0 p10_0
    have e_ : z679.toInt = v555.toInt + 1 := za p10_0 rfl (show (1 : Int32).toInt = 1 by decide) (by omega)
    omega
  · intro v555 fn556 fn557 fn558 fn559 fn560 fn561 z645 r648 z682 z685 f690 f691 f692 f693 r699 r701 f705 f706 z708 hp ih p0_0 p1_0 p2_0 p2_1 p3_0 p4_0 p5_0 p5_1 p6_0 p7_0 p8_0 p9_0 p10_0
    have e_ : z708.toInt = v555.toInt + 1 := za p10_0 rfl (show (1 : Int32).toInt = 1 by decide) (by omega)
    omega
theorem d_space {f14 : (Nat → Int32)} {f17 : (Nat → Int32)} {f20 : (Nat → Int32)} {f23 : (Nat → Int32)} {f32 : (Nat → Int32)} {f33 : (Nat → Int32)} {f4 : (Nat → Int32)} {f_h0_now : (Nat → Int32)} {f_h0_told : (Nat → Int32)} {h0_told_3 : Int32} {x1 : Int32} {f14' : (Nat → Int32)} {f17' : (Nat → Int32)} {f20' : (Nat → Int32)} {f23' : (Nat → Int32)} {f32' : (Nat → Int32)} {f33' : (Nat → Int32)} (ht : 1 ≤ h0_told_3.toInt ∧ h0_told_3.toInt ≤ 9) (a_normal : Ag (B1 1) f23 f23') (a_corner : Ag (B3 1) f14 f14') (a_wayX : Ag (B1 1) f17 f17') (a_wayY : Ag (B1 1) f20 f20') (a_low : Ag (B3 1) f32 f32') (a_high : Ag (B3 1) f33 f33') {v555 : Int32} {fn556 : (Nat → Int32)} {fn557 : (Nat → Int32)} {fn558 : (Nat → Int32)} {fn559 : (Nat → Int32)} {fn560 : (Nat → Int32)} {fn561 : (Nat → Int32)} (h : I_laysSpace_64_1 f14 f17 f20 f23 f32 f33 f4 f_h0_now f_h0_told h0_told_3 x1 v555 fn556 fn557 fn558 fn559 fn560 fn561) : ∀ (v555' : Int32) (fn556' : (Nat → Int32)) (fn557' : (Nat → Int32)) (fn558' : (Nat → Int32)) (fn559' : (Nat → Int32)) (fn560' : (Nat → Int32)) (fn561' : (Nat → Int32)), I_laysSpace_64_1 f14' f17' f20' f23' f32' f33' f4 f_h0_now f_h0_told h0_told_3 x1 v555' fn556' fn557' fn558' fn559' fn560' fn561' → v555 = v555' → Ag (B1 v555) fn556 fn556' ∧ Ag (B3 v555) fn557 fn557' ∧ Ag (B1 v555) fn558 fn558' ∧ Ag (B1 v555) fn559 fn559' ∧ Ag (B3 v555) fn560 fn560' ∧ Ag (B3 v555) fn561 fn561' := by
  refine I_laysSpace_64_1.ind (Q_ := fun v555 fn556 fn557 fn558 fn559 fn560 fn561 => ∀ (v555' : Int32) (fn556' : (Nat → Int32)) (fn557' : (Nat → Int32)) (fn558' : (Nat → Int32)) (fn559' : (Nat → Int32)) (fn560' : (Nat → Int32)) (fn561' : (Nat → Int32)), I_laysSpace_64_1 f14' f17' f20' f23' f32' f33' f4 f_h0_now f_h0_told h0_told_3 x1 v555' fn556' fn557' fn558' fn559' fn560' fn561' → v555 = v555' → Ag (B1 v555) fn556 fn556' ∧ Ag (B3 v555) fn557 fn557' ∧ Ag (B1 v555) fn558 fn558' ∧ Ag (B1 v555) fn559 fn559' ∧ Ag (B3 v555) fn560 fn560' ∧ Ag (B3 v555) fn561 fn561') ?_ ?_ ?_ h
  · intro v555'' fn556'' fn557'' fn558'' fn559'' fn560'' fn561'' h' ev
    rcases I_laysSpace_64_1.inv h' with ⟨rfl, rfl, rfl, rfl, rfl, rfl, rfl⟩ | ⟨v555', fn556', fn557', fn558', fn559', fn560', fn561', z645', r648', z653', z656', f661', f662', f663', f664', r670', r672', f676', f677', z679', hp', q0_0, q1_0, q2_0, q2_1, q3_0, q4_0, q5_0, q5_1, q6_0, q7_0, q8_0, q9_0, q10_0, rfl, rfl, rfl, rfl, rfl, rfl, rfl⟩ | ⟨v555', fn556', fn557', fn558', fn559', fn560', fn561', z645', r648', z682', z685', f690', f691', f692', f693', r699', r701', f705', f706', z708', hp', q0_0, q1_0, q2_0, q2_1, q3_0, q4_0, q5_0, q5_1, q6_0, q7_0, q8_0, q9_0, q10_0, rfl, rfl, rfl, rfl, rfl, rfl, rfl⟩
    · skip
      exact ⟨a_normal, a_corner, a_wayX, a_wayY, a_low, a_high⟩
    · skip
      have u_ := u_space ht hp'
      have e_ := za q10_0 rfl (show (1 : Int32).toInt = 1 by decide) (by omega)
      have ee_ := congrArg Int32.toInt ev
      have e0_ : (0 : Int32).toInt = 0 := by decide
      have e1_ : (1 : Int32).toInt = 1 := by decide
      have em_ : (-1 : Int32).toInt = -1 := by decide
      exfalso; omega
    · skip
      have u_ := u_space ht hp'
      have e_ := za q10_0 rfl (show (1 : Int32).toInt = 1 by decide) (by omega)
      have ee_ := congrArg Int32.toInt ev
      have e0_ : (0 : Int32).toInt = 0 := by decide
      have e1_ : (1 : Int32).toInt = 1 := by decide
      have em_ : (-1 : Int32).toInt = -1 := by decide
      exfalso; omega
  · intro v555 fn556 fn557 fn558 fn559 fn560 fn561 z645 r648 z653 z656 f661 f662 f663 f664 r670 r672 f676 f677 z679 hp ih p0_0 p1_0 p2_0 p2_1 p3_0 p4_0 p5_0 p5_1 p6_0 p7_0 p8_0 p9_0 p10_0 v555'' fn556'' fn557'' fn558'' fn559'' fn560'' fn561'' h' ev
    rcases I_laysSpace_64_1.inv h' with ⟨rfl, rfl, rfl, rfl, rfl, rfl, rfl⟩ | ⟨v555', fn556', fn557', fn558', fn559', fn560', fn561', z645', r648', z653', z656', f661', f662', f663', f664', r670', r672', f676', f677', z679', hp', q0_0, q1_0, q2_0, q2_1, q3_0, q4_0, q5_0, q5_1, q6_0, q7_0, q8_0, q9_0, q10_0, rfl, rfl, rfl, rfl, rfl, rfl, rfl⟩ | ⟨v555', fn556', fn557', fn558', fn559', fn560', fn561', z645', r648', z682', z685', f690', f691', f692', f693', r699', r701', f705', f706', z708', hp', q0_0, q1_0, q2_0, q2_1, q3_0, q4_0, q5_0, q5_1, q6_0, q7_0, q8_0, q9_0, q10_0, rfl, rfl, rfl, rfl, rfl, rfl, rfl⟩
    · skip
      have u_ := u_space ht hp
      have e_ := za p10_0 rfl (show (1 : Int32).toInt = 1 by decide) (by omega)
      have ee_ := congrArg Int32.toInt ev
      have e0_ : (0 : Int32).toInt = 0 := by decide
      have e1_ : (1 : Int32).toInt = 1 := by decide
      have em_ : (-1 : Int32).toInt = -1 := by decide
      exfalso; omega
    · skip
      have ev2 : v555 = v555' := i32c (p10_0.symm.trans (ev.trans q10_0))
      have hi := ih _ _ _ _ _ _ _ hp' ev2
      subst ev2
      have u_ := u_space ht hp
      subst p1_0
      subst p4_0
      subst p5_0
      subst p10_0
      subst q1_0
      subst q4_0
      subst q5_0
      subst q10_0
      obtain rfl := d_isOf p2_1 q2_1
      have hz := parb (b := v555) (by omega) p5_1
      have hz2 := plt hz.2 u_.1
      have k6 := d_goesOnFlat p6_0 q6_0 (by omega) hz.1 hi.2.2.1 hi.2.2.2.1 hi.1 hi.2.1 (B1p hz2 hz.1.1) (R3B hz2 hz.1.1)
      obtain rfl := d_alongX p7_0 q7_0
      obtain rfl := d_alongY p8_0 q8_0
      have k9 := d_ends p9_0 q9_0 (by omega) (k6.2.2.2.mono (fun _ h9 => .inr h9)) (k6.1.mono (fun _ h9 => .inr h9)) (k6.2.1.mono (fun _ h9 => .inr h9)) hi.2.2.2.2.1 hi.2.2.2.2.2
      have e_ : (v555 + 1).toInt = v555.toInt + 1 := za rfl rfl (show (1 : Int32).toInt = 1 by decide) (by omega)
      exact ⟨k6.2.2.1.mono (B1s e_ (by omega)), k6.2.2.2.mono (B3s e_ (by omega)), k6.1.mono (B1s e_ (by omega)), k6.2.1.mono (B1s e_ (by omega)), k9.1.mono (B3s e_ (by omega)), k9.2.mono (B3s e_ (by omega))⟩
    · skip
      have ev2 : v555 = v555' := i32c (p10_0.symm.trans (ev.trans q10_0))
      have hi := ih _ _ _ _ _ _ _ hp' ev2
      subst ev2
      have u_ := u_space ht hp
      subst p1_0
      subst p4_0
      subst p5_0
      subst p10_0
      subst q1_0
      subst q4_0
      subst q5_0
      subst q10_0
      obtain rfl := d_isOf p2_1 q2_1
      exact absurd p3_0 q3_0
  · intro v555 fn556 fn557 fn558 fn559 fn560 fn561 z645 r648 z682 z685 f690 f691 f692 f693 r699 r701 f705 f706 z708 hp ih p0_0 p1_0 p2_0 p2_1 p3_0 p4_0 p5_0 p5_1 p6_0 p7_0 p8_0 p9_0 p10_0 v555'' fn556'' fn557'' fn558'' fn559'' fn560'' fn561'' h' ev
    rcases I_laysSpace_64_1.inv h' with ⟨rfl, rfl, rfl, rfl, rfl, rfl, rfl⟩ | ⟨v555', fn556', fn557', fn558', fn559', fn560', fn561', z645', r648', z653', z656', f661', f662', f663', f664', r670', r672', f676', f677', z679', hp', q0_0, q1_0, q2_0, q2_1, q3_0, q4_0, q5_0, q5_1, q6_0, q7_0, q8_0, q9_0, q10_0, rfl, rfl, rfl, rfl, rfl, rfl, rfl⟩ | ⟨v555', fn556', fn557', fn558', fn559', fn560', fn561', z645', r648', z682', z685', f690', f691', f692', f693', r699', r701', f705', f706', z708', hp', q0_0, q1_0, q2_0, q2_1, q3_0, q4_0, q5_0, q5_1, q6_0, q7_0, q8_0, q9_0, q10_0, rfl, rfl, rfl, rfl, rfl, rfl, rfl⟩
    · skip
      have u_ := u_space ht hp
      have e_ := za p10_0 rfl (show (1 : Int32).toInt = 1 by decide) (by omega)
      have ee_ := congrArg Int32.toInt ev
      have e0_ : (0 : Int32).toInt = 0 := by decide
      have e1_ : (1 : Int32).toInt = 1 := by decide
      have em_ : (-1 : Int32).toInt = -1 := by decide
      exfalso; omega
    · skip
      have ev2 : v555 = v555' := i32c (p10_0.symm.trans (ev.trans q10_0))
      have hi := ih _ _ _ _ _ _ _ hp' ev2
      subst ev2
      have u_ := u_space ht hp
      subst p1_0
      subst p4_0
      subst p5_0
      subst p10_0
      subst q1_0
      subst q4_0
      subst q5_0
      subst q10_0
      obtain rfl := d_isOf p2_1 q2_1
      exact absurd q3_0 p3_0
    · skip
      have ev2 : v555 = v555' := i32c (p10_0.symm.trans (ev.trans q10_0))
      have hi := ih _ _ _ _ _ _ _ hp' ev2
      subst ev2
      have u_ := u_space ht hp
      subst p1_0
      subst p4_0
      subst p5_0
      subst p10_0
      subst q1_0
      subst q4_0
      subst q5_0
      subst q10_0
      obtain rfl := d_isOf p2_1 q2_1
      have hz := parb (b := v555) (by omega) p5_1
      have hz2 := plt hz.2 u_.1
      have k6 := d_standsUp p6_0 q6_0 (by omega) hz.1 hi.2.2.1 hi.2.2.2.1 hi.1 hi.2.1 (B1p hz2 hz.1.1) (R3B hz2 hz.1.1)
      obtain rfl := d_alongX p7_0 q7_0
      obtain rfl := d_alongY p8_0 q8_0
      have k9 := d_ends p9_0 q9_0 (by omega) (k6.2.2.2.mono (fun _ h9 => .inr h9)) (k6.1.mono (fun _ h9 => .inr h9)) (k6.2.1.mono (fun _ h9 => .inr h9)) hi.2.2.2.2.1 hi.2.2.2.2.2
      have e_ : (v555 + 1).toInt = v555.toInt + 1 := za rfl rfl (show (1 : Int32).toInt = 1 by decide) (by omega)
      exact ⟨k6.2.2.1.mono (B1s e_ (by omega)), k6.2.2.2.mono (B3s e_ (by omega)), k6.1.mono (B1s e_ (by omega)), k6.2.1.mono (B1s e_ (by omega)), k9.1.mono (B3s e_ (by omega)), k9.2.mono (B3s e_ (by omega))⟩
theorem d_laysSpace {x1 : Int32} {h0_isLaid : Int32} {f_h0_flats : (Nat → Int32)} {f_h0_told : (Nat → Int32)} {h0_told_3 : Int32} {f_h0_now : (Nat → Int32)} {f_h0_corner : (Nat → Int32)} {f_h0_wayX : (Nat → Int32)} {f_h0_wayY : (Nat → Int32)} {f_h0_normal : (Nat → Int32)} {f_h0_low : (Nat → Int32)} {f_h0_high : (Nat → Int32)} {h0_isLaid' : Int32} {f_h0_flats' : (Nat → Int32)} {f_h0_corner' : (Nat → Int32)} {f_h0_wayX' : (Nat → Int32)} {f_h0_wayY' : (Nat → Int32)} {f_h0_normal' : (Nat → Int32)} {f_h0_low' : (Nat → Int32)} {f_h0_high' : (Nat → Int32)} {o_u_h0_isLaid : Int32} {o_u_h0_flats : (Nat → Int32)} {o_u_h0_corner : (Nat → Int32)} {o_u_h0_wayX : (Nat → Int32)} {o_u_h0_wayY : (Nat → Int32)} {o_u_h0_normal : (Nat → Int32)} {o_u_h0_low : (Nat → Int32)} {o_u_h0_high : (Nat → Int32)} {o_u_h0_isLaid' : Int32} {o_u_h0_flats' : (Nat → Int32)} {o_u_h0_corner' : (Nat → Int32)} {o_u_h0_wayX' : (Nat → Int32)} {o_u_h0_wayY' : (Nat → Int32)} {o_u_h0_normal' : (Nat → Int32)} {o_u_h0_low' : (Nat → Int32)} {o_u_h0_high' : (Nat → Int32)} (h : S_laysSpace x1 h0_isLaid f_h0_flats f_h0_told h0_told_3 f_h0_now f_h0_corner f_h0_wayX f_h0_wayY f_h0_normal f_h0_low f_h0_high o_u_h0_isLaid o_u_h0_flats o_u_h0_corner o_u_h0_wayX o_u_h0_wayY o_u_h0_normal o_u_h0_low o_u_h0_high) (h' : S_laysSpace x1 h0_isLaid' f_h0_flats' f_h0_told h0_told_3 f_h0_now f_h0_corner' f_h0_wayX' f_h0_wayY' f_h0_normal' f_h0_low' f_h0_high' o_u_h0_isLaid' o_u_h0_flats' o_u_h0_corner' o_u_h0_wayX' o_u_h0_wayY' o_u_h0_normal' o_u_h0_low' o_u_h0_high') (ht : 1 ≤ h0_told_3.toInt ∧ h0_told_3.toInt ≤ 9) (hF : o_u_h0_flats = o_u_h0_flats') : Ag (B1 h0_told_3) o_u_h0_normal o_u_h0_normal' ∧ Ag (B3 h0_told_3) o_u_h0_corner o_u_h0_corner' ∧ Ag (B1 h0_told_3) o_u_h0_wayX o_u_h0_wayX' ∧ Ag (B1 h0_told_3) o_u_h0_wayY o_u_h0_wayY' ∧ Ag (B3 h0_told_3) o_u_h0_low o_u_h0_low' ∧ Ag (B3 h0_told_3) o_u_h0_high o_u_h0_high' := by
  have aF1 : Ag (fun _ => False) f_h0_normal f_h0_normal' := Ag.no
  have aF2 : Ag (fun _ => False) f_h0_corner f_h0_corner' := Ag.no
  have aF3 : Ag (fun _ => False) f_h0_wayX f_h0_wayX' := Ag.no
  have aF4 : Ag (fun _ => False) f_h0_wayY f_h0_wayY' := Ag.no
  have aF5 : Ag (fun _ => False) f_h0_low f_h0_low' := Ag.no
  have aF6 : Ag (fun _ => False) f_h0_high f_h0_high' := Ag.no
  rcases h with ⟨v3, f4, f8, f11, f14, f17, f20, f23, z26, z28, f32, f33, v555, fn556, fn557, fn558, fn559, fn560, fn561, p0_0, p0_1, p1_0, p2_0, p3_0, p4_0, p5_0, p6_0, rfl, rfl, p9_0, p10_0, p10_1, p11_0, rfl, rfl, rfl, rfl, rfl, rfl, rfl, rfl⟩ | h
  · rcases h' with ⟨v3', f4', f8', f11', f14', f17', f20', f23', z26', z28', f32', f33', v555', fn556', fn557', fn558', fn559', fn560', fn561', q0_0, q0_1, q1_0, q2_0, q3_0, q4_0, q5_0, q6_0, rfl, rfl, q9_0, q10_0, q10_1, q11_0, rfl, rfl, rfl, rfl, rfl, rfl, rfl, rfl⟩ | h'
    · skip
      have g1 := aF2.st p1_0 q1_0 rfl
      have g2 := g1.st p2_0 q2_0 rfl
      have g3 := g2.st p3_0 q3_0 rfl
      have g4 := aF3.st p4_0 q4_0 rfl
      have g5 := aF4.st p5_0 q5_0 rfl
      have g6 := aF1.st p6_0 q6_0 rfl
      have k9 := d_ends p9_0 q9_0 (by decide) (g3.mono R3_0) (g4.mono (fun _ h9 => .inr h9)) (g5.mono (fun _ h9 => .inr h9)) aF5 aF6
      have u1 := u_space ht p10_0
      have u2 := u_space ht q10_0
      have ev : v555 = v555' := i32e (by omega)
      subst ev
      subst hF
      have k10 := d_space ht (g6.mono (fun _ h9 => .inr (B1_1 h9))) (g3.mono (fun _ h9 => R3_0 (G := fun _ => False) _ (B3_1 h9))) (g4.mono (fun _ h9 => .inr (B1_1 h9))) (g5.mono (fun _ h9 => .inr (B1_1 h9))) (k9.1.mono (fun _ h9 => .inr (B3_1 h9))) (k9.2.mono (fun _ h9 => .inr (B3_1 h9))) p10_0 _ _ _ _ _ _ _ q10_0 rfl
      obtain rfl : v555 = h0_told_3 := i32e (by omega)
      exact ⟨k10.1, k10.2.1, k10.2.2.1, k10.2.2.2.1, k10.2.2.2.2.1, k10.2.2.2.2.2⟩
    · exact h'.elim
  · exact h.elim
theorem u_metByL {f5 : (Nat → Int32)} {f7 : (Nat → Int32)} {f8 : (Nat → Int32)} {h0_told_3 : Int32} (ht : 1 ≤ h0_told_3.toInt ∧ h0_told_3.toInt ≤ 9) {v164 : Int32} {v165 : Int32} (h : I_metBy_9_1 f5 f7 f8 h0_told_3 v164 v165) : 0 ≤ v165.toInt ∧ v165.toInt ≤ h0_told_3.toInt := by
  refine I_metBy_9_1.ind (Q_ := fun v164 v165 => 0 ≤ v165.toInt ∧ v165.toInt ≤ h0_told_3.toInt) ?_ ?_ ?_ h
  · have e0_ : (0 : Int32).toInt = 0 := by decide
    have e1_ : (1 : Int32).toInt = 1 := by decide
    have em_ : (-1 : Int32).toInt = -1 := by decide
    omega
  · intro v164 v165 r196 z200 z203 hp ih p0_0 p1_0 p1_1 p2_0 p3_0 p4_0
    have e_ : z203.toInt = v165.toInt + 1 := za p4_0 rfl (show (1 : Int32).toInt = 1 by decide) (by omega)
    omega
  · intro v164 v165 r196 z206 z209 z212 hp ih p0_0 p1_0 p1_1 p2_0 p3_0 p4_0 p5_0
    have e_ : z212.toInt = v165.toInt + 1 := za p5_0 rfl (show (1 : Int32).toInt = 1 by decide) (by omega)
    omega
theorem d_metByL {f5 : (Nat → Int32)} {f7 : (Nat → Int32)} {f8 : (Nat → Int32)} {h0_told_3 : Int32} {f5' : (Nat → Int32)} {f7' : (Nat → Int32)} {f8' : (Nat → Int32)} (ht : 1 ≤ h0_told_3.toInt ∧ h0_told_3.toInt ≤ 9) (a5 : Ag (fun k => B1 h0_told_3 k ∨ k = (9 : Int32).toNatClampNeg) f5 f5') (a7 : Ag (fun k => B3 h0_told_3 k ∨ R3 9 k) f7 f7') (a8 : Ag (fun k => B3 h0_told_3 k ∨ R3 9 k) f8 f8') {v164 : Int32} {v165 : Int32} (h : I_metBy_9_1 f5 f7 f8 h0_told_3 v164 v165) : ∀ (v164' : Int32) (v165' : Int32), I_metBy_9_1 f5' f7' f8' h0_told_3 v164' v165' → v165 = v165' → v164 = v164' := by
  refine I_metBy_9_1.ind (Q_ := fun v164 v165 => ∀ (v164' : Int32) (v165' : Int32), I_metBy_9_1 f5' f7' f8' h0_told_3 v164' v165' → v165 = v165' → v164 = v164') ?_ ?_ ?_ h
  · intro v164'' v165'' h' ev
    rcases I_metBy_9_1.inv h' with ⟨rfl, rfl⟩ | ⟨v164', v165', r196', z200', z203', hp', q0_0, q1_0, q1_1, q2_0, q3_0, q4_0, rfl, rfl⟩ | ⟨v164', v165', r196', z206', z209', z212', hp', q0_0, q1_0, q1_1, q2_0, q3_0, q4_0, q5_0, rfl, rfl⟩
    · skip
      rfl
    · skip
      have u_ := u_metByL ht hp'
      have e_ := za q4_0 rfl (show (1 : Int32).toInt = 1 by decide) (by omega)
      have ee_ := congrArg Int32.toInt ev
      have e0_ : (0 : Int32).toInt = 0 := by decide
      have e1_ : (1 : Int32).toInt = 1 := by decide
      have em_ : (-1 : Int32).toInt = -1 := by decide
      exfalso; omega
    · skip
      have u_ := u_metByL ht hp'
      have e_ := za q5_0 rfl (show (1 : Int32).toInt = 1 by decide) (by omega)
      have ee_ := congrArg Int32.toInt ev
      have e0_ : (0 : Int32).toInt = 0 := by decide
      have e1_ : (1 : Int32).toInt = 1 := by decide
      have em_ : (-1 : Int32).toInt = -1 := by decide
      exfalso; omega
  · intro v164 v165 r196 z200 z203 hp ih p0_0 p1_0 p1_1 p2_0 p3_0 p4_0 v164'' v165'' h' ev
    rcases I_metBy_9_1.inv h' with ⟨rfl, rfl⟩ | ⟨v164', v165', r196', z200', z203', hp', q0_0, q1_0, q1_1, q2_0, q3_0, q4_0, rfl, rfl⟩ | ⟨v164', v165', r196', z206', z209', z212', hp', q0_0, q1_0, q1_1, q2_0, q3_0, q4_0, q5_0, rfl, rfl⟩
    · skip
      have u_ := u_metByL ht hp
      have e_ := za p4_0 rfl (show (1 : Int32).toInt = 1 by decide) (by omega)
      have ee_ := congrArg Int32.toInt ev
      have e0_ : (0 : Int32).toInt = 0 := by decide
      have e1_ : (1 : Int32).toInt = 1 := by decide
      have em_ : (-1 : Int32).toInt = -1 := by decide
      exfalso; omega
    · skip
      have ev2 : v165 = v165' := i32c (p4_0.symm.trans (ev.trans q4_0))
      have hi := ih _ _ hp' ev2
      subst ev2
      have u_ := u_metByL ht hp
      have he0 := hi
      subst he0
      subst p3_0
      subst p4_0
      subst q3_0
      subst q4_0
      obtain rfl := d_doClash p1_1 q1_1 (by decide) (by omega) (fun _ h9 => .inr h9) (fun k h9 => .inl (R3B (by omega) (by omega) k h9)) a7 a8 a5 (.inr rfl) (.inl (B1p (by omega) (by omega)))
      rfl
    · skip
      have ev2 : v165 = v165' := i32c (p4_0.symm.trans (ev.trans q5_0))
      have hi := ih _ _ hp' ev2
      subst ev2
      have u_ := u_metByL ht hp
      have he0 := hi
      subst he0
      subst p3_0
      subst p4_0
      subst q3_0
      subst q4_0
      subst q5_0
      obtain rfl := d_doClash p1_1 q1_1 (by decide) (by omega) (fun _ h9 => .inr h9) (fun k h9 => .inl (R3B (by omega) (by omega) k h9)) a7 a8 a5 (.inr rfl) (.inl (B1p (by omega) (by omega)))
      exact absurd p2_0 q2_0
  · intro v164 v165 r196 z206 z209 z212 hp ih p0_0 p1_0 p1_1 p2_0 p3_0 p4_0 p5_0 v164'' v165'' h' ev
    rcases I_metBy_9_1.inv h' with ⟨rfl, rfl⟩ | ⟨v164', v165', r196', z200', z203', hp', q0_0, q1_0, q1_1, q2_0, q3_0, q4_0, rfl, rfl⟩ | ⟨v164', v165', r196', z206', z209', z212', hp', q0_0, q1_0, q1_1, q2_0, q3_0, q4_0, q5_0, rfl, rfl⟩
    · skip
      have u_ := u_metByL ht hp
      have e_ := za p5_0 rfl (show (1 : Int32).toInt = 1 by decide) (by omega)
      have ee_ := congrArg Int32.toInt ev
      have e0_ : (0 : Int32).toInt = 0 := by decide
      have e1_ : (1 : Int32).toInt = 1 := by decide
      have em_ : (-1 : Int32).toInt = -1 := by decide
      exfalso; omega
    · skip
      have ev2 : v165 = v165' := i32c (p5_0.symm.trans (ev.trans q4_0))
      have hi := ih _ _ hp' ev2
      subst ev2
      have u_ := u_metByL ht hp
      have he0 := hi
      subst he0
      subst p3_0
      subst p4_0
      subst p5_0
      subst q3_0
      subst q4_0
      obtain rfl := d_doClash p1_1 q1_1 (by decide) (by omega) (fun _ h9 => .inr h9) (fun k h9 => .inl (R3B (by omega) (by omega) k h9)) a7 a8 a5 (.inr rfl) (.inl (B1p (by omega) (by omega)))
      exact absurd q2_0 p2_0
    · skip
      have ev2 : v165 = v165' := i32c (p5_0.symm.trans (ev.trans q5_0))
      have hi := ih _ _ hp' ev2
      subst ev2
      have u_ := u_metByL ht hp
      have he0 := hi
      subst he0
      subst p3_0
      subst p4_0
      subst p5_0
      subst q3_0
      subst q4_0
      subst q5_0
      obtain rfl := d_doClash p1_1 q1_1 (by decide) (by omega) (fun _ h9 => .inr h9) (fun k h9 => .inl (R3B (by omega) (by omega) k h9)) a7 a8 a5 (.inr rfl) (.inl (B1p (by omega) (by omega)))
      rfl
theorem d_metBy {x1 : Int32} {f_h0_wayX : (Nat → Int32)} {f_h0_wayY : (Nat → Int32)} {f_h0_normal : (Nat → Int32)} {f_h0_told : (Nat → Int32)} {h0_told_3 : Int32} {f_h0_corner : (Nat → Int32)} {f_h0_now : (Nat → Int32)} {f_h0_low : (Nat → Int32)} {f_h0_high : (Nat → Int32)} {f_h0_wayX' : (Nat → Int32)} {f_h0_wayY' : (Nat → Int32)} {f_h0_normal' : (Nat → Int32)} {f_h0_corner' : (Nat → Int32)} {f_h0_low' : (Nat → Int32)} {f_h0_high' : (Nat → Int32)} {o_u_h0_wayX : (Nat → Int32)} {o_u_h0_wayY : (Nat → Int32)} {o_u_h0_normal : (Nat → Int32)} {o_u_h0_corner : (Nat → Int32)} {o_u_h0_low : (Nat → Int32)} {o_u_h0_high : (Nat → Int32)} {o_r : Int32} {o_u_h0_wayX' : (Nat → Int32)} {o_u_h0_wayY' : (Nat → Int32)} {o_u_h0_normal' : (Nat → Int32)} {o_u_h0_corner' : (Nat → Int32)} {o_u_h0_low' : (Nat → Int32)} {o_u_h0_high' : (Nat → Int32)} {o_r' : Int32} (h : S_metBy x1 f_h0_wayX f_h0_wayY f_h0_normal f_h0_told h0_told_3 f_h0_corner f_h0_now f_h0_low f_h0_high o_u_h0_wayX o_u_h0_wayY o_u_h0_normal o_u_h0_corner o_u_h0_low o_u_h0_high o_r) (h' : S_metBy x1 f_h0_wayX' f_h0_wayY' f_h0_normal' f_h0_told h0_told_3 f_h0_corner' f_h0_now f_h0_low' f_h0_high' o_u_h0_wayX' o_u_h0_wayY' o_u_h0_normal' o_u_h0_corner' o_u_h0_low' o_u_h0_high' o_r') (ht : 1 ≤ h0_told_3.toInt ∧ h0_told_3.toInt ≤ 9) (hx : 1 ≤ x1.toInt ∧ x1.toInt ≤ 8 ∧ x1.toInt < h0_told_3.toInt) (a_normal : Ag (B1 h0_told_3) f_h0_normal f_h0_normal') (a_corner : Ag (B3 h0_told_3) f_h0_corner f_h0_corner') (a_wayX : Ag (B1 h0_told_3) f_h0_wayX f_h0_wayX') (a_wayY : Ag (B1 h0_told_3) f_h0_wayY f_h0_wayY') (a_low : Ag (B3 h0_told_3) f_h0_low f_h0_low') (a_high : Ag (B3 h0_told_3) f_h0_high f_h0_high') : Ag (B1 h0_told_3) o_u_h0_normal o_u_h0_normal' ∧ Ag (B3 h0_told_3) o_u_h0_corner o_u_h0_corner' ∧ Ag (B1 h0_told_3) o_u_h0_wayX o_u_h0_wayX' ∧ Ag (B1 h0_told_3) o_u_h0_wayY o_u_h0_wayY' ∧ Ag (B3 h0_told_3) o_u_h0_low o_u_h0_low' ∧ Ag (B3 h0_told_3) o_u_h0_high o_u_h0_high' ∧ o_r = o_r' := by
  rcases h with ⟨f3, f4, f5, f6, f7, f8, v164, v165, p0_0, p1_0, p1_1, p1_2, p2_0, rfl, rfl, rfl, rfl, rfl, rfl, rfl⟩ | h
  · rcases h' with ⟨f3', f4', f5', f6', f7', f8', v164', v165', q0_0, q1_0, q1_1, q1_2, q2_0, rfl, rfl, rfl, rfl, rfl, rfl, rfl⟩ | h'
    · skip
      have k1 := d_laysPunch p0_0 q0_0 ⟨hx.1, hx.2.1⟩ a_wayX a_wayY a_normal a_corner a_low a_high (fun p h0 h9 => ⟨B1p (by omega) h0, R3B (by omega) h0⟩)
      have u1 := u_metByL ht p1_0
      have u2 := u_metByL ht q1_0
      have ev : v165 = v165' := i32e (by omega)
      obtain rfl := d_metByL ht k1.2.2.1 k1.2.2.2.2.1 k1.2.2.2.2.2 p1_0 _ _ q1_0 ev
      exact ⟨k1.2.2.1.mono (fun _ h9 => .inl h9), k1.2.2.2.1.mono (fun _ h9 => .inl h9), k1.1.mono (fun _ h9 => .inl h9), k1.2.1.mono (fun _ h9 => .inl h9), k1.2.2.2.2.1.mono (fun _ h9 => .inl h9), k1.2.2.2.2.2.mono (fun _ h9 => .inl h9), rfl⟩
    · exact h'.elim
  · exact h.elim
theorem p_any2 {H L N : Nat → Int32} {t a z v : Int32} (hz : 0 ≤ z.toInt) (ht : t.toInt ≤ 9) (h : I_anyClash_16_2 H L N t a z v) : z.toInt ≤ v.toInt ∧ ∀ b : Int32, z.toInt ≤ b.toInt → b.toInt < v.toInt → ∃ r, S_doClash a b N L H r ∧ r.toInt = 0 := by
  refine I_anyClash_16_2.ind (Q_ := fun v => z.toInt ≤ v.toInt ∧ ∀ b : Int32, z.toInt ≤ b.toInt → b.toInt < v.toInt → ∃ r, S_doClash a b N L H r ∧ r.toInt = 0) ?_ ?_ h
  · exact ⟨Int.le_refl _, fun b h1 h2 => by omega⟩
  · intro v r z2 hp ih g hr s e0 e
    have e_ := za e rfl (show (1 : Int32).toInt = 1 by decide) (by omega)
    refine ⟨by omega, fun b h1 h2 => ?_⟩
    by_cases q : b = v
    · subst q; exact ⟨r, s, e0⟩
    · exact ih.2 b h1 (by have : ¬ b.toInt = v.toInt := fun c => q (i32e c)
                          omega)
theorem p_any1 {H L N : Nat → Int32} {t v : Int32} (ht : 1 ≤ t.toInt ∧ t.toInt ≤ 9) (h : I_anyClash_2_1 H L N t v) : (0 ≤ v.toInt ∧ v.toInt ≤ t.toInt) ∧ ∀ a b : Int32, 0 ≤ a.toInt → a.toInt < v.toInt → a.toInt < b.toInt → b.toInt < t.toInt → ∃ r, S_doClash a b N L H r ∧ r.toInt = 0 := by
  refine I_anyClash_2_1.ind (Q_ := fun v => (0 ≤ v.toInt ∧ v.toInt ≤ t.toInt) ∧ ∀ a b : Int32, 0 ≤ a.toInt → a.toInt < v.toInt → a.toInt < b.toInt → b.toInt < t.toInt → ∃ r, S_doClash a b N L H r ∧ r.toInt = 0) ?_ ?_ h
  · have e0_ : (0 : Int32).toInt = 0 := by decide
    exact ⟨by omega, fun a b h1 h2 => by omega⟩
  · intro v z w z2 hp ih g e i hw x e2
    have e_ := za e rfl (show (1 : Int32).toInt = 1 by decide) (by omega)
    have e2_ := za e2 rfl (show (1 : Int32).toInt = 1 by decide) (by omega)
    refine ⟨by omega, fun a b h1 h2 h3 h4 => ?_⟩
    by_cases q : a = v
    · subst q; exact (p_any2 (by omega) ht.2 i).2 b (by omega) (by omega)
    · exact ih.2 a b h1 (by have : ¬ a.toInt = v.toInt := fun c => q (i32e c)
                            omega) h3 h4
theorem x_any {H L N H' L' N' : Nat → Int32} {t a z v w r : Int32} (ht : 1 ≤ t.toInt ∧ t.toInt ≤ 9) (aN : Ag (B1 t) N N') (aL : Ag (B3 t) L L') (aH : Ag (B3 t) H H') (i : I_anyClash_2_1 H L N t w) (hw : t.toInt ≤ w.toInt) (j : I_anyClash_2_1 H' L' N' t a) (ga : ¬ (t.toInt ≤ a.toInt)) (e : z = a + (1 : Int32)) (k : I_anyClash_16_2 H' L' N' t a z v) (gv : ¬ (t.toInt ≤ v.toInt)) (s : S_doClash a v N' L' H' r) (n : ¬ (r.toInt = 0)) : False := by
  have u1 := p_any1 ht i
  have u2 := p_any1 ht j
  have e_ := za e rfl (show (1 : Int32).toInt = 1 by decide) (by omega)
  have u3 := p_any2 (by omega) ht.2 k
  obtain ⟨q, s0, e0⟩ := u1.2 a v u2.1.1 (by omega) (by omega) (by omega)
  have := d_doClash s0 s (by omega) (by omega) (fun k h => R3B (by omega) (by omega) k h) (fun k h => R3B (by omega) (by omega) k h) aL aH aN (B1p (by omega) (by omega)) (B1p (by omega) (by omega))
  exact n (this ▸ e0)
theorem d_anyClash {N H L N' H' L' : Nat → Int32} {t r r' : Int32} (h : S_anyClash N t L H r) (h' : S_anyClash N' t L' H' r') (ht : 1 ≤ t.toInt ∧ t.toInt ≤ 9) (aN : Ag (B1 t) N N') (aL : Ag (B3 t) L L') (aH : Ag (B3 t) H H') : r = r' := by
  rcases h with ⟨w, i, hw, gw, rfl⟩ | ⟨w, z, v, q, i, hw, gw, e, k, hv, gv, hq, s, n, rfl⟩ | h
  · rcases h' with ⟨w', i', hw', gw', rfl⟩ | ⟨w', z', v', q', i', hw', gw', e', k', hv', gv', hq', s', n', rfl⟩ | h'
    · rfl
    · exact (x_any ht aN aL aH i gw i' gw' e' k' gv' s' n').elim
    · exact h'.elim
  · rcases h' with ⟨w', i', hw', gw', rfl⟩ | ⟨w', z', v', q', i', hw', gw', e', k', hv', gv', hq', s', n', rfl⟩ | h'
    · exact (x_any ht (fun k h => (aN k h).symm) (fun k h => (aL k h).symm) (fun k h => (aH k h).symm) i' gw' i gw e k gv s n).elim
    · rfl
    · exact h'.elim
  · exact h.elim

theorem upd_upd_ {f : Nat → Int32} {i : Nat} {a b : Int32} : upd (upd f i a) i b = upd f i b := by
  funext k; unfold upd; split <;> rfl
theorem upd_id_ {f : Nat → Int32} {i : Nat} : upd f i (f i) = f := by
  funext k; unfold upd; split
  · rename_i h; rw [h]
  · rfl
theorem x_look {x z r0 v : Int32} (u : v.toInt = 0 ∨ ∃ r, S_isOf x z r ∧ r.toInt = 0) (s : S_isOf x z r0) (n : ¬ (r0.toInt = 0)) : v.toInt = 0 := by
  rcases u with u | ⟨r, a, b⟩
  · exact u
  · exact absurd (d_isOf a s ▸ b) n

theorem u3_look {f_h0_told : (Nat → Int32)} {fn3161 : (Nat → Int32)} {fn3162 : (Nat → Int32)} {fn3163 : (Nat → Int32)} {fn3164 : (Nat → Int32)} {fn3165 : (Nat → Int32)} {fn3166 : (Nat → Int32)} {fn3167 : (Nat → Int32)} {h0_told_3 : Int32} {v3159 : Int32} {v3160 : Int32} {x1 : Int32}  {v3851 : Int32} {v3852 : Int32} {fn3853 : (Nat → Int32)} {fn3854 : (Nat → Int32)} {fn3855 : (Nat → Int32)} {fn3856 : (Nat → Int32)} {fn3857 : (Nat → Int32)} {fn3858 : (Nat → Int32)} {fn3859 : (Nat → Int32)} (h : I_looksAt_30_2 f_h0_told fn3161 fn3162 fn3163 fn3164 fn3165 fn3166 fn3167 h0_told_3 v3159 v3160 x1 v3851 v3852 fn3853 fn3854 fn3855 fn3856 fn3857 fn3858 fn3859) : v3852.toInt = 0 ∨ ∃ r, S_isOf x1 (v3160 - (1 : Int32)) r ∧ r.toInt = 0 := by
  refine I_looksAt_30_2.ind (Q_ := fun v3851 v3852 fn3853 fn3854 fn3855 fn3856 fn3857 fn3858 fn3859 => v3852.toInt = 0 ∨ ∃ r, S_isOf x1 (v3160 - (1 : Int32)) r ∧ r.toInt = 0) ?_ ?_ ?_ h
  · exact .inl (by decide)
  · intro v3851 v3852 fn3853 fn3854 fn3855 fn3856 fn3857 fn3858 fn3859 z3966 r3969 z3984 f3987 f3993 f3994 f3995 f3996 f3997 f3998 r3991 z4006 z4009 hp ih p0_0 p1_0 p2_0 p2_1 p3_0 p4_0 p5_0 p6_0 p6_1 p7_0 p8_0 p9_0
    exact .inr ⟨_, p1_0 ▸ p2_1, p3_0⟩
  · intro v3851 v3852 fn3853 fn3854 fn3855 fn3856 fn3857 fn3858 fn3859 z3966 r3969 z3984 f3987 f3993 f3994 f3995 f3996 f3997 f3998 r3991 z4012 z4015 z4018 z4021 z4024 z4027 hp ih p0_0 p1_0 p2_0 p2_1 p3_0 p4_0 p5_0 p6_0 p6_1 p7_0 p8_0 p9_0 p10_0 p11_0 p12_0 p13_0
    exact .inr ⟨_, p1_0 ▸ p2_1, p3_0⟩
theorem u4_look {f_h0_told : (Nat → Int32)} {fn3161 : (Nat → Int32)} {fn3162 : (Nat → Int32)} {fn3163 : (Nat → Int32)} {fn3164 : (Nat → Int32)} {fn3165 : (Nat → Int32)} {fn3166 : (Nat → Int32)} {fn3167 : (Nat → Int32)} {h0_told_3 : Int32} {v3159 : Int32} {v3160 : Int32} {x1 : Int32}  {v3851 : Int32} {v3852 : Int32} {fn3853 : (Nat → Int32)} {fn3854 : (Nat → Int32)} {fn3855 : (Nat → Int32)} {fn3856 : (Nat → Int32)} {fn3857 : (Nat → Int32)} {fn3858 : (Nat → Int32)} {fn3859 : (Nat → Int32)} (h : I_looksAt_30_2 f_h0_told fn3161 fn3162 fn3163 fn3164 fn3165 fn3166 fn3167 h0_told_3 v3159 v3160 x1 v3851 v3852 fn3853 fn3854 fn3855 fn3856 fn3857 fn3858 fn3859) : ∃ w, fn3853 = upd fn3161 ((2 : Int32) + v3160).toNatClampNeg w := by
  refine I_looksAt_30_2.ind (Q_ := fun v3851 v3852 fn3853 fn3854 fn3855 fn3856 fn3857 fn3858 fn3859 => ∃ w, fn3853 = upd fn3161 ((2 : Int32) + v3160).toNatClampNeg w) ?_ ?_ ?_ h
  · exact ⟨_, upd_id_.symm⟩
  · intro v3851 v3852 fn3853 fn3854 fn3855 fn3856 fn3857 fn3858 fn3859 z3966 r3969 z3984 f3987 f3993 f3994 f3995 f3996 f3997 f3998 r3991 z4006 z4009 hp ih p0_0 p1_0 p2_0 p2_1 p3_0 p4_0 p5_0 p6_0 p6_1 p7_0 p8_0 p9_0
    obtain ⟨w, e⟩ := ih
    exact ⟨_, by rw [p5_0, e, p4_0, upd_upd_]⟩
  · intro v3851 v3852 fn3853 fn3854 fn3855 fn3856 fn3857 fn3858 fn3859 z3966 r3969 z3984 f3987 f3993 f3994 f3995 f3996 f3997 f3998 r3991 z4012 z4015 z4018 z4021 z4024 z4027 hp ih p0_0 p1_0 p2_0 p2_1 p3_0 p4_0 p5_0 p6_0 p6_1 p7_0 p8_0 p9_0 p10_0 p11_0 p12_0 p13_0
    obtain ⟨w, e⟩ := ih
    exact ⟨_, by rw [p5_0, e, p4_0, upd_upd_]⟩
theorem u_look2 {f_h0_told : (Nat → Int32)} {fn3161 : (Nat → Int32)} {fn3162 : (Nat → Int32)} {fn3163 : (Nat → Int32)} {fn3164 : (Nat → Int32)} {fn3165 : (Nat → Int32)} {fn3166 : (Nat → Int32)} {fn3167 : (Nat → Int32)} {h0_told_3 : Int32} {v3159 : Int32} {v3160 : Int32} {x1 : Int32}  {v3851 : Int32} {v3852 : Int32} {fn3853 : (Nat → Int32)} {fn3854 : (Nat → Int32)} {fn3855 : (Nat → Int32)} {fn3856 : (Nat → Int32)} {fn3857 : (Nat → Int32)} {fn3858 : (Nat → Int32)} {fn3859 : (Nat → Int32)} (h : I_looksAt_30_2 f_h0_told fn3161 fn3162 fn3163 fn3164 fn3165 fn3166 fn3167 h0_told_3 v3159 v3160 x1 v3851 v3852 fn3853 fn3854 fn3855 fn3856 fn3857 fn3858 fn3859) : 0 ≤ v3852.toInt ∧ v3852.toInt ≤ 2 := by
  refine I_looksAt_30_2.ind (Q_ := fun v3851 v3852 fn3853 fn3854 fn3855 fn3856 fn3857 fn3858 fn3859 => 0 ≤ v3852.toInt ∧ v3852.toInt ≤ 2) ?_ ?_ ?_ h
  · have e0_ : (0 : Int32).toInt = 0 := by decide
    have e1_ : (1 : Int32).toInt = 1 := by decide
    have em_ : (-1 : Int32).toInt = -1 := by decide
    omega
  · intro v3851 v3852 fn3853 fn3854 fn3855 fn3856 fn3857 fn3858 fn3859 z3966 r3969 z3984 f3987 f3993 f3994 f3995 f3996 f3997 f3998 r3991 z4006 z4009 hp ih p0_0 p1_0 p2_0 p2_1 p3_0 p4_0 p5_0 p6_0 p6_1 p7_0 p8_0 p9_0
    have e_ : z4009.toInt = v3852.toInt + 1 := za p9_0 rfl (show (1 : Int32).toInt = 1 by decide) (by omega)
    omega
  · intro v3851 v3852 fn3853 fn3854 fn3855 fn3856 fn3857 fn3858 fn3859 z3966 r3969 z3984 f3987 f3993 f3994 f3995 f3996 f3997 f3998 r3991 z4012 z4015 z4018 z4021 z4024 z4027 hp ih p0_0 p1_0 p2_0 p2_1 p3_0 p4_0 p5_0 p6_0 p6_1 p7_0 p8_0 p9_0 p10_0 p11_0 p12_0 p13_0
    have e_ : z4027.toInt = v3852.toInt + 1 := za p13_0 rfl (show (1 : Int32).toInt = 1 by decide) (by omega)
    omega
theorem d_look2 {f_h0_told : (Nat → Int32)} {fn3161 : (Nat → Int32)} {fn3162 : (Nat → Int32)} {fn3163 : (Nat → Int32)} {fn3164 : (Nat → Int32)} {fn3165 : (Nat → Int32)} {fn3166 : (Nat → Int32)} {fn3167 : (Nat → Int32)} {h0_told_3 : Int32} {v3159 : Int32} {v3160 : Int32} {x1 : Int32} {fn3162' : (Nat → Int32)} {fn3163' : (Nat → Int32)} {fn3164' : (Nat → Int32)} {fn3165' : (Nat → Int32)} {fn3166' : (Nat → Int32)} {fn3167' : (Nat → Int32)} (ht : 1 ≤ h0_told_3.toInt ∧ h0_told_3.toInt ≤ 9) (hv : 1 ≤ v3160.toInt ∧ v3160.toInt < h0_told_3.toInt) (a_normal : Ag (B1 h0_told_3) fn3165 fn3165') (a_corner : Ag (B3 h0_told_3) fn3162 fn3162') (a_wayX : Ag (B1 h0_told_3) fn3163 fn3163') (a_wayY : Ag (B1 h0_told_3) fn3164 fn3164') (a_low : Ag (B3 h0_told_3) fn3166 fn3166') (a_high : Ag (B3 h0_told_3) fn3167 fn3167') {v3851 : Int32} {v3852 : Int32} {fn3853 : (Nat → Int32)} {fn3854 : (Nat → Int32)} {fn3855 : (Nat → Int32)} {fn3856 : (Nat → Int32)} {fn3857 : (Nat → Int32)} {fn3858 : (Nat → Int32)} {fn3859 : (Nat → Int32)} (h : I_looksAt_30_2 f_h0_told fn3161 fn3162 fn3163 fn3164 fn3165 fn3166 fn3167 h0_told_3 v3159 v3160 x1 v3851 v3852 fn3853 fn3854 fn3855 fn3856 fn3857 fn3858 fn3859) : ∀ (v3851' : Int32) (v3852' : Int32) (fn3853' : (Nat → Int32)) (fn3854' : (Nat → Int32)) (fn3855' : (Nat → Int32)) (fn3856' : (Nat → Int32)) (fn3857' : (Nat → Int32)) (fn3858' : (Nat → Int32)) (fn3859' : (Nat → Int32)), I_looksAt_30_2 f_h0_told fn3161 fn3162' fn3163' fn3164' fn3165' fn3166' fn3167' h0_told_3 v3159 v3160 x1 v3851' v3852' fn3853' fn3854' fn3855' fn3856' fn3857' fn3858' fn3859' → v3852 = v3852' → v3851 = v3851' ∧ fn3853 = fn3853' ∧ Ag (B1 h0_told_3) fn3857 fn3857' ∧ Ag (B3 h0_told_3) fn3854 fn3854' ∧ Ag (B1 h0_told_3) fn3855 fn3855' ∧ Ag (B1 h0_told_3) fn3856 fn3856' ∧ Ag (B3 h0_told_3) fn3858 fn3858' ∧ Ag (B3 h0_told_3) fn3859 fn3859' := by
  refine I_looksAt_30_2.ind (Q_ := fun v3851 v3852 fn3853 fn3854 fn3855 fn3856 fn3857 fn3858 fn3859 => ∀ (v3851' : Int32) (v3852' : Int32) (fn3853' : (Nat → Int32)) (fn3854' : (Nat → Int32)) (fn3855' : (Nat → Int32)) (fn3856' : (Nat → Int32)) (fn3857' : (Nat → Int32)) (fn3858' : (Nat → Int32)) (fn3859' : (Nat → Int32)), I_looksAt_30_2 f_h0_told fn3161 fn3162' fn3163' fn3164' fn3165' fn3166' fn3167' h0_told_3 v3159 v3160 x1 v3851' v3852' fn3853' fn3854' fn3855' fn3856' fn3857' fn3858' fn3859' → v3852 = v3852' → v3851 = v3851' ∧ fn3853 = fn3853' ∧ Ag (B1 h0_told_3) fn3857 fn3857' ∧ Ag (B3 h0_told_3) fn3854 fn3854' ∧ Ag (B1 h0_told_3) fn3855 fn3855' ∧ Ag (B1 h0_told_3) fn3856 fn3856' ∧ Ag (B3 h0_told_3) fn3858 fn3858' ∧ Ag (B3 h0_told_3) fn3859 fn3859') ?_ ?_ ?_ h
  · intro v3851'' v3852'' fn3853'' fn3854'' fn3855'' fn3856'' fn3857'' fn3858'' fn3859'' h' ev
    rcases I_looksAt_30_2.inv h' with ⟨rfl, rfl, rfl, rfl, rfl, rfl, rfl, rfl, rfl⟩ | ⟨v3851', v3852', fn3853', fn3854', fn3855', fn3856', fn3857', fn3858', fn3859', z3966', r3969', z3984', f3987', f3993', f3994', f3995', f3996', f3997', f3998', r3991', z4006', z4009', hp', q0_0, q1_0, q2_0, q2_1, q3_0, q4_0, q5_0, q6_0, q6_1, q7_0, q8_0, q9_0, rfl, rfl, rfl, rfl, rfl, rfl, rfl, rfl, rfl⟩ | ⟨v3851', v3852', fn3853', fn3854', fn3855', fn3856', fn3857', fn3858', fn3859', z3966', r3969', z3984', f3987', f3993', f3994', f3995', f3996', f3997', f3998', r3991', z4012', z4015', z4018', z4021', z4024', z4027', hp', q0_0, q1_0, q2_0, q2_1, q3_0, q4_0, q5_0, q6_0, q6_1, q7_0, q8_0, q9_0, q10_0, q11_0, q12_0, q13_0, rfl, rfl, rfl, rfl, rfl, rfl, rfl, rfl, rfl⟩
    · skip
      exact ⟨rfl, rfl, a_normal, a_corner, a_wayX, a_wayY, a_low, a_high⟩
    · skip
      have u_ := u_look2 hp'
      have e_ := za q9_0 rfl (show (1 : Int32).toInt = 1 by decide) (by omega)
      have ee_ := congrArg Int32.toInt ev
      have e0_ : (0 : Int32).toInt = 0 := by decide
      have e1_ : (1 : Int32).toInt = 1 := by decide
      have em_ : (-1 : Int32).toInt = -1 := by decide
      exfalso; omega
    · skip
      have u_ := u_look2 hp'
      have e_ := za q13_0 rfl (show (1 : Int32).toInt = 1 by decide) (by omega)
      have ee_ := congrArg Int32.toInt ev
      have e0_ : (0 : Int32).toInt = 0 := by decide
      have e1_ : (1 : Int32).toInt = 1 := by decide
      have em_ : (-1 : Int32).toInt = -1 := by decide
      exfalso; omega
  · intro v3851 v3852 fn3853 fn3854 fn3855 fn3856 fn3857 fn3858 fn3859 z3966 r3969 z3984 f3987 f3993 f3994 f3995 f3996 f3997 f3998 r3991 z4006 z4009 hp ih p0_0 p1_0 p2_0 p2_1 p3_0 p4_0 p5_0 p6_0 p6_1 p7_0 p8_0 p9_0 v3851'' v3852'' fn3853'' fn3854'' fn3855'' fn3856'' fn3857'' fn3858'' fn3859'' h' ev
    rcases I_looksAt_30_2.inv h' with ⟨rfl, rfl, rfl, rfl, rfl, rfl, rfl, rfl, rfl⟩ | ⟨v3851', v3852', fn3853', fn3854', fn3855', fn3856', fn3857', fn3858', fn3859', z3966', r3969', z3984', f3987', f3993', f3994', f3995', f3996', f3997', f3998', r3991', z4006', z4009', hp', q0_0, q1_0, q2_0, q2_1, q3_0, q4_0, q5_0, q6_0, q6_1, q7_0, q8_0, q9_0, rfl, rfl, rfl, rfl, rfl, rfl, rfl, rfl, rfl⟩ | ⟨v3851', v3852', fn3853', fn3854', fn3855', fn3856', fn3857', fn3858', fn3859', z3966', r3969', z3984', f3987', f3993', f3994', f3995', f3996', f3997', f3998', r3991', z4012', z4015', z4018', z4021', z4024', z4027', hp', q0_0, q1_0, q2_0, q2_1, q3_0, q4_0, q5_0, q6_0, q6_1, q7_0, q8_0, q9_0, q10_0, q11_0, q12_0, q13_0, rfl, rfl, rfl, rfl, rfl, rfl, rfl, rfl, rfl⟩
    · skip
      have u_ := u_look2 hp
      have e_ := za p9_0 rfl (show (1 : Int32).toInt = 1 by decide) (by omega)
      have ee_ := congrArg Int32.toInt ev
      have e0_ : (0 : Int32).toInt = 0 := by decide
      have e1_ : (1 : Int32).toInt = 1 := by decide
      have em_ : (-1 : Int32).toInt = -1 := by decide
      exfalso; omega
    · skip
      have ev2 : v3852 = v3852' := i32c (p9_0.symm.trans (ev.trans q9_0))
      have hi := ih _ _ _ _ _ _ _ _ _ hp' ev2
      subst ev2
      have u_ := u_look2 hp
      have he0 := hi.1
      have he1 := hi.2.1
      subst he0
      subst he1
      subst p1_0
      subst p4_0
      subst p5_0
      subst p8_0
      subst p9_0
      subst q1_0
      subst q4_0
      subst q5_0
      subst q8_0
      subst q9_0
      obtain rfl := d_isOf p2_1 q2_1
      have k6 := d_metBy p6_1 q6_1 ht (by omega) hi.2.2.1 hi.2.2.2.1 hi.2.2.2.2.1 hi.2.2.2.2.2.1 hi.2.2.2.2.2.2.1 hi.2.2.2.2.2.2.2
      obtain rfl := k6.2.2.2.2.2.2
      exact ⟨rfl, rfl, k6.1, k6.2.1, k6.2.2.1, k6.2.2.2.1, k6.2.2.2.2.1, k6.2.2.2.2.2.1⟩
    · skip
      have ev2 : v3852 = v3852' := i32c (p9_0.symm.trans (ev.trans q13_0))
      have hi := ih _ _ _ _ _ _ _ _ _ hp' ev2
      subst ev2
      have u_ := u_look2 hp
      have he0 := hi.1
      have he1 := hi.2.1
      subst he0
      subst he1
      subst p1_0
      subst p4_0
      subst p5_0
      subst p8_0
      subst p9_0
      subst q1_0
      subst q4_0
      subst q5_0
      subst q8_0
      subst q9_0
      subst q10_0
      subst q11_0
      subst q12_0
      subst q13_0
      obtain rfl := d_isOf p2_1 q2_1
      have k6 := d_metBy p6_1 q6_1 ht (by omega) hi.2.2.1 hi.2.2.2.1 hi.2.2.2.2.1 hi.2.2.2.2.2.1 hi.2.2.2.2.2.2.1 hi.2.2.2.2.2.2.2
      obtain rfl := k6.2.2.2.2.2.2
      exact absurd p7_0 q7_0
  · intro v3851 v3852 fn3853 fn3854 fn3855 fn3856 fn3857 fn3858 fn3859 z3966 r3969 z3984 f3987 f3993 f3994 f3995 f3996 f3997 f3998 r3991 z4012 z4015 z4018 z4021 z4024 z4027 hp ih p0_0 p1_0 p2_0 p2_1 p3_0 p4_0 p5_0 p6_0 p6_1 p7_0 p8_0 p9_0 p10_0 p11_0 p12_0 p13_0 v3851'' v3852'' fn3853'' fn3854'' fn3855'' fn3856'' fn3857'' fn3858'' fn3859'' h' ev
    rcases I_looksAt_30_2.inv h' with ⟨rfl, rfl, rfl, rfl, rfl, rfl, rfl, rfl, rfl⟩ | ⟨v3851', v3852', fn3853', fn3854', fn3855', fn3856', fn3857', fn3858', fn3859', z3966', r3969', z3984', f3987', f3993', f3994', f3995', f3996', f3997', f3998', r3991', z4006', z4009', hp', q0_0, q1_0, q2_0, q2_1, q3_0, q4_0, q5_0, q6_0, q6_1, q7_0, q8_0, q9_0, rfl, rfl, rfl, rfl, rfl, rfl, rfl, rfl, rfl⟩ | ⟨v3851', v3852', fn3853', fn3854', fn3855', fn3856', fn3857', fn3858', fn3859', z3966', r3969', z3984', f3987', f3993', f3994', f3995', f3996', f3997', f3998', r3991', z4012', z4015', z4018', z4021', z4024', z4027', hp', q0_0, q1_0, q2_0, q2_1, q3_0, q4_0, q5_0, q6_0, q6_1, q7_0, q8_0, q9_0, q10_0, q11_0, q12_0, q13_0, rfl, rfl, rfl, rfl, rfl, rfl, rfl, rfl, rfl⟩
    · skip
      have u_ := u_look2 hp
      have e_ := za p13_0 rfl (show (1 : Int32).toInt = 1 by decide) (by omega)
      have ee_ := congrArg Int32.toInt ev
      have e0_ : (0 : Int32).toInt = 0 := by decide
      have e1_ : (1 : Int32).toInt = 1 := by decide
      have em_ : (-1 : Int32).toInt = -1 := by decide
      exfalso; omega
    · skip
      have ev2 : v3852 = v3852' := i32c (p13_0.symm.trans (ev.trans q9_0))
      have hi := ih _ _ _ _ _ _ _ _ _ hp' ev2
      subst ev2
      have u_ := u_look2 hp
      have he0 := hi.1
      have he1 := hi.2.1
      subst he0
      subst he1
      subst p1_0
      subst p4_0
      subst p5_0
      subst p8_0
      subst p9_0
      subst p10_0
      subst p11_0
      subst p12_0
      subst p13_0
      subst q1_0
      subst q4_0
      subst q5_0
      subst q8_0
      subst q9_0
      obtain rfl := d_isOf p2_1 q2_1
      have k6 := d_metBy p6_1 q6_1 ht (by omega) hi.2.2.1 hi.2.2.2.1 hi.2.2.2.2.1 hi.2.2.2.2.2.1 hi.2.2.2.2.2.2.1 hi.2.2.2.2.2.2.2
      obtain rfl := k6.2.2.2.2.2.2
      exact absurd q7_0 p7_0
    · skip
      have ev2 : v3852 = v3852' := i32c (p13_0.symm.trans (ev.trans q13_0))
      have hi := ih _ _ _ _ _ _ _ _ _ hp' ev2
      subst ev2
      have u_ := u_look2 hp
      have he0 := hi.1
      have he1 := hi.2.1
      subst he0
      subst he1
      subst p1_0
      subst p4_0
      subst p5_0
      subst p8_0
      subst p9_0
      subst p10_0
      subst p11_0
      subst p12_0
      subst p13_0
      subst q1_0
      subst q4_0
      subst q5_0
      subst q8_0
      subst q9_0
      subst q10_0
      subst q11_0
      subst q12_0
      subst q13_0
      obtain rfl := d_isOf p2_1 q2_1
      have k6 := d_metBy p6_1 q6_1 ht (by omega) hi.2.2.1 hi.2.2.2.1 hi.2.2.2.2.1 hi.2.2.2.2.2.1 hi.2.2.2.2.2.2.1 hi.2.2.2.2.2.2.2
      obtain rfl := k6.2.2.2.2.2.2
      exact ⟨rfl, rfl, k6.1, k6.2.1, k6.2.2.1, k6.2.2.2.1, k6.2.2.2.2.1, k6.2.2.2.2.2.1⟩
theorem u5_look {f10 : (Nat → Int32)} {f5 : (Nat → Int32)} {f6 : (Nat → Int32)} {f7 : (Nat → Int32)} {f8 : (Nat → Int32)} {f9 : (Nat → Int32)} {f_h0_now : (Nat → Int32)} {f_h0_told : (Nat → Int32)} {h0_hasPart : Int32} {h0_told_3 : Int32} {x1 : Int32}  {v3159 : Int32} {v3160 : Int32} {fn3161 : (Nat → Int32)} {fn3162 : (Nat → Int32)} {fn3163 : (Nat → Int32)} {fn3164 : (Nat → Int32)} {fn3165 : (Nat → Int32)} {fn3166 : (Nat → Int32)} {fn3167 : (Nat → Int32)} (h : I_looksAt_9_1 f10 f5 f6 f7 f8 f9 f_h0_now f_h0_told h0_hasPart h0_told_3 x1 v3159 v3160 fn3161 fn3162 fn3163 fn3164 fn3165 fn3166 fn3167) : fn3161 = f_h0_now := by
  refine I_looksAt_9_1.ind (Q_ := fun v3159 v3160 fn3161 fn3162 fn3163 fn3164 fn3165 fn3166 fn3167 => fn3161 = f_h0_now) ?_ ?_ ?_ h
  · rfl
  · intro v3159 v3160 fn3161 fn3162 fn3163 fn3164 fn3165 fn3166 fn3167 r3606 z3617 z3620 v3851 v3852 fn3853 fn3854 fn3855 fn3856 fn3857 fn3858 fn3859 z3956 f3959 z3963 hp ih p0_0 p0_1 p1_0 p2_0 p3_0 p3_1 p4_0 p4_1 p4_2 p5_0 p6_0 p7_0 p8_0
    obtain ⟨w, e⟩ := u4_look p4_0
    rw [p7_0, e, p6_0, p3_0, p2_0, upd_upd_, upd_id_]; exact ih
  · intro v3159 v3160 fn3161 fn3162 fn3163 fn3164 fn3165 fn3166 fn3167 r3606 z3617 z3620 v3851 v3852 fn3853 fn3854 fn3855 fn3856 fn3857 fn3858 fn3859 z3966 r3969 z3974 f3977 z3981 hp ih p0_0 p0_1 p1_0 p2_0 p3_0 p3_1 p4_0 p4_1 p4_2 p5_0 p6_0 p7_0 p7_1 p8_0 p9_0 p10_0 p11_0
    obtain ⟨w, e⟩ := u4_look p4_0
    rw [p10_0, e, p9_0, p3_0, p2_0, upd_upd_, upd_id_]; exact ih
theorem u_look1 {f10 : (Nat → Int32)} {f5 : (Nat → Int32)} {f6 : (Nat → Int32)} {f7 : (Nat → Int32)} {f8 : (Nat → Int32)} {f9 : (Nat → Int32)} {f_h0_now : (Nat → Int32)} {f_h0_told : (Nat → Int32)} {h0_hasPart : Int32} {h0_told_3 : Int32} {x1 : Int32} (ht : 1 ≤ h0_told_3.toInt ∧ h0_told_3.toInt ≤ 9) (hh : h0_hasPart.toInt = 1) {v3159 : Int32} {v3160 : Int32} {fn3161 : (Nat → Int32)} {fn3162 : (Nat → Int32)} {fn3163 : (Nat → Int32)} {fn3164 : (Nat → Int32)} {fn3165 : (Nat → Int32)} {fn3166 : (Nat → Int32)} {fn3167 : (Nat → Int32)} (h : I_looksAt_9_1 f10 f5 f6 f7 f8 f9 f_h0_now f_h0_told h0_hasPart h0_told_3 x1 v3159 v3160 fn3161 fn3162 fn3163 fn3164 fn3165 fn3166 fn3167) : 1 ≤ v3160.toInt ∧ v3160.toInt ≤ h0_told_3.toInt := by
  refine I_looksAt_9_1.ind (Q_ := fun v3159 v3160 fn3161 fn3162 fn3163 fn3164 fn3165 fn3166 fn3167 => 1 ≤ v3160.toInt ∧ v3160.toInt ≤ h0_told_3.toInt) ?_ ?_ ?_ h
  · have e0_ : (0 : Int32).toInt = 0 := by decide
    have e1_ : (1 : Int32).toInt = 1 := by decide
    have em_ : (-1 : Int32).toInt = -1 := by decide
    omega
  · intro v3159 v3160 fn3161 fn3162 fn3163 fn3164 fn3165 fn3166 fn3167 r3606 z3617 z3620 v3851 v3852 fn3853 fn3854 fn3855 fn3856 fn3857 fn3858 fn3859 z3956 f3959 z3963 hp ih p0_0 p0_1 p1_0 p2_0 p3_0 p3_1 p4_0 p4_1 p4_2 p5_0 p6_0 p7_0 p8_0
    have e_ : z3963.toInt = v3160.toInt + 1 := za p8_0 rfl (show (1 : Int32).toInt = 1 by decide) (by omega)
    omega
  · intro v3159 v3160 fn3161 fn3162 fn3163 fn3164 fn3165 fn3166 fn3167 r3606 z3617 z3620 v3851 v3852 fn3853 fn3854 fn3855 fn3856 fn3857 fn3858 fn3859 z3966 r3969 z3974 f3977 z3981 hp ih p0_0 p0_1 p1_0 p2_0 p3_0 p3_1 p4_0 p4_1 p4_2 p5_0 p6_0 p7_0 p7_1 p8_0 p9_0 p10_0 p11_0
    have e_ : z3981.toInt = v3160.toInt + 1 := za p11_0 rfl (show (1 : Int32).toInt = 1 by decide) (by omega)
    omega
theorem d_look1 {f10 : (Nat → Int32)} {f5 : (Nat → Int32)} {f6 : (Nat → Int32)} {f7 : (Nat → Int32)} {f8 : (Nat → Int32)} {f9 : (Nat → Int32)} {f_h0_now : (Nat → Int32)} {f_h0_told : (Nat → Int32)} {h0_hasPart : Int32} {h0_told_3 : Int32} {x1 : Int32} {f10' : (Nat → Int32)} {f5' : (Nat → Int32)} {f6' : (Nat → Int32)} {f7' : (Nat → Int32)} {f8' : (Nat → Int32)} {f9' : (Nat → Int32)} (ht : 1 ≤ h0_told_3.toInt ∧ h0_told_3.toInt ≤ 9) (hh : h0_hasPart.toInt = 1) (a_normal : Ag (B1 h0_told_3) f8 f8') (a_corner : Ag (B3 h0_told_3) f5 f5') (a_wayX : Ag (B1 h0_told_3) f6 f6') (a_wayY : Ag (B1 h0_told_3) f7 f7') (a_low : Ag (B3 h0_told_3) f9 f9') (a_high : Ag (B3 h0_told_3) f10 f10') {v3159 : Int32} {v3160 : Int32} {fn3161 : (Nat → Int32)} {fn3162 : (Nat → Int32)} {fn3163 : (Nat → Int32)} {fn3164 : (Nat → Int32)} {fn3165 : (Nat → Int32)} {fn3166 : (Nat → Int32)} {fn3167 : (Nat → Int32)} (h : I_looksAt_9_1 f10 f5 f6 f7 f8 f9 f_h0_now f_h0_told h0_hasPart h0_told_3 x1 v3159 v3160 fn3161 fn3162 fn3163 fn3164 fn3165 fn3166 fn3167) : ∀ (v3159' : Int32) (v3160' : Int32) (fn3161' : (Nat → Int32)) (fn3162' : (Nat → Int32)) (fn3163' : (Nat → Int32)) (fn3164' : (Nat → Int32)) (fn3165' : (Nat → Int32)) (fn3166' : (Nat → Int32)) (fn3167' : (Nat → Int32)), I_looksAt_9_1 f10' f5' f6' f7' f8' f9' f_h0_now f_h0_told h0_hasPart h0_told_3 x1 v3159' v3160' fn3161' fn3162' fn3163' fn3164' fn3165' fn3166' fn3167' → v3160 = v3160' → v3159 = v3159' ∧ fn3161 = fn3161' ∧ Ag (B1 h0_told_3) fn3165 fn3165' ∧ Ag (B3 h0_told_3) fn3162 fn3162' ∧ Ag (B1 h0_told_3) fn3163 fn3163' ∧ Ag (B1 h0_told_3) fn3164 fn3164' ∧ Ag (B3 h0_told_3) fn3166 fn3166' ∧ Ag (B3 h0_told_3) fn3167 fn3167' := by
  refine I_looksAt_9_1.ind (Q_ := fun v3159 v3160 fn3161 fn3162 fn3163 fn3164 fn3165 fn3166 fn3167 => ∀ (v3159' : Int32) (v3160' : Int32) (fn3161' : (Nat → Int32)) (fn3162' : (Nat → Int32)) (fn3163' : (Nat → Int32)) (fn3164' : (Nat → Int32)) (fn3165' : (Nat → Int32)) (fn3166' : (Nat → Int32)) (fn3167' : (Nat → Int32)), I_looksAt_9_1 f10' f5' f6' f7' f8' f9' f_h0_now f_h0_told h0_hasPart h0_told_3 x1 v3159' v3160' fn3161' fn3162' fn3163' fn3164' fn3165' fn3166' fn3167' → v3160 = v3160' → v3159 = v3159' ∧ fn3161 = fn3161' ∧ Ag (B1 h0_told_3) fn3165 fn3165' ∧ Ag (B3 h0_told_3) fn3162 fn3162' ∧ Ag (B1 h0_told_3) fn3163 fn3163' ∧ Ag (B1 h0_told_3) fn3164 fn3164' ∧ Ag (B3 h0_told_3) fn3166 fn3166' ∧ Ag (B3 h0_told_3) fn3167 fn3167') ?_ ?_ ?_ h
  · intro v3159'' v3160'' fn3161'' fn3162'' fn3163'' fn3164'' fn3165'' fn3166'' fn3167'' h' ev
    rcases I_looksAt_9_1.inv h' with ⟨rfl, rfl, rfl, rfl, rfl, rfl, rfl, rfl, rfl⟩ | ⟨v3159', v3160', fn3161', fn3162', fn3163', fn3164', fn3165', fn3166', fn3167', r3606', z3617', z3620', v3851', v3852', fn3853', fn3854', fn3855', fn3856', fn3857', fn3858', fn3859', z3956', f3959', z3963', hp', q0_0, q0_1, q1_0, q2_0, q3_0, q3_1, q4_0, q4_1, q4_2, q5_0, q6_0, q7_0, q8_0, rfl, rfl, rfl, rfl, rfl, rfl, rfl, rfl, rfl⟩ | ⟨v3159', v3160', fn3161', fn3162', fn3163', fn3164', fn3165', fn3166', fn3167', r3606', z3617', z3620', v3851', v3852', fn3853', fn3854', fn3855', fn3856', fn3857', fn3858', fn3859', z3966', r3969', z3974', f3977', z3981', hp', q0_0, q0_1, q1_0, q2_0, q3_0, q3_1, q4_0, q4_1, q4_2, q5_0, q6_0, q7_0, q7_1, q8_0, q9_0, q10_0, q11_0, rfl, rfl, rfl, rfl, rfl, rfl, rfl, rfl, rfl⟩
    · skip
      exact ⟨rfl, rfl, a_normal, a_corner, a_wayX, a_wayY, a_low, a_high⟩
    · skip
      have u_ := u_look1 ht hh hp'
      have e_ := za q8_0 rfl (show (1 : Int32).toInt = 1 by decide) (by omega)
      have ee_ := congrArg Int32.toInt ev
      have e0_ : (0 : Int32).toInt = 0 := by decide
      have e1_ : (1 : Int32).toInt = 1 := by decide
      have em_ : (-1 : Int32).toInt = -1 := by decide
      exfalso; omega
    · skip
      have u_ := u_look1 ht hh hp'
      have e_ := za q11_0 rfl (show (1 : Int32).toInt = 1 by decide) (by omega)
      have ee_ := congrArg Int32.toInt ev
      have e0_ : (0 : Int32).toInt = 0 := by decide
      have e1_ : (1 : Int32).toInt = 1 := by decide
      have em_ : (-1 : Int32).toInt = -1 := by decide
      exfalso; omega
  · intro v3159 v3160 fn3161 fn3162 fn3163 fn3164 fn3165 fn3166 fn3167 r3606 z3617 z3620 v3851 v3852 fn3853 fn3854 fn3855 fn3856 fn3857 fn3858 fn3859 z3956 f3959 z3963 hp ih p0_0 p0_1 p1_0 p2_0 p3_0 p3_1 p4_0 p4_1 p4_2 p5_0 p6_0 p7_0 p8_0 v3159'' v3160'' fn3161'' fn3162'' fn3163'' fn3164'' fn3165'' fn3166'' fn3167'' h' ev
    rcases I_looksAt_9_1.inv h' with ⟨rfl, rfl, rfl, rfl, rfl, rfl, rfl, rfl, rfl⟩ | ⟨v3159', v3160', fn3161', fn3162', fn3163', fn3164', fn3165', fn3166', fn3167', r3606', z3617', z3620', v3851', v3852', fn3853', fn3854', fn3855', fn3856', fn3857', fn3858', fn3859', z3956', f3959', z3963', hp', q0_0, q0_1, q1_0, q2_0, q3_0, q3_1, q4_0, q4_1, q4_2, q5_0, q6_0, q7_0, q8_0, rfl, rfl, rfl, rfl, rfl, rfl, rfl, rfl, rfl⟩ | ⟨v3159', v3160', fn3161', fn3162', fn3163', fn3164', fn3165', fn3166', fn3167', r3606', z3617', z3620', v3851', v3852', fn3853', fn3854', fn3855', fn3856', fn3857', fn3858', fn3859', z3966', r3969', z3974', f3977', z3981', hp', q0_0, q0_1, q1_0, q2_0, q3_0, q3_1, q4_0, q4_1, q4_2, q5_0, q6_0, q7_0, q7_1, q8_0, q9_0, q10_0, q11_0, rfl, rfl, rfl, rfl, rfl, rfl, rfl, rfl, rfl⟩
    · skip
      have u_ := u_look1 ht hh hp
      have e_ := za p8_0 rfl (show (1 : Int32).toInt = 1 by decide) (by omega)
      have ee_ := congrArg Int32.toInt ev
      have e0_ : (0 : Int32).toInt = 0 := by decide
      have e1_ : (1 : Int32).toInt = 1 := by decide
      have em_ : (-1 : Int32).toInt = -1 := by decide
      exfalso; omega
    · skip
      have ev2 : v3160 = v3160' := i32c (p8_0.symm.trans (ev.trans q8_0))
      have hi := ih _ _ _ _ _ _ _ _ _ hp' ev2
      subst ev2
      have u_ := u_look1 ht hh hp
      have he0 := hi.1
      have he1 := hi.2.1
      subst he0
      subst he1
      subst p2_0
      subst p3_0
      subst p6_0
      subst p8_0
      subst q2_0
      subst q3_0
      subst q6_0
      subst q8_0
      have u1 := u_look2 p4_0
      have u2 := u_look2 q4_0
      have ev : v3852 = v3852' := i32e (by omega)
      subst ev
      have k4 := d_look2 ht (by omega) hi.2.2.1 hi.2.2.2.1 hi.2.2.2.2.1 hi.2.2.2.2.2.1 hi.2.2.2.2.2.2.1 hi.2.2.2.2.2.2.2 p4_0 _ _ _ _ _ _ _ _ _ q4_0 rfl
      have ek1 := k4.1
      have ek2 := k4.2.1
      subst ek1
      subst ek2
      exact ⟨rfl, p7_0.trans q7_0.symm, k4.2.2.1, k4.2.2.2.1, k4.2.2.2.2.1, k4.2.2.2.2.2.1, k4.2.2.2.2.2.2.1, k4.2.2.2.2.2.2.2⟩
    · skip
      have ev2 : v3160 = v3160' := i32c (p8_0.symm.trans (ev.trans q11_0))
      have hi := ih _ _ _ _ _ _ _ _ _ hp' ev2
      subst ev2
      have u_ := u_look1 ht hh hp
      have he0 := hi.1
      have he1 := hi.2.1
      subst he0
      subst he1
      subst p2_0
      subst p3_0
      subst p6_0
      subst p8_0
      subst q2_0
      subst q3_0
      subst q6_0
      subst q9_0
      subst q11_0
      have u1 := u_look2 p4_0
      have u2 := u_look2 q4_0
      have z2 := x_look (u3_look q4_0) q7_1 q8_0
      have z3 := x_look (u3_look p4_0) q7_1 q8_0
      exfalso; omega
  · intro v3159 v3160 fn3161 fn3162 fn3163 fn3164 fn3165 fn3166 fn3167 r3606 z3617 z3620 v3851 v3852 fn3853 fn3854 fn3855 fn3856 fn3857 fn3858 fn3859 z3966 r3969 z3974 f3977 z3981 hp ih p0_0 p0_1 p1_0 p2_0 p3_0 p3_1 p4_0 p4_1 p4_2 p5_0 p6_0 p7_0 p7_1 p8_0 p9_0 p10_0 p11_0 v3159'' v3160'' fn3161'' fn3162'' fn3163'' fn3164'' fn3165'' fn3166'' fn3167'' h' ev
    rcases I_looksAt_9_1.inv h' with ⟨rfl, rfl, rfl, rfl, rfl, rfl, rfl, rfl, rfl⟩ | ⟨v3159', v3160', fn3161', fn3162', fn3163', fn3164', fn3165', fn3166', fn3167', r3606', z3617', z3620', v3851', v3852', fn3853', fn3854', fn3855', fn3856', fn3857', fn3858', fn3859', z3956', f3959', z3963', hp', q0_0, q0_1, q1_0, q2_0, q3_0, q3_1, q4_0, q4_1, q4_2, q5_0, q6_0, q7_0, q8_0, rfl, rfl, rfl, rfl, rfl, rfl, rfl, rfl, rfl⟩ | ⟨v3159', v3160', fn3161', fn3162', fn3163', fn3164', fn3165', fn3166', fn3167', r3606', z3617', z3620', v3851', v3852', fn3853', fn3854', fn3855', fn3856', fn3857', fn3858', fn3859', z3966', r3969', z3974', f3977', z3981', hp', q0_0, q0_1, q1_0, q2_0, q3_0, q3_1, q4_0, q4_1, q4_2, q5_0, q6_0, q7_0, q7_1, q8_0, q9_0, q10_0, q11_0, rfl, rfl, rfl, rfl, rfl, rfl, rfl, rfl, rfl⟩
    · skip
      have u_ := u_look1 ht hh hp
      have e_ := za p11_0 rfl (show (1 : Int32).toInt = 1 by decide) (by omega)
      have ee_ := congrArg Int32.toInt ev
      have e0_ : (0 : Int32).toInt = 0 := by decide
      have e1_ : (1 : Int32).toInt = 1 := by decide
      have em_ : (-1 : Int32).toInt = -1 := by decide
      exfalso; omega
    · skip
      have ev2 : v3160 = v3160' := i32c (p11_0.symm.trans (ev.trans q8_0))
      have hi := ih _ _ _ _ _ _ _ _ _ hp' ev2
      subst ev2
      have u_ := u_look1 ht hh hp
      have he0 := hi.1
      have he1 := hi.2.1
      subst he0
      subst he1
      subst p2_0
      subst p3_0
      subst p6_0
      subst p9_0
      subst p11_0
      subst q2_0
      subst q3_0
      subst q6_0
      subst q8_0
      have u1 := u_look2 p4_0
      have u2 := u_look2 q4_0
      have z1 := x_look (u3_look p4_0) p7_1 p8_0
      have z3 := x_look (u3_look q4_0) p7_1 p8_0
      exfalso; omega
    · skip
      have ev2 : v3160 = v3160' := i32c (p11_0.symm.trans (ev.trans q11_0))
      have hi := ih _ _ _ _ _ _ _ _ _ hp' ev2
      subst ev2
      have u_ := u_look1 ht hh hp
      have he0 := hi.1
      have he1 := hi.2.1
      subst he0
      subst he1
      subst p2_0
      subst p3_0
      subst p6_0
      subst p9_0
      subst p11_0
      subst q2_0
      subst q3_0
      subst q6_0
      subst q9_0
      subst q11_0
      have u1 := u_look2 p4_0
      have u2 := u_look2 q4_0
      have z1 := x_look (u3_look p4_0) p7_1 p8_0
      have z2 := x_look (u3_look q4_0) q7_1 q8_0
      have ev : v3852 = v3852' := i32e (by omega)
      subst ev
      have k4 := d_look2 ht (by omega) hi.2.2.1 hi.2.2.2.1 hi.2.2.2.2.1 hi.2.2.2.2.2.1 hi.2.2.2.2.2.2.1 hi.2.2.2.2.2.2.2 p4_0 _ _ _ _ _ _ _ _ _ q4_0 rfl
      have ek1 := k4.1
      have ek2 := k4.2.1
      subst ek1
      subst ek2
      obtain rfl := d_isOf p7_1 q7_1
      exact ⟨rfl, p10_0.trans q10_0.symm, k4.2.2.1, k4.2.2.2.1, k4.2.2.2.2.1, k4.2.2.2.2.2.1, k4.2.2.2.2.2.2.1, k4.2.2.2.2.2.2.2⟩
theorem u_laysSpace {x1 : Int32} {h0_isLaid : Int32} {f_h0_flats : (Nat → Int32)} {f_h0_told : (Nat → Int32)} {h0_told_3 : Int32} {f_h0_now : (Nat → Int32)} {f_h0_corner : (Nat → Int32)} {f_h0_wayX : (Nat → Int32)} {f_h0_wayY : (Nat → Int32)} {f_h0_normal : (Nat → Int32)} {f_h0_low : (Nat → Int32)} {f_h0_high : (Nat → Int32)} {o_u_h0_isLaid : Int32} {o_u_h0_flats : (Nat → Int32)} {o_u_h0_corner : (Nat → Int32)} {o_u_h0_wayX : (Nat → Int32)} {o_u_h0_wayY : (Nat → Int32)} {o_u_h0_normal : (Nat → Int32)} {o_u_h0_low : (Nat → Int32)} {o_u_h0_high : (Nat → Int32)} (h : S_laysSpace x1 h0_isLaid f_h0_flats f_h0_told h0_told_3 f_h0_now f_h0_corner f_h0_wayX f_h0_wayY f_h0_normal f_h0_low f_h0_high o_u_h0_isLaid o_u_h0_flats o_u_h0_corner o_u_h0_wayX o_u_h0_wayY o_u_h0_normal o_u_h0_low o_u_h0_high) : o_u_h0_isLaid.toInt = 1 ∧ (¬ (h0_isLaid.toInt = 0) → o_u_h0_flats = f_h0_flats) := by
  rcases h with ⟨v3, f4, f8, f11, f14, f17, f20, f23, z26, z28, f32, f33, v555, fn556, fn557, fn558, fn559, fn560, fn561, p0_0, p0_1, p1_0, p2_0, p3_0, p4_0, p5_0, p6_0, p7_0, p8_0, p9_0, p10_0, p10_1, p11_0, rfl, rfl, rfl, rfl, rfl, rfl, rfl, rfl⟩ | h
  · skip
    refine ⟨by omega, fun n => ?_⟩
    rcases p0_1 with ⟨_, _, _, _, _, _, _, _, c, _⟩ | ⟨c, _, e⟩ | q
    · exact absurd c n
    · exact e
    · exact q.elim
  · exact h.elim
theorem u_looksAt {x1 : Int32} {h0_hasPart : Int32} {h0_isLaid : Int32} {f_h0_flats : (Nat → Int32)} {f_h0_told : (Nat → Int32)} {h0_told_3 : Int32} {f_h0_now : (Nat → Int32)} {f_h0_corner : (Nat → Int32)} {f_h0_wayX : (Nat → Int32)} {f_h0_wayY : (Nat → Int32)} {f_h0_normal : (Nat → Int32)} {f_h0_low : (Nat → Int32)} {f_h0_high : (Nat → Int32)} {o_u_h0_isLaid : Int32} {o_u_h0_flats : (Nat → Int32)} {o_u_h0_now : (Nat → Int32)} {o_u_h0_corner : (Nat → Int32)} {o_u_h0_wayX : (Nat → Int32)} {o_u_h0_wayY : (Nat → Int32)} {o_u_h0_normal : (Nat → Int32)} {o_u_h0_low : (Nat → Int32)} {o_u_h0_high : (Nat → Int32)} {o_r : Int32} (h : S_looksAt x1 h0_hasPart h0_isLaid f_h0_flats f_h0_told h0_told_3 f_h0_now f_h0_corner f_h0_wayX f_h0_wayY f_h0_normal f_h0_low f_h0_high o_u_h0_isLaid o_u_h0_flats o_u_h0_now o_u_h0_corner o_u_h0_wayX o_u_h0_wayY o_u_h0_normal o_u_h0_low o_u_h0_high o_r) : o_u_h0_now = f_h0_now ∧ o_u_h0_isLaid.toInt = 1 ∧ (¬ (h0_isLaid.toInt = 0) → o_u_h0_flats = f_h0_flats) := by
  rcases h with ⟨v3, f4, f5, f6, f7, f8, f9, f10, v3159, v3160, fn3161, fn3162, fn3163, fn3164, fn3165, fn3166, fn3167, r3606, r3610, p0_0, p0_1, p1_0, p1_1, p1_2, p2_0, p2_1, p3_0, p4_0, p4_1, p5_0, rfl, rfl, rfl, rfl, rfl, rfl, rfl, rfl, rfl, rfl⟩ | ⟨v3, f4, f5, f6, f7, f8, f9, f10, v3159, v3160, fn3161, fn3162, fn3163, fn3164, fn3165, fn3166, fn3167, r3606, r3610, z3614, p0_0, p0_1, p1_0, p1_1, p1_2, p2_0, p2_1, p3_0, p4_0, p4_1, p5_0, p6_0, rfl, rfl, rfl, rfl, rfl, rfl, rfl, rfl, rfl, rfl⟩ | h
  · skip
    have u1 := u_laysSpace p0_1
    exact ⟨u5_look p1_0, u1⟩
  · skip
    have u1 := u_laysSpace p0_1
    exact ⟨u5_look p1_0, u1⟩
  · exact h.elim
theorem d_looksAt {x1 : Int32} {h0_hasPart : Int32} {h0_isLaid : Int32} {f_h0_flats : (Nat → Int32)} {f_h0_told : (Nat → Int32)} {h0_told_3 : Int32} {f_h0_now : (Nat → Int32)} {f_h0_corner : (Nat → Int32)} {f_h0_wayX : (Nat → Int32)} {f_h0_wayY : (Nat → Int32)} {f_h0_normal : (Nat → Int32)} {f_h0_low : (Nat → Int32)} {f_h0_high : (Nat → Int32)} {h0_isLaid' : Int32} {f_h0_flats' : (Nat → Int32)} {f_h0_corner' : (Nat → Int32)} {f_h0_wayX' : (Nat → Int32)} {f_h0_wayY' : (Nat → Int32)} {f_h0_normal' : (Nat → Int32)} {f_h0_low' : (Nat → Int32)} {f_h0_high' : (Nat → Int32)} {o_u_h0_isLaid : Int32} {o_u_h0_flats : (Nat → Int32)} {o_u_h0_now : (Nat → Int32)} {o_u_h0_corner : (Nat → Int32)} {o_u_h0_wayX : (Nat → Int32)} {o_u_h0_wayY : (Nat → Int32)} {o_u_h0_normal : (Nat → Int32)} {o_u_h0_low : (Nat → Int32)} {o_u_h0_high : (Nat → Int32)} {o_r : Int32} {o_u_h0_isLaid' : Int32} {o_u_h0_flats' : (Nat → Int32)} {o_u_h0_now' : (Nat → Int32)} {o_u_h0_corner' : (Nat → Int32)} {o_u_h0_wayX' : (Nat → Int32)} {o_u_h0_wayY' : (Nat → Int32)} {o_u_h0_normal' : (Nat → Int32)} {o_u_h0_low' : (Nat → Int32)} {o_u_h0_high' : (Nat → Int32)} {o_r' : Int32} (h : S_looksAt x1 h0_hasPart h0_isLaid f_h0_flats f_h0_told h0_told_3 f_h0_now f_h0_corner f_h0_wayX f_h0_wayY f_h0_normal f_h0_low f_h0_high o_u_h0_isLaid o_u_h0_flats o_u_h0_now o_u_h0_corner o_u_h0_wayX o_u_h0_wayY o_u_h0_normal o_u_h0_low o_u_h0_high o_r) (h' : S_looksAt x1 h0_hasPart h0_isLaid' f_h0_flats' f_h0_told h0_told_3 f_h0_now f_h0_corner' f_h0_wayX' f_h0_wayY' f_h0_normal' f_h0_low' f_h0_high' o_u_h0_isLaid' o_u_h0_flats' o_u_h0_now' o_u_h0_corner' o_u_h0_wayX' o_u_h0_wayY' o_u_h0_normal' o_u_h0_low' o_u_h0_high' o_r') (ht : 1 ≤ h0_told_3.toInt ∧ h0_told_3.toInt ≤ 9) (hh : h0_hasPart.toInt = 1) (hF : o_u_h0_flats = o_u_h0_flats') : o_r = o_r' := by
  rcases h with ⟨v3, f4, f5, f6, f7, f8, f9, f10, v3159, v3160, fn3161, fn3162, fn3163, fn3164, fn3165, fn3166, fn3167, r3606, r3610, p0_0, p0_1, p1_0, p1_1, p1_2, p2_0, p2_1, p3_0, p4_0, p4_1, p5_0, rfl, rfl, rfl, rfl, rfl, rfl, rfl, rfl, rfl, rfl⟩ | ⟨v3, f4, f5, f6, f7, f8, f9, f10, v3159, v3160, fn3161, fn3162, fn3163, fn3164, fn3165, fn3166, fn3167, r3606, r3610, z3614, p0_0, p0_1, p1_0, p1_1, p1_2, p2_0, p2_1, p3_0, p4_0, p4_1, p5_0, rfl, rfl, rfl, rfl, rfl, rfl, rfl, rfl, rfl, rfl, rfl⟩ | h
  · rcases h' with ⟨v3', f4', f5', f6', f7', f8', f9', f10', v3159', v3160', fn3161', fn3162', fn3163', fn3164', fn3165', fn3166', fn3167', r3606', r3610', q0_0, q0_1, q1_0, q1_1, q1_2, q2_0, q2_1, q3_0, q4_0, q4_1, q5_0, rfl, rfl, rfl, rfl, rfl, rfl, rfl, rfl, rfl, rfl⟩ | ⟨v3', f4', f5', f6', f7', f8', f9', f10', v3159', v3160', fn3161', fn3162', fn3163', fn3164', fn3165', fn3166', fn3167', r3606', r3610', z3614', q0_0, q0_1, q1_0, q1_1, q1_2, q2_0, q2_1, q3_0, q4_0, q4_1, q5_0, rfl, rfl, rfl, rfl, rfl, rfl, rfl, rfl, rfl, rfl, rfl⟩ | h'
    · skip
      have k0 := d_laysSpace p0_1 q0_1 ht hF
      have u1 := u_look1 ht hh p1_0
      have u2 := u_look1 ht hh q1_0
      have ev : v3160 = v3160' := i32e (by omega)
      have k1 := d_look1 ht hh k0.1 k0.2.1 k0.2.2.1 k0.2.2.2.1 k0.2.2.2.2.1 k0.2.2.2.2.2 p1_0 _ _ _ _ _ _ _ _ _ q1_0 ev
      obtain rfl := k1.1
      obtain rfl := d_anyClash p4_1 q4_1 ht k1.2.2.1 k1.2.2.2.2.2.2.1 k1.2.2.2.2.2.2.2
      rfl
    · skip
      have k0 := d_laysSpace p0_1 q0_1 ht hF
      have u1 := u_look1 ht hh p1_0
      have u2 := u_look1 ht hh q1_0
      have ev : v3160 = v3160' := i32e (by omega)
      have k1 := d_look1 ht hh k0.1 k0.2.1 k0.2.2.1 k0.2.2.2.1 k0.2.2.2.2.1 k0.2.2.2.2.2 p1_0 _ _ _ _ _ _ _ _ _ q1_0 ev
      obtain rfl := k1.1
      obtain rfl := d_anyClash p4_1 q4_1 ht k1.2.2.1 k1.2.2.2.2.2.2.1 k1.2.2.2.2.2.2.2
      exact absurd p5_0 q5_0
    · exact h'.elim
  · rcases h' with ⟨v3', f4', f5', f6', f7', f8', f9', f10', v3159', v3160', fn3161', fn3162', fn3163', fn3164', fn3165', fn3166', fn3167', r3606', r3610', q0_0, q0_1, q1_0, q1_1, q1_2, q2_0, q2_1, q3_0, q4_0, q4_1, q5_0, rfl, rfl, rfl, rfl, rfl, rfl, rfl, rfl, rfl, rfl⟩ | ⟨v3', f4', f5', f6', f7', f8', f9', f10', v3159', v3160', fn3161', fn3162', fn3163', fn3164', fn3165', fn3166', fn3167', r3606', r3610', z3614', q0_0, q0_1, q1_0, q1_1, q1_2, q2_0, q2_1, q3_0, q4_0, q4_1, q5_0, rfl, rfl, rfl, rfl, rfl, rfl, rfl, rfl, rfl, rfl, rfl⟩ | h'
    · skip
      have k0 := d_laysSpace p0_1 q0_1 ht hF
      have u1 := u_look1 ht hh p1_0
      have u2 := u_look1 ht hh q1_0
      have ev : v3160 = v3160' := i32e (by omega)
      have k1 := d_look1 ht hh k0.1 k0.2.1 k0.2.2.1 k0.2.2.2.1 k0.2.2.2.2.1 k0.2.2.2.2.2 p1_0 _ _ _ _ _ _ _ _ _ q1_0 ev
      obtain rfl := k1.1
      obtain rfl := d_anyClash p4_1 q4_1 ht k1.2.2.1 k1.2.2.2.2.2.2.1 k1.2.2.2.2.2.2.2
      exact absurd q5_0 p5_0
    · skip
      have k0 := d_laysSpace p0_1 q0_1 ht hF
      have u1 := u_look1 ht hh p1_0
      have u2 := u_look1 ht hh q1_0
      have ev : v3160 = v3160' := i32e (by omega)
      have k1 := d_look1 ht hh k0.1 k0.2.1 k0.2.2.1 k0.2.2.2.1 k0.2.2.2.2.1 k0.2.2.2.2.2 p1_0 _ _ _ _ _ _ _ _ _ q1_0 ev
      obtain rfl := k1.1
      obtain rfl := d_anyClash p4_1 q4_1 ht k1.2.2.1 k1.2.2.2.2.2.2.1 k1.2.2.2.2.2.2.2
      rfl
    · exact h'.elim
  · exact h.elim
