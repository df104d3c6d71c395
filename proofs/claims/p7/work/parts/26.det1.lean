theorem ix3 {x a : Int32} (hx : 0 ≤ x.toInt ∧ x.toInt ≤ 9) (ha : 0 ≤ a.toInt ∧ a.toInt ≤ 2) : ((3 : Int32) * x + a).toNatClampNeg = 3 * x.toInt.toNat + a.toInt.toNat := by
  have h1 : ((3 : Int32) * x).toInt = 3 * x.toInt := zm rfl (by decide) rfl (by omega)
  have h2 : ((3 : Int32) * x + a).toInt = 3 * x.toInt + a.toInt := za rfl h1 rfl (by omega)
  show ((3 : Int32) * x + a).toInt.toNat = _
  omega
def Ag (G : Nat → Prop) (C D : Nat → Int32) : Prop := ∀ k, G k → C k = D k
theorem Ag.mono {G K : Nat → Prop} {C D : Nat → Int32} (h : Ag G C D) (q : ∀ k, K k → G k) : Ag K C D := fun k hk => h k (q k hk)
theorem Ag.up {G : Nat → Prop} {C D : Nat → Int32} (h : Ag G C D) (j : Nat) {v w : Int32} (e : v = w) : Ag (fun k => G k ∨ k = j) (upd C j v) (upd D j w) := by
  intro k hk; unfold upd; by_cases q : k = j
  · simp [q, e]
  · simp [q]; exact h k (hk.resolve_right q)
theorem d_lesser {a b r r' : Int32} (h : S_lesser a b r) (h' : S_lesser a b r') : r = r' := by
  unfold S_lesser at *; grind
theorem d_greater {a b r r' : Int32} (h : S_greater a b r) (h' : S_greater a b r') : r = r' := by
  unfold S_greater at *; grind
theorem d_isOf {a b r r' : Int32} (h : S_isOf a b r) (h' : S_isOf a b r') : r = r' := by
  unfold S_isOf at *; grind
theorem d_sideOf {a b r r' : Int32} {f} (h : S_sideOf a b f r) (h' : S_sideOf a b f r') : r = r' := by
  unfold S_sideOf at *; grind (splits := 40)
theorem d_alongX {a r r' : Int32} {f} (h : S_alongX a f r) (h' : S_alongX a f r') : r = r' := by
  obtain ⟨q, h1, e1⟩ | h := h
  · obtain ⟨q', h1', e1'⟩ | h' := h'
    · rw [e1, e1', d_sideOf h1 h1']
    · exact h'.elim
  · exact h.elim
theorem d_alongY {a r r' : Int32} {f} (h : S_alongY a f r) (h' : S_alongY a f r') : r = r' := by
  obtain ⟨q, h1, e1⟩ | h := h
  · obtain ⟨q', h1', e1'⟩ | h' := h'
    · rw [e1, e1', d_sideOf h1 h1']
    · exact h'.elim
  · exact h.elim
theorem d_moves {G : Nat → Prop} {f w y : Int32} {C C' D D' : Nat → Int32} (h : S_moves f w y C C') (h' : S_moves f w y D D') (a : Ag G C D) : Ag G C' D' := by
  unfold S_moves at *; intro k hk; have := a k hk
  rcases h with ⟨z2, z5, z8, z11, z14, f16, c, rfl, rfl, rfl, rfl, rfl, rfl, rfl⟩ | ⟨z18, z21, z24, z27, z30, z33, z35, f37, c, rfl, rfl, rfl, rfl, rfl, rfl, rfl, rfl, rfl⟩ | h
  · rcases h' with ⟨z2, z5, z8, z11, z14, f16, c', rfl, rfl, rfl, rfl, rfl, rfl, rfl⟩ | ⟨z18, z21, z24, z27, z30, z33, z35, f37, c', rfl, rfl, rfl, rfl, rfl, rfl, rfl, rfl, rfl⟩ | h'
    · unfold upd; split <;> grind
    · exact absurd c c'
    · exact h'.elim
  · rcases h' with ⟨z2, z5, z8, z11, z14, f16, c', rfl, rfl, rfl, rfl, rfl, rfl, rfl⟩ | ⟨z18, z21, z24, z27, z30, z33, z35, f37, c', rfl, rfl, rfl, rfl, rfl, rfl, rfl, rfl, rfl⟩ | h'
    · exact absurd c' c
    · unfold upd; split <;> grind
    · exact h'.elim
  · exact h.elim
def R3 (f : Int32) (k : Nat) : Prop := 3 * f.toInt.toNat ≤ k ∧ k < 3 * f.toInt.toNat + 3
theorem Ag.ld {G : Nat → Prop} {C D : Nat → Int32} (h : Ag G C D) {j : Nat} (g : G j) {v w : Int32} (e : v = C j) (e' : w = D j) : v = w := by rw [e, e', h j g]
theorem Ag.st {G : Nat → Prop} {C D C' D' : Nat → Int32} (h : Ag G C D) {j : Nat} {v w : Int32} (e1 : C' = upd C j v) (e2 : D' = upd D j w) (e : v = w) : Ag (fun k => G k ∨ k = j) C' D' := by
  subst e1 e2; exact h.up j e
theorem d_copies {G : Nat → Prop} {f p : Int32} {C C' D D' : Nat → Int32} (h : S_copiesCorner f p C C') (h' : S_copiesCorner f p D D') (hf : 0 ≤ f.toInt ∧ f.toInt ≤ 9) (hp : 0 ≤ p.toInt ∧ p.toInt ≤ 8) (a : Ag G C D) (g : ∀ k, R3 p k → G k) : Ag (fun k => G k ∨ R3 f k) C' D' := by
  obtain ⟨_, _, _, _, v1, c1, _, _, _, _, v2, c2, _, _, _, _, v3, c3, rfl, rfl, rfl, rfl, e1, f1, rfl, rfl, rfl, rfl, e2, f2, rfl, rfl, rfl, rfl, e3, f3, rfl⟩ | h := h
  · obtain ⟨_, _, _, _, v1', c1', _, _, _, _, v2', c2', _, _, _, _, v3', c3', rfl, rfl, rfl, rfl, e1', f1', rfl, rfl, rfl, rfl, e2', f2', rfl, rfl, rfl, rfl, e3', f3', rfl⟩ | h' := h'
    · have p0 := ix3 (x := p) (a := 0) (by omega) (by decide)
      have p1 := ix3 (x := p) (a := 1) (by omega) (by decide)
      have p2 := ix3 (x := p) (a := 2) (by omega) (by decide)
      have q0 := ix3 (x := f) (a := 0) (by omega) (by decide)
      have q1 := ix3 (x := f) (a := 1) (by omega) (by decide)
      have q2 := ix3 (x := f) (a := 2) (by omega) (by decide)
      rw [show (0 : Int32).toInt.toNat = 0 by decide] at p0 q0
      rw [show (1 : Int32).toInt.toNat = 1 by decide] at p1 q1
      rw [show (2 : Int32).toInt.toNat = 2 by decide] at p2 q2
      have a1 := a.st f1 f1' (a.ld (g _ (by rw [p0]; constructor <;> omega)) e1 e1')
      have a2 := a1.st f2 f2' (a1.ld (.inl (g _ (by rw [p1]; constructor <;> omega))) e2 e2')
      have a3 := a2.st f3 f3' (a2.ld (.inl (.inl (g _ (by rw [p2]; constructor <;> omega)))) e3 e3')
      refine a3.mono (fun k hk => ?_)
      rcases hk with hk | ⟨h1, h2⟩
      · exact .inl (.inl (.inl hk))
      · rw [q0, q1, q2]
        rcases (show k = 3 * f.toInt.toNat + 0 ∨ k = 3 * f.toInt.toNat + 1 ∨ k = 3 * f.toInt.toNat + 2 by omega) with q | q | q
        · exact .inl (.inl (.inr q))
        · exact .inl (.inr q)
        · exact .inr q
    · exact h'.elim
  · exact h.elim
theorem i32c {a b c : Int32} (h : a + c = b + c) : a = b := by
  have : a + c - c = b + c - c := by rw [h]
  simpa using this
theorem i32e {a b : Int32} (h : a.toInt = b.toInt) : a = b := Int32.toInt_inj.mp h
theorem incE {v z : Int32} {U : Int} (g : ¬ (U ≤ v.toInt)) (hU : U ≤ 2147483647) (e : z = v + 1) : z.toInt = v.toInt + 1 := by
  have := zr v
  exact za e rfl (show (1 : Int32).toInt = 1 by decide) (by omega)
theorem inc_le {v : Int32} {a U : Int} (h : a ≤ v.toInt) (g : ¬ (U ≤ v.toInt)) (hU : U ≤ 2147483647 := by first | decide | exact Int.le_of_lt_add_one (zr _).2) : a ≤ (v + 1).toInt := by
  have := incE g hU (rfl : v + 1 = v + 1); omega
theorem inc_ne {v z s : Int32} {U : Int} (h : s.toInt ≤ v.toInt) (g : ¬ (U ≤ v.toInt)) (e : z = v + 1) (hU : U ≤ 2147483647 := by first | decide | exact Int.le_of_lt_add_one (zr _).2) : ¬ z = s := by
  intro q; have := incE g hU e; rw [q] at this; omega
def Rn (f v : Int32) (k : Nat) : Prop := 3 * f.toInt.toNat ≤ k ∧ k < 3 * f.toInt.toNat + v.toInt.toNat
theorem m_R3 {f v : Int32} (hf : 0 ≤ f.toInt ∧ f.toInt ≤ 9) (hv : 0 ≤ v.toInt ∧ v.toInt ≤ 2) : R3 f ((3 : Int32) * f + v).toNatClampNeg := by
  unfold R3; rw [ix3 hf hv]; omega
theorem Rn0 {G : Nat → Prop} {f : Int32} : ∀ k, (G k ∨ Rn f 0 k) → G k := fun k h => h.resolve_right (fun ⟨a, b⟩ => by
  have : (0 : Int32).toInt.toNat = 0 := by decide
  omega)
theorem Rns {G : Nat → Prop} {f v : Int32} (hf : 0 ≤ f.toInt ∧ f.toInt ≤ 9) (hv : 0 ≤ v.toInt ∧ v.toInt ≤ 2) : ∀ k, (G k ∨ Rn f (v + 1) k) → (G k ∨ Rn f v k) ∨ k = ((3 : Int32) * f + v).toNatClampNeg := by
  intro k h
  have e : (v + 1).toInt = v.toInt + 1 := za rfl rfl (by decide) (by omega)
  rw [ix3 hf hv]
  rcases h with h | ⟨a, b⟩
  · exact .inl (.inl h)
  · by_cases q : k = 3 * f.toInt.toNat + v.toInt.toNat
    · exact .inr q
    · exact .inl (.inr ⟨a, by omega⟩)
theorem Rn3 {G : Nat → Prop} {f v : Int32} (h : 3 ≤ v.toInt) : ∀ k, (G k ∨ R3 f k) → G k ∨ Rn f v k := fun k q => q.imp id (fun ⟨a, b⟩ => ⟨a, by omega⟩)
theorem c_iEnds0 {C H0 L0 X Y L H : Nat → Int32} {f lx ly v : Int32} (h : I_laysEnds_3_1 C H0 L0 X Y f lx ly v L H) : 0 ≤ v.toInt := by
  refine I_laysEnds_3_1.ind (Q_ := fun v L H => 0 ≤ v.toInt) ?_ ?_ ?_ ?_ ?_ ?_ h
  · decide
  · intro v724 fn725 fn726 z921 z924 z927 z929 z932 z936 z940 z943 z947 z950 z954 z958 z961 z965 z968 z971 r974 f976 z978 z981 z984 r987 f989 z991 hp ih p0_0 p1_0 p2_0 p3_0 p4_0 p4_1 p5_0 p6_0 p7_0 p7_1 p8_0 p9_0 p10_0 p11_0 p11_1 p12_0 p13_0 p14_0 p14_1 p15_0 p16_0 p17_0 p18_0 p19_0 p20_0 p21_0 p22_0 p23_0 p24_0 p25_0 p26_0 p27_0 p28_0
    rw [p28_0]; exact inc_le ih p0_0
  · intro v724 fn725 fn726 z921 z924 z927 z929 z932 z936 z940 z943 z947 z950 z954 z958 z961 z994 z996 z999 z1002 r1004 f1006 z1008 z1011 z1014 r1016 f1018 z1020 hp ih p0_0 p1_0 p2_0 p3_0 p4_0 p4_1 p5_0 p6_0 p7_0 p7_1 p8_0 p9_0 p10_0 p11_0 p11_1 p12_0 p13_0 p14_0 p14_1 p15_0 p16_0 p17_0 p18_0 p19_0 p20_0 p21_0 p22_0 p23_0 p24_0 p25_0 p26_0 p27_0 p28_0 p29_0
    rw [p29_0]; exact inc_le ih p0_0
  · intro v724 fn725 fn726 z921 z924 z927 z929 z932 z936 z940 z943 z947 z950 z1023 z1026 z1029 r1031 f1033 z1035 z1038 z1041 r1043 f1045 z1047 hp ih p0_0 p1_0 p2_0 p3_0 p4_0 p4_1 p5_0 p6_0 p7_0 p7_1 p8_0 p9_0 p10_0 p11_0 p11_1 p12_0 p13_0 p14_0 p15_0 p16_0 p17_0 p18_0 p19_0 p20_0 p21_0 p22_0 p23_0 p24_0
    rw [p24_0]; exact inc_le ih p0_0
  · intro v724 fn725 fn726 z921 z924 z927 z929 z932 z936 z940 z943 z1050 z1052 z1055 z1058 r1060 f1062 z1064 z1067 z1070 r1072 f1074 z1076 hp ih p0_0 p1_0 p2_0 p3_0 p4_0 p4_1 p5_0 p6_0 p7_0 p7_1 p8_0 p9_0 p10_0 p11_0 p12_0 p13_0 p14_0 p15_0 p16_0 p17_0 p18_0 p19_0 p20_0 p21_0 p22_0
    rw [p22_0]; exact inc_le ih p0_0
  · intro v724 fn725 fn726 z921 z924 z927 z929 z932 z1079 z1082 z1085 r1087 f1089 z1091 z1094 z1097 r1099 f1101 z1103 hp ih p0_0 p1_0 p2_0 p3_0 p4_0 p4_1 p5_0 p6_0 p7_0 p8_0 p9_0 p10_0 p11_0 p12_0 p13_0 p14_0 p15_0 p16_0 p17_0
    rw [p17_0]; exact inc_le ih p0_0
theorem c_iEnds {C H0 L0 X Y L H : Nat → Int32} {f lx ly v : Int32} (h : I_laysEnds_3_1 C H0 L0 X Y f lx ly v L H) (g : ¬ ((3 : Int) ≤ v.toInt)) : 0 ≤ v.toInt ∧ v.toInt ≤ 2 := ⟨c_iEnds0 h, by omega⟩
theorem c_iEnds_ne {C H0 L0 X Y L H : Nat → Int32} {f lx ly v z : Int32} (h : I_laysEnds_3_1 C H0 L0 X Y f lx ly v L H) (g : ¬ ((3 : Int) ≤ v.toInt)) (e : z = v + 1) : ¬ z = (0 : Int32) := inc_ne (c_iEnds0 h) g e

theorem d_iEnds {G : Nat → Prop} {C X Y L0 H0 C2 X2 Y2 L2 H2 : Nat → Int32} {f lx ly : Int32} (hf : 0 ≤ f.toInt ∧ f.toInt ≤ 9) (aC : Ag (R3 f) C C2) (aX : Ag (fun k => k = f.toNatClampNeg) X X2) (aY : Ag (fun k => k = f.toNatClampNeg) Y Y2) (aL : Ag G L0 L2) (aH : Ag G H0 H2) {v : Int32} {L H : Nat → Int32} (h : I_laysEnds_3_1 C H0 L0 X Y f lx ly v L H) : ∀ (v' : Int32) (L' H' : Nat → Int32), I_laysEnds_3_1 C2 H2 L2 X2 Y2 f lx ly v' L' H' → v = v' → Ag (fun k => G k ∨ Rn f v k) L L' ∧ Ag (fun k => G k ∨ Rn f v k) H H' := by
  refine I_laysEnds_3_1.ind (Q_ := fun v L H => ∀ (v' : Int32) (L' H' : Nat → Int32), I_laysEnds_3_1 C2 H2 L2 X2 Y2 f lx ly v' L' H' → v = v' → Ag (fun k => G k ∨ Rn f v k) L L' ∧ Ag (fun k => G k ∨ Rn f v k) H H') ?_ ?_ ?_ ?_ ?_ ?_ h
  · intro v724'' fn725'' fn726'' h' ev
    revert ev
    refine I_laysEnds_3_1.ind (Q_ := fun v'  L' H'  => (0 : Int32) = v' → Ag (fun k => G k ∨ Rn f (0 : Int32) k) _ L' ∧ Ag (fun k => G k ∨ Rn f (0 : Int32) k) _ H') ?_ ?_ ?_ ?_ ?_ ?_ h'
    · intro ev
      exact ⟨aL.mono Rn0, aH.mono Rn0⟩
    · intros v724' fn725' fn726' z921' z924' z927' z929' z932' z936' z940' z943' z947' z950' z954' z958' z961' z965' z968' z971' r974' f976' z978' z981' z984' r987' f989' z991' hp' ih2 q0_0 q1_0 q2_0 q3_0 q4_0 q4_1 q5_0 q6_0 q7_0 q7_1 q8_0 q9_0 q10_0 q11_0 q11_1 q12_0 q13_0 q14_0 q14_1 q15_0 q16_0 q17_0 q18_0 q19_0 q20_0 q21_0 q22_0 q23_0 q24_0 q25_0 q26_0 q27_0 q28_0 ev
      exact absurd (ev.symm) (c_iEnds_ne hp' q0_0 q28_0)
    · intros v724' fn725' fn726' z921' z924' z927' z929' z932' z936' z940' z943' z947' z950' z954' z958' z961' z994' z996' z999' z1002' r1004' f1006' z1008' z1011' z1014' r1016' f1018' z1020' hp' ih2 q0_0 q1_0 q2_0 q3_0 q4_0 q4_1 q5_0 q6_0 q7_0 q7_1 q8_0 q9_0 q10_0 q11_0 q11_1 q12_0 q13_0 q14_0 q14_1 q15_0 q16_0 q17_0 q18_0 q19_0 q20_0 q21_0 q22_0 q23_0 q24_0 q25_0 q26_0 q27_0 q28_0 q29_0 ev
      exact absurd (ev.symm) (c_iEnds_ne hp' q0_0 q29_0)
    · intros v724' fn725' fn726' z921' z924' z927' z929' z932' z936' z940' z943' z947' z950' z1023' z1026' z1029' r1031' f1033' z1035' z1038' z1041' r1043' f1045' z1047' hp' ih2 q0_0 q1_0 q2_0 q3_0 q4_0 q4_1 q5_0 q6_0 q7_0 q7_1 q8_0 q9_0 q10_0 q11_0 q11_1 q12_0 q13_0 q14_0 q15_0 q16_0 q17_0 q18_0 q19_0 q20_0 q21_0 q22_0 q23_0 q24_0 ev
      exact absurd (ev.symm) (c_iEnds_ne hp' q0_0 q24_0)
    · intros v724' fn725' fn726' z921' z924' z927' z929' z932' z936' z940' z943' z1050' z1052' z1055' z1058' r1060' f1062' z1064' z1067' z1070' r1072' f1074' z1076' hp' ih2 q0_0 q1_0 q2_0 q3_0 q4_0 q4_1 q5_0 q6_0 q7_0 q7_1 q8_0 q9_0 q10_0 q11_0 q12_0 q13_0 q14_0 q15_0 q16_0 q17_0 q18_0 q19_0 q20_0 q21_0 q22_0 ev
      exact absurd (ev.symm) (c_iEnds_ne hp' q0_0 q22_0)
    · intros v724' fn725' fn726' z921' z924' z927' z929' z932' z1079' z1082' z1085' r1087' f1089' z1091' z1094' z1097' r1099' f1101' z1103' hp' ih2 q0_0 q1_0 q2_0 q3_0 q4_0 q4_1 q5_0 q6_0 q7_0 q8_0 q9_0 q10_0 q11_0 q12_0 q13_0 q14_0 q15_0 q16_0 q17_0 ev
      exact absurd (ev.symm) (c_iEnds_ne hp' q0_0 q17_0)
  · intro v724 fn725 fn726 z921 z924 z927 z929 z932 z936 z940 z943 z947 z950 z954 z958 z961 z965 z968 z971 r974 f976 z978 z981 z984 r987 f989 z991 hp ih p0_0 p1_0 p2_0 p3_0 p4_0 p4_1 p5_0 p6_0 p7_0 p7_1 p8_0 p9_0 p10_0 p11_0 p11_1 p12_0 p13_0 p14_0 p14_1 p15_0 p16_0 p17_0 p18_0 p19_0 p20_0 p21_0 p22_0 p23_0 p24_0 p25_0 p26_0 p27_0 p28_0 v724'' fn725'' fn726'' h' ev
    revert ev
    refine I_laysEnds_3_1.ind (Q_ := fun v'  L' H'  => z991 = v' → Ag (fun k => G k ∨ Rn f z991 k) f976 L' ∧ Ag (fun k => G k ∨ Rn f z991 k) f989 H') ?_ ?_ ?_ ?_ ?_ ?_ h'
    · intro ev
      exact absurd (ev) (c_iEnds_ne hp p0_0 p28_0)
    · intros v724' fn725' fn726' z921' z924' z927' z929' z932' z936' z940' z943' z947' z950' z954' z958' z961' z965' z968' z971' r974' f976' z978' z981' z984' r987' f989' z991' hp' ih2 q0_0 q1_0 q2_0 q3_0 q4_0 q4_1 q5_0 q6_0 q7_0 q7_1 q8_0 q9_0 q10_0 q11_0 q11_1 q12_0 q13_0 q14_0 q14_1 q15_0 q16_0 q17_0 q18_0 q19_0 q20_0 q21_0 q22_0 q23_0 q24_0 q25_0 q26_0 q27_0 q28_0 ev
      have ev2 : v724 = v724' := i32c (p28_0.symm.trans (ev.trans q28_0))
      have hi := ih _ _ _ hp' ev2
      subst ev2
      have hv := c_iEnds hp p0_0
      subst p1_0
      subst p2_0
      subst p5_0
      subst p8_0
      subst p9_0
      subst p12_0
      subst p15_0
      subst p16_0
      subst p18_0
      subst p19_0
      subst p20_0
      subst p23_0
      subst p24_0
      subst p25_0
      subst p28_0
      subst q1_0
      subst q2_0
      subst q5_0
      subst q8_0
      subst q9_0
      subst q12_0
      subst q15_0
      subst q16_0
      subst q18_0
      subst q19_0
      subst q20_0
      subst q23_0
      subst q24_0
      subst q25_0
      subst q28_0
      obtain rfl := aC.ld (m_R3 hf hv) p3_0 q3_0
      obtain rfl := aX.ld rfl p4_0 q4_0
      obtain rfl := aX.ld rfl p7_0 q7_0
      obtain rfl := aY.ld rfl p11_0 q11_0
      obtain rfl := aY.ld rfl p14_0 q14_0
      obtain rfl := d_lesser p21_0 q21_0
      have g22 := hi.1.st p22_0 q22_0 rfl
      obtain rfl := d_greater p26_0 q26_0
      have g27 := hi.2.st p27_0 q27_0 rfl
      exact ⟨g22.mono (Rns hf hv), g27.mono (Rns hf hv)⟩
    · intros v724' fn725' fn726' z921' z924' z927' z929' z932' z936' z940' z943' z947' z950' z954' z958' z961' z994' z996' z999' z1002' r1004' f1006' z1008' z1011' z1014' r1016' f1018' z1020' hp' ih2 q0_0 q1_0 q2_0 q3_0 q4_0 q4_1 q5_0 q6_0 q7_0 q7_1 q8_0 q9_0 q10_0 q11_0 q11_1 q12_0 q13_0 q14_0 q14_1 q15_0 q16_0 q17_0 q18_0 q19_0 q20_0 q21_0 q22_0 q23_0 q24_0 q25_0 q26_0 q27_0 q28_0 q29_0 ev
      have ev2 : v724 = v724' := i32c (p28_0.symm.trans (ev.trans q29_0))
      have hi := ih _ _ _ hp' ev2
      subst ev2
      have hv := c_iEnds hp p0_0
      subst p1_0
      subst p2_0
      subst p5_0
      subst p8_0
      subst p9_0
      subst p12_0
      subst p15_0
      subst p16_0
      subst p18_0
      subst p19_0
      subst p20_0
      subst p23_0
      subst p24_0
      subst p25_0
      subst p28_0
      subst q1_0
      subst q2_0
      subst q5_0
      subst q8_0
      subst q9_0
      subst q12_0
      subst q15_0
      subst q16_0
      subst q18_0
      subst q19_0
      subst q20_0
      subst q21_0
      subst q24_0
      subst q25_0
      subst q26_0
      subst q29_0
      obtain rfl := aC.ld (m_R3 hf hv) p3_0 q3_0
      obtain rfl := aX.ld rfl p4_0 q4_0
      obtain rfl := aX.ld rfl p7_0 q7_0
      obtain rfl := aY.ld rfl p11_0 q11_0
      obtain rfl := aY.ld rfl p14_0 q14_0
      exact absurd q17_0 p17_0
    · intros v724' fn725' fn726' z921' z924' z927' z929' z932' z936' z940' z943' z947' z950' z1023' z1026' z1029' r1031' f1033' z1035' z1038' z1041' r1043' f1045' z1047' hp' ih2 q0_0 q1_0 q2_0 q3_0 q4_0 q4_1 q5_0 q6_0 q7_0 q7_1 q8_0 q9_0 q10_0 q11_0 q11_1 q12_0 q13_0 q14_0 q15_0 q16_0 q17_0 q18_0 q19_0 q20_0 q21_0 q22_0 q23_0 q24_0 ev
      have ev2 : v724 = v724' := i32c (p28_0.symm.trans (ev.trans q24_0))
      have hi := ih _ _ _ hp' ev2
      subst ev2
      have hv := c_iEnds hp p0_0
      subst p1_0
      subst p2_0
      subst p5_0
      subst p8_0
      subst p9_0
      subst p12_0
      subst p15_0
      subst p16_0
      subst p18_0
      subst p19_0
      subst p20_0
      subst p23_0
      subst p24_0
      subst p25_0
      subst p28_0
      subst q1_0
      subst q2_0
      subst q5_0
      subst q8_0
      subst q9_0
      subst q12_0
      subst q14_0
      subst q15_0
      subst q16_0
      subst q19_0
      subst q20_0
      subst q21_0
      subst q24_0
      obtain rfl := aC.ld (m_R3 hf hv) p3_0 q3_0
      obtain rfl := aX.ld rfl p4_0 q4_0
      obtain rfl := aX.ld rfl p7_0 q7_0
      obtain rfl := aY.ld rfl p11_0 q11_0
      exact absurd q13_0 p13_0
    · intros v724' fn725' fn726' z921' z924' z927' z929' z932' z936' z940' z943' z1050' z1052' z1055' z1058' r1060' f1062' z1064' z1067' z1070' r1072' f1074' z1076' hp' ih2 q0_0 q1_0 q2_0 q3_0 q4_0 q4_1 q5_0 q6_0 q7_0 q7_1 q8_0 q9_0 q10_0 q11_0 q12_0 q13_0 q14_0 q15_0 q16_0 q17_0 q18_0 q19_0 q20_0 q21_0 q22_0 ev
      have ev2 : v724 = v724' := i32c (p28_0.symm.trans (ev.trans q22_0))
      have hi := ih _ _ _ hp' ev2
      subst ev2
      have hv := c_iEnds hp p0_0
      subst p1_0
      subst p2_0
      subst p5_0
      subst p8_0
      subst p9_0
      subst p12_0
      subst p15_0
      subst p16_0
      subst p18_0
      subst p19_0
      subst p20_0
      subst p23_0
      subst p24_0
      subst p25_0
      subst p28_0
      subst q1_0
      subst q2_0
      subst q5_0
      subst q8_0
      subst q9_0
      subst q11_0
      subst q12_0
      subst q13_0
      subst q14_0
      subst q17_0
      subst q18_0
      subst q19_0
      subst q22_0
      obtain rfl := aC.ld (m_R3 hf hv) p3_0 q3_0
      obtain rfl := aX.ld rfl p4_0 q4_0
      obtain rfl := aX.ld rfl p7_0 q7_0
      exact absurd q10_0 p10_0
    · intros v724' fn725' fn726' z921' z924' z927' z929' z932' z1079' z1082' z1085' r1087' f1089' z1091' z1094' z1097' r1099' f1101' z1103' hp' ih2 q0_0 q1_0 q2_0 q3_0 q4_0 q4_1 q5_0 q6_0 q7_0 q8_0 q9_0 q10_0 q11_0 q12_0 q13_0 q14_0 q15_0 q16_0 q17_0 ev
      have ev2 : v724 = v724' := i32c (p28_0.symm.trans (ev.trans q17_0))
      have hi := ih _ _ _ hp' ev2
      subst ev2
      have hv := c_iEnds hp p0_0
      subst p1_0
      subst p2_0
      subst p5_0
      subst p8_0
      subst p9_0
      subst p12_0
      subst p15_0
      subst p16_0
      subst p18_0
      subst p19_0
      subst p20_0
      subst p23_0
      subst p24_0
      subst p25_0
      subst p28_0
      subst q1_0
      subst q2_0
      subst q5_0
      subst q7_0
      subst q8_0
      subst q9_0
      subst q12_0
      subst q13_0
      subst q14_0
      subst q17_0
      obtain rfl := aC.ld (m_R3 hf hv) p3_0 q3_0
      obtain rfl := aX.ld rfl p4_0 q4_0
      exact absurd q6_0 p6_0
  · intro v724 fn725 fn726 z921 z924 z927 z929 z932 z936 z940 z943 z947 z950 z954 z958 z961 z994 z996 z999 z1002 r1004 f1006 z1008 z1011 z1014 r1016 f1018 z1020 hp ih p0_0 p1_0 p2_0 p3_0 p4_0 p4_1 p5_0 p6_0 p7_0 p7_1 p8_0 p9_0 p10_0 p11_0 p11_1 p12_0 p13_0 p14_0 p14_1 p15_0 p16_0 p17_0 p18_0 p19_0 p20_0 p21_0 p22_0 p23_0 p24_0 p25_0 p26_0 p27_0 p28_0 p29_0 v724'' fn725'' fn726'' h' ev
    revert ev
    refine I_laysEnds_3_1.ind (Q_ := fun v'  L' H'  => z1020 = v' → Ag (fun k => G k ∨ Rn f z1020 k) f1006 L' ∧ Ag (fun k => G k ∨ Rn f z1020 k) f1018 H') ?_ ?_ ?_ ?_ ?_ ?_ h'
    · intro ev
      exact absurd (ev) (c_iEnds_ne hp p0_0 p29_0)
    · intros v724' fn725' fn726' z921' z924' z927' z929' z932' z936' z940' z943' z947' z950' z954' z958' z961' z965' z968' z971' r974' f976' z978' z981' z984' r987' f989' z991' hp' ih2 q0_0 q1_0 q2_0 q3_0 q4_0 q4_1 q5_0 q6_0 q7_0 q7_1 q8_0 q9_0 q10_0 q11_0 q11_1 q12_0 q13_0 q14_0 q14_1 q15_0 q16_0 q17_0 q18_0 q19_0 q20_0 q21_0 q22_0 q23_0 q24_0 q25_0 q26_0 q27_0 q28_0 ev
      have ev2 : v724 = v724' := i32c (p29_0.symm.trans (ev.trans q28_0))
      have hi := ih _ _ _ hp' ev2
      subst ev2
      have hv := c_iEnds hp p0_0
      subst p1_0
      subst p2_0
      subst p5_0
      subst p8_0
      subst p9_0
      subst p12_0
      subst p15_0
      subst p16_0
      subst p18_0
      subst p19_0
      subst p20_0
      subst p21_0
      subst p24_0
      subst p25_0
      subst p26_0
      subst p29_0
      subst q1_0
      subst q2_0
      subst q5_0
      subst q8_0
      subst q9_0
      subst q12_0
      subst q15_0
      subst q16_0
      subst q18_0
      subst q19_0
      subst q20_0
      subst q23_0
      subst q24_0
      subst q25_0
      subst q28_0
      obtain rfl := aC.ld (m_R3 hf hv) p3_0 q3_0
      obtain rfl := aX.ld rfl p4_0 q4_0
      obtain rfl := aX.ld rfl p7_0 q7_0
      obtain rfl := aY.ld rfl p11_0 q11_0
      obtain rfl := aY.ld rfl p14_0 q14_0
      exact absurd p17_0 q17_0
    · intros v724' fn725' fn726' z921' z924' z927' z929' z932' z936' z940' z943' z947' z950' z954' z958' z961' z994' z996' z999' z1002' r1004' f1006' z1008' z1011' z1014' r1016' f1018' z1020' hp' ih2 q0_0 q1_0 q2_0 q3_0 q4_0 q4_1 q5_0 q6_0 q7_0 q7_1 q8_0 q9_0 q10_0 q11_0 q11_1 q12_0 q13_0 q14_0 q14_1 q15_0 q16_0 q17_0 q18_0 q19_0 q20_0 q21_0 q22_0 q23_0 q24_0 q25_0 q26_0 q27_0 q28_0 q29_0 ev
      have ev2 : v724 = v724' := i32c (p29_0.symm.trans (ev.trans q29_0))
      have hi := ih _ _ _ hp' ev2
      subst ev2
      have hv := c_iEnds hp p0_0
      subst p1_0
      subst p2_0
      subst p5_0
      subst p8_0
      subst p9_0
      subst p12_0
      subst p15_0
      subst p16_0
      subst p18_0
      subst p19_0
      subst p20_0
      subst p21_0
      subst p24_0
      subst p25_0
      subst p26_0
      subst p29_0
      subst q1_0
      subst q2_0
      subst q5_0
      subst q8_0
      subst q9_0
      subst q12_0
      subst q15_0
      subst q16_0
      subst q18_0
      subst q19_0
      subst q20_0
      subst q21_0
      subst q24_0
      subst q25_0
      subst q26_0
      subst q29_0
      obtain rfl := aC.ld (m_R3 hf hv) p3_0 q3_0
      obtain rfl := aX.ld rfl p4_0 q4_0
      obtain rfl := aX.ld rfl p7_0 q7_0
      obtain rfl := aY.ld rfl p11_0 q11_0
      obtain rfl := aY.ld rfl p14_0 q14_0
      obtain rfl := d_lesser p22_0 q22_0
      have g23 := hi.1.st p23_0 q23_0 rfl
      obtain rfl := d_greater p27_0 q27_0
      have g28 := hi.2.st p28_0 q28_0 rfl
      exact ⟨g23.mono (Rns hf hv), g28.mono (Rns hf hv)⟩
    · intros v724' fn725' fn726' z921' z924' z927' z929' z932' z936' z940' z943' z947' z950' z1023' z1026' z1029' r1031' f1033' z1035' z1038' z1041' r1043' f1045' z1047' hp' ih2 q0_0 q1_0 q2_0 q3_0 q4_0 q4_1 q5_0 q6_0 q7_0 q7_1 q8_0 q9_0 q10_0 q11_0 q11_1 q12_0 q13_0 q14_0 q15_0 q16_0 q17_0 q18_0 q19_0 q20_0 q21_0 q22_0 q23_0 q24_0 ev
      have ev2 : v724 = v724' := i32c (p29_0.symm.trans (ev.trans q24_0))
      have hi := ih _ _ _ hp' ev2
      subst ev2
      have hv := c_iEnds hp p0_0
      subst p1_0
      subst p2_0
      subst p5_0
      subst p8_0
      subst p9_0
      subst p12_0
      subst p15_0
      subst p16_0
      subst p18_0
      subst p19_0
      subst p20_0
      subst p21_0
      subst p24_0
      subst p25_0
      subst p26_0
      subst p29_0
      subst q1_0
      subst q2_0
      subst q5_0
      subst q8_0
      subst q9_0
      subst q12_0
      subst q14_0
      subst q15_0
      subst q16_0
      subst q19_0
      subst q20_0
      subst q21_0
      subst q24_0
      obtain rfl := aC.ld (m_R3 hf hv) p3_0 q3_0
      obtain rfl := aX.ld rfl p4_0 q4_0
      obtain rfl := aX.ld rfl p7_0 q7_0
      obtain rfl := aY.ld rfl p11_0 q11_0
      exact absurd q13_0 p13_0
    · intros v724' fn725' fn726' z921' z924' z927' z929' z932' z936' z940' z943' z1050' z1052' z1055' z1058' r1060' f1062' z1064' z1067' z1070' r1072' f1074' z1076' hp' ih2 q0_0 q1_0 q2_0 q3_0 q4_0 q4_1 q5_0 q6_0 q7_0 q7_1 q8_0 q9_0 q10_0 q11_0 q12_0 q13_0 q14_0 q15_0 q16_0 q17_0 q18_0 q19_0 q20_0 q21_0 q22_0 ev
      have ev2 : v724 = v724' := i32c (p29_0.symm.trans (ev.trans q22_0))
      have hi := ih _ _ _ hp' ev2
      subst ev2
      have hv := c_iEnds hp p0_0
      subst p1_0
      subst p2_0
      subst p5_0
      subst p8_0
      subst p9_0
      subst p12_0
      subst p15_0
      subst p16_0
      subst p18_0
      subst p19_0
      subst p20_0
      subst p21_0
      subst p24_0
      subst p25_0
      subst p26_0
      subst p29_0
      subst q1_0
      subst q2_0
      subst q5_0
      subst q8_0
      subst q9_0
      subst q11_0
      subst q12_0
      subst q13_0
      subst q14_0
      subst q17_0
      subst q18_0
      subst q19_0
      subst q22_0
      obtain rfl := aC.ld (m_R3 hf hv) p3_0 q3_0
      obtain rfl := aX.ld rfl p4_0 q4_0
      obtain rfl := aX.ld rfl p7_0 q7_0
      exact absurd q10_0 p10_0
    · intros v724' fn725' fn726' z921' z924' z927' z929' z932' z1079' z1082' z1085' r1087' f1089' z1091' z1094' z1097' r1099' f1101' z1103' hp' ih2 q0_0 q1_0 q2_0 q3_0 q4_0 q4_1 q5_0 q6_0 q7_0 q8_0 q9_0 q10_0 q11_0 q12_0 q13_0 q14_0 q15_0 q16_0 q17_0 ev
      have ev2 : v724 = v724' := i32c (p29_0.symm.trans (ev.trans q17_0))
      have hi := ih _ _ _ hp' ev2
      subst ev2
      have hv := c_iEnds hp p0_0
      subst p1_0
      subst p2_0
      subst p5_0
      subst p8_0
      subst p9_0
      subst p12_0
      subst p15_0
      subst p16_0
      subst p18_0
      subst p19_0
      subst p20_0
      subst p21_0
      subst p24_0
      subst p25_0
      subst p26_0
      subst p29_0
      subst q1_0
      subst q2_0
      subst q5_0
      subst q7_0
      subst q8_0
      subst q9_0
      subst q12_0
      subst q13_0
      subst q14_0
      subst q17_0
      obtain rfl := aC.ld (m_R3 hf hv) p3_0 q3_0
      obtain rfl := aX.ld rfl p4_0 q4_0
      exact absurd q6_0 p6_0
  · intro v724 fn725 fn726 z921 z924 z927 z929 z932 z936 z940 z943 z947 z950 z1023 z1026 z1029 r1031 f1033 z1035 z1038 z1041 r1043 f1045 z1047 hp ih p0_0 p1_0 p2_0 p3_0 p4_0 p4_1 p5_0 p6_0 p7_0 p7_1 p8_0 p9_0 p10_0 p11_0 p11_1 p12_0 p13_0 p14_0 p15_0 p16_0 p17_0 p18_0 p19_0 p20_0 p21_0 p22_0 p23_0 p24_0 v724'' fn725'' fn726'' h' ev
    revert ev
    refine I_laysEnds_3_1.ind (Q_ := fun v'  L' H'  => z1047 = v' → Ag (fun k => G k ∨ Rn f z1047 k) f1033 L' ∧ Ag (fun k => G k ∨ Rn f z1047 k) f1045 H') ?_ ?_ ?_ ?_ ?_ ?_ h'
    · intro ev
      exact absurd (ev) (c_iEnds_ne hp p0_0 p24_0)
    · intros v724' fn725' fn726' z921' z924' z927' z929' z932' z936' z940' z943' z947' z950' z954' z958' z961' z965' z968' z971' r974' f976' z978' z981' z984' r987' f989' z991' hp' ih2 q0_0 q1_0 q2_0 q3_0 q4_0 q4_1 q5_0 q6_0 q7_0 q7_1 q8_0 q9_0 q10_0 q11_0 q11_1 q12_0 q13_0 q14_0 q14_1 q15_0 q16_0 q17_0 q18_0 q19_0 q20_0 q21_0 q22_0 q23_0 q24_0 q25_0 q26_0 q27_0 q28_0 ev
      have ev2 : v724 = v724' := i32c (p24_0.symm.trans (ev.trans q28_0))
      have hi := ih _ _ _ hp' ev2
      subst ev2
      have hv := c_iEnds hp p0_0
      subst p1_0
      subst p2_0
      subst p5_0
      subst p8_0
      subst p9_0
      subst p12_0
      subst p14_0
      subst p15_0
      subst p16_0
      subst p19_0
      subst p20_0
      subst p21_0
      subst p24_0
      subst q1_0
      subst q2_0
      subst q5_0
      subst q8_0
      subst q9_0
      subst q12_0
      subst q15_0
      subst q16_0
      subst q18_0
      subst q19_0
      subst q20_0
      subst q23_0
      subst q24_0
      subst q25_0
      subst q28_0
      obtain rfl := aC.ld (m_R3 hf hv) p3_0 q3_0
      obtain rfl := aX.ld rfl p4_0 q4_0
      obtain rfl := aX.ld rfl p7_0 q7_0
      obtain rfl := aY.ld rfl p11_0 q11_0
      exact absurd p13_0 q13_0
    · intros v724' fn725' fn726' z921' z924' z927' z929' z932' z936' z940' z943' z947' z950' z954' z958' z961' z994' z996' z999' z1002' r1004' f1006' z1008' z1011' z1014' r1016' f1018' z1020' hp' ih2 q0_0 q1_0 q2_0 q3_0 q4_0 q4_1 q5_0 q6_0 q7_0 q7_1 q8_0 q9_0 q10_0 q11_0 q11_1 q12_0 q13_0 q14_0 q14_1 q15_0 q16_0 q17_0 q18_0 q19_0 q20_0 q21_0 q22_0 q23_0 q24_0 q25_0 q26_0 q27_0 q28_0 q29_0 ev
      have ev2 : v724 = v724' := i32c (p24_0.symm.trans (ev.trans q29_0))
      have hi := ih _ _ _ hp' ev2
      subst ev2
      have hv := c_iEnds hp p0_0
      subst p1_0
      subst p2_0
      subst p5_0
      subst p8_0
      subst p9_0
      subst p12_0
      subst p14_0
      subst p15_0
      subst p16_0
      subst p19_0
      subst p20_0
      subst p21_0
      subst p24_0
      subst q1_0
      subst q2_0
      subst q5_0
      subst q8_0
      subst q9_0
      subst q12_0
      subst q15_0
      subst q16_0
      subst q18_0
      subst q19_0
      subst q20_0
      subst q21_0
      subst q24_0
      subst q25_0
      subst q26_0
      subst q29_0
      obtain rfl := aC.ld (m_R3 hf hv) p3_0 q3_0
      obtain rfl := aX.ld rfl p4_0 q4_0
      obtain rfl := aX.ld rfl p7_0 q7_0
      obtain rfl := aY.ld rfl p11_0 q11_0
      exact absurd p13_0 q13_0
    · intros v724' fn725' fn726' z921' z924' z927' z929' z932' z936' z940' z943' z947' z950' z1023' z1026' z1029' r1031' f1033' z1035' z1038' z1041' r1043' f1045' z1047' hp' ih2 q0_0 q1_0 q2_0 q3_0 q4_0 q4_1 q5_0 q6_0 q7_0 q7_1 q8_0 q9_0 q10_0 q11_0 q11_1 q12_0 q13_0 q14_0 q15_0 q16_0 q17_0 q18_0 q19_0 q20_0 q21_0 q22_0 q23_0 q24_0 ev
      have ev2 : v724 = v724' := i32c (p24_0.symm.trans (ev.trans q24_0))
      have hi := ih _ _ _ hp' ev2
      subst ev2
      have hv := c_iEnds hp p0_0
      subst p1_0
      subst p2_0
      subst p5_0
      subst p8_0
      subst p9_0
      subst p12_0
      subst p14_0
      subst p15_0
      subst p16_0
      subst p19_0
      subst p20_0
      subst p21_0
      subst p24_0
      subst q1_0
      subst q2_0
      subst q5_0
      subst q8_0
      subst q9_0
      subst q12_0
      subst q14_0
      subst q15_0
      subst q16_0
      subst q19_0
      subst q20_0
      subst q21_0
      subst q24_0
      obtain rfl := aC.ld (m_R3 hf hv) p3_0 q3_0
      obtain rfl := aX.ld rfl p4_0 q4_0
      obtain rfl := aX.ld rfl p7_0 q7_0
      obtain rfl := aY.ld rfl p11_0 q11_0
      obtain rfl := d_lesser p17_0 q17_0
      have g18 := hi.1.st p18_0 q18_0 rfl
      obtain rfl := d_greater p22_0 q22_0
      have g23 := hi.2.st p23_0 q23_0 rfl
      exact ⟨g18.mono (Rns hf hv), g23.mono (Rns hf hv)⟩
    · intros v724' fn725' fn726' z921' z924' z927' z929' z932' z936' z940' z943' z1050' z1052' z1055' z1058' r1060' f1062' z1064' z1067' z1070' r1072' f1074' z1076' hp' ih2 q0_0 q1_0 q2_0 q3_0 q4_0 q4_1 q5_0 q6_0 q7_0 q7_1 q8_0 q9_0 q10_0 q11_0 q12_0 q13_0 q14_0 q15_0 q16_0 q17_0 q18_0 q19_0 q20_0 q21_0 q22_0 ev
      have ev2 : v724 = v724' := i32c (p24_0.symm.trans (ev.trans q22_0))
      have hi := ih _ _ _ hp' ev2
      subst ev2
      have hv := c_iEnds hp p0_0
      subst p1_0
      subst p2_0
      subst p5_0
      subst p8_0
      subst p9_0
      subst p12_0
      subst p14_0
      subst p15_0
      subst p16_0
      subst p19_0
      subst p20_0
      subst p21_0
      subst p24_0
      subst q1_0
      subst q2_0
      subst q5_0
      subst q8_0
      subst q9_0
      subst q11_0
      subst q12_0
      subst q13_0
      subst q14_0
      subst q17_0
      subst q18_0
      subst q19_0
      subst q22_0
      obtain rfl := aC.ld (m_R3 hf hv) p3_0 q3_0
      obtain rfl := aX.ld rfl p4_0 q4_0
      obtain rfl := aX.ld rfl p7_0 q7_0
      exact absurd q10_0 p10_0
    · intros v724' fn725' fn726' z921' z924' z927' z929' z932' z1079' z1082' z1085' r1087' f1089' z1091' z1094' z1097' r1099' f1101' z1103' hp' ih2 q0_0 q1_0 q2_0 q3_0 q4_0 q4_1 q5_0 q6_0 q7_0 q8_0 q9_0 q10_0 q11_0 q12_0 q13_0 q14_0 q15_0 q16_0 q17_0 ev
      have ev2 : v724 = v724' := i32c (p24_0.symm.trans (ev.trans q17_0))
      have hi := ih _ _ _ hp' ev2
      subst ev2
      have hv := c_iEnds hp p0_0
      subst p1_0
      subst p2_0
      subst p5_0
      subst p8_0
      subst p9_0
      subst p12_0
      subst p14_0
      subst p15_0
      subst p16_0
      subst p19_0
      subst p20_0
      subst p21_0
      subst p24_0
      subst q1_0
      subst q2_0
      subst q5_0
      subst q7_0
      subst q8_0
      subst q9_0
      subst q12_0
      subst q13_0
      subst q14_0
      subst q17_0
      obtain rfl := aC.ld (m_R3 hf hv) p3_0 q3_0
      obtain rfl := aX.ld rfl p4_0 q4_0
      exact absurd q6_0 p6_0
  · intro v724 fn725 fn726 z921 z924 z927 z929 z932 z936 z940 z943 z1050 z1052 z1055 z1058 r1060 f1062 z1064 z1067 z1070 r1072 f1074 z1076 hp ih p0_0 p1_0 p2_0 p3_0 p4_0 p4_1 p5_0 p6_0 p7_0 p7_1 p8_0 p9_0 p10_0 p11_0 p12_0 p13_0 p14_0 p15_0 p16_0 p17_0 p18_0 p19_0 p20_0 p21_0 p22_0 v724'' fn725'' fn726'' h' ev
    revert ev
    refine I_laysEnds_3_1.ind (Q_ := fun v'  L' H'  => z1076 = v' → Ag (fun k => G k ∨ Rn f z1076 k) f1062 L' ∧ Ag (fun k => G k ∨ Rn f z1076 k) f1074 H') ?_ ?_ ?_ ?_ ?_ ?_ h'
    · intro ev
      exact absurd (ev) (c_iEnds_ne hp p0_0 p22_0)
    · intros v724' fn725' fn726' z921' z924' z927' z929' z932' z936' z940' z943' z947' z950' z954' z958' z961' z965' z968' z971' r974' f976' z978' z981' z984' r987' f989' z991' hp' ih2 q0_0 q1_0 q2_0 q3_0 q4_0 q4_1 q5_0 q6_0 q7_0 q7_1 q8_0 q9_0 q10_0 q11_0 q11_1 q12_0 q13_0 q14_0 q14_1 q15_0 q16_0 q17_0 q18_0 q19_0 q20_0 q21_0 q22_0 q23_0 q24_0 q25_0 q26_0 q27_0 q28_0 ev
      have ev2 : v724 = v724' := i32c (p22_0.symm.trans (ev.trans q28_0))
      have hi := ih _ _ _ hp' ev2
      subst ev2
      have hv := c_iEnds hp p0_0
      subst p1_0
      subst p2_0
      subst p5_0
      subst p8_0
      subst p9_0
      subst p11_0
      subst p12_0
      subst p13_0
      subst p14_0
      subst p17_0
      subst p18_0
      subst p19_0
      subst p22_0
      subst q1_0
      subst q2_0
      subst q5_0
      subst q8_0
      subst q9_0
      subst q12_0
      subst q15_0
      subst q16_0
      subst q18_0
      subst q19_0
      subst q20_0
      subst q23_0
      subst q24_0
      subst q25_0
      subst q28_0
      obtain rfl := aC.ld (m_R3 hf hv) p3_0 q3_0
      obtain rfl := aX.ld rfl p4_0 q4_0
      obtain rfl := aX.ld rfl p7_0 q7_0
      exact absurd p10_0 q10_0
    · intros v724' fn725' fn726' z921' z924' z927' z929' z932' z936' z940' z943' z947' z950' z954' z958' z961' z994' z996' z999' z1002' r1004' f1006' z1008' z1011' z1014' r1016' f1018' z1020' hp' ih2 q0_0 q1_0 q2_0 q3_0 q4_0 q4_1 q5_0 q6_0 q7_0 q7_1 q8_0 q9_0 q10_0 q11_0 q11_1 q12_0 q13_0 q14_0 q14_1 q15_0 q16_0 q17_0 q18_0 q19_0 q20_0 q21_0 q22_0 q23_0 q24_0 q25_0 q26_0 q27_0 q28_0 q29_0 ev
      have ev2 : v724 = v724' := i32c (p22_0.symm.trans (ev.trans q29_0))
      have hi := ih _ _ _ hp' ev2
      subst ev2
      have hv := c_iEnds hp p0_0
      subst p1_0
      subst p2_0
      subst p5_0
      subst p8_0
      subst p9_0
      subst p11_0
      subst p12_0
      subst p13_0
      subst p14_0
      subst p17_0
      subst p18_0
      subst p19_0
      subst p22_0
      subst q1_0
      subst q2_0
      subst q5_0
      subst q8_0
      subst q9_0
      subst q12_0
      subst q15_0
      subst q16_0
      subst q18_0
      subst q19_0
      subst q20_0
      subst q21_0
      subst q24_0
      subst q25_0
      subst q26_0
      subst q29_0
      obtain rfl := aC.ld (m_R3 hf hv) p3_0 q3_0
      obtain rfl := aX.ld rfl p4_0 q4_0
      obtain rfl := aX.ld rfl p7_0 q7_0
      exact absurd p10_0 q10_0
    · intros v724' fn725' fn726' z921' z924' z927' z929' z932' z936' z940' z943' z947' z950' z1023' z1026' z1029' r1031' f1033' z1035' z1038' z1041' r1043' f1045' z1047' hp' ih2 q0_0 q1_0 q2_0 q3_0 q4_0 q4_1 q5_0 q6_0 q7_0 q7_1 q8_0 q9_0 q10_0 q11_0 q11_1 q12_0 q13_0 q14_0 q15_0 q16_0 q17_0 q18_0 q19_0 q20_0 q21_0 q22_0 q23_0 q24_0 ev
      have ev2 : v724 = v724' := i32c (p22_0.symm.trans (ev.trans q24_0))
      have hi := ih _ _ _ hp' ev2
      subst ev2
      have hv := c_iEnds hp p0_0
      subst p1_0
      subst p2_0
      subst p5_0
      subst p8_0
      subst p9_0
      subst p11_0
      subst p12_0
      subst p13_0
      subst p14_0
      subst p17_0
      subst p18_0
      subst p19_0
      subst p22_0
      subst q1_0
      subst q2_0
      subst q5_0
      subst q8_0
      subst q9_0
      subst q12_0
      subst q14_0
      subst q15_0
      subst q16_0
      subst q19_0
      subst q20_0
      subst q21_0
      subst q24_0
      obtain rfl := aC.ld (m_R3 hf hv) p3_0 q3_0
      obtain rfl := aX.ld rfl p4_0 q4_0
      obtain rfl := aX.ld rfl p7_0 q7_0
      exact absurd p10_0 q10_0
    · intros v724' fn725' fn726' z921' z924' z927' z929' z932' z936' z940' z943' z1050' z1052' z1055' z1058' r1060' f1062' z1064' z1067' z1070' r1072' f1074' z1076' hp' ih2 q0_0 q1_0 q2_0 q3_0 q4_0 q4_1 q5_0 q6_0 q7_0 q7_1 q8_0 q9_0 q10_0 q11_0 q12_0 q13_0 q14_0 q15_0 q16_0 q17_0 q18_0 q19_0 q20_0 q21_0 q22_0 ev
      have ev2 : v724 = v724' := i32c (p22_0.symm.trans (ev.trans q22_0))
      have hi := ih _ _ _ hp' ev2
      subst ev2
      have hv := c_iEnds hp p0_0
      subst p1_0
      subst p2_0
      subst p5_0
      subst p8_0
      subst p9_0
      subst p11_0
      subst p12_0
      subst p13_0
      subst p14_0
      subst p17_0
      subst p18_0
      subst p19_0
      subst p22_0
      subst q1_0
      subst q2_0
      subst q5_0
      subst q8_0
      subst q9_0
      subst q11_0
      subst q12_0
      subst q13_0
      subst q14_0
      subst q17_0
      subst q18_0
      subst q19_0
      subst q22_0
      obtain rfl := aC.ld (m_R3 hf hv) p3_0 q3_0
      obtain rfl := aX.ld rfl p4_0 q4_0
      obtain rfl := aX.ld rfl p7_0 q7_0
      obtain rfl := d_lesser p15_0 q15_0
      have g16 := hi.1.st p16_0 q16_0 rfl
      obtain rfl := d_greater p20_0 q20_0
      have g21 := hi.2.st p21_0 q21_0 rfl
      exact ⟨g16.mono (Rns hf hv), g21.mono (Rns hf hv)⟩
    · intros v724' fn725' fn726' z921' z924' z927' z929' z932' z1079' z1082' z1085' r1087' f1089' z1091' z1094' z1097' r1099' f1101' z1103' hp' ih2 q0_0 q1_0 q2_0 q3_0 q4_0 q4_1 q5_0 q6_0 q7_0 q8_0 q9_0 q10_0 q11_0 q12_0 q13_0 q14_0 q15_0 q16_0 q17_0 ev
      have ev2 : v724 = v724' := i32c (p22_0.symm.trans (ev.trans q17_0))
      have hi := ih _ _ _ hp' ev2
      subst ev2
      have hv := c_iEnds hp p0_0
      subst p1_0
      subst p2_0
      subst p5_0
      subst p8_0
      subst p9_0
      subst p11_0
      subst p12_0
      subst p13_0
      subst p14_0
      subst p17_0
      subst p18_0
      subst p19_0
      subst p22_0
      subst q1_0
      subst q2_0
      subst q5_0
      subst q7_0
      subst q8_0
      subst q9_0
      subst q12_0
      subst q13_0
      subst q14_0
      subst q17_0
      obtain rfl := aC.ld (m_R3 hf hv) p3_0 q3_0
      obtain rfl := aX.ld rfl p4_0 q4_0
      exact absurd q6_0 p6_0
  · intro v724 fn725 fn726 z921 z924 z927 z929 z932 z1079 z1082 z1085 r1087 f1089 z1091 z1094 z1097 r1099 f1101 z1103 hp ih p0_0 p1_0 p2_0 p3_0 p4_0 p4_1 p5_0 p6_0 p7_0 p8_0 p9_0 p10_0 p11_0 p12_0 p13_0 p14_0 p15_0 p16_0 p17_0 v724'' fn725'' fn726'' h' ev
    revert ev
    refine I_laysEnds_3_1.ind (Q_ := fun v'  L' H'  => z1103 = v' → Ag (fun k => G k ∨ Rn f z1103 k) f1089 L' ∧ Ag (fun k => G k ∨ Rn f z1103 k) f1101 H') ?_ ?_ ?_ ?_ ?_ ?_ h'
    · intro ev
      exact absurd (ev) (c_iEnds_ne hp p0_0 p17_0)
    · intros v724' fn725' fn726' z921' z924' z927' z929' z932' z936' z940' z943' z947' z950' z954' z958' z961' z965' z968' z971' r974' f976' z978' z981' z984' r987' f989' z991' hp' ih2 q0_0 q1_0 q2_0 q3_0 q4_0 q4_1 q5_0 q6_0 q7_0 q7_1 q8_0 q9_0 q10_0 q11_0 q11_1 q12_0 q13_0 q14_0 q14_1 q15_0 q16_0 q17_0 q18_0 q19_0 q20_0 q21_0 q22_0 q23_0 q24_0 q25_0 q26_0 q27_0 q28_0 ev
      have ev2 : v724 = v724' := i32c (p17_0.symm.trans (ev.trans q28_0))
      have hi := ih _ _ _ hp' ev2
      subst ev2
      have hv := c_iEnds hp p0_0
      subst p1_0
      subst p2_0
      subst p5_0
      subst p7_0
      subst p8_0
      subst p9_0
      subst p12_0
      subst p13_0
      subst p14_0
      subst p17_0
      subst q1_0
      subst q2_0
      subst q5_0
      subst q8_0
      subst q9_0
      subst q12_0
      subst q15_0
      subst q16_0
      subst q18_0
      subst q19_0
      subst q20_0
      subst q23_0
      subst q24_0
      subst q25_0
      subst q28_0
      obtain rfl := aC.ld (m_R3 hf hv) p3_0 q3_0
      obtain rfl := aX.ld rfl p4_0 q4_0
      exact absurd p6_0 q6_0
    · intros v724' fn725' fn726' z921' z924' z927' z929' z932' z936' z940' z943' z947' z950' z954' z958' z961' z994' z996' z999' z1002' r1004' f1006' z1008' z1011' z1014' r1016' f1018' z1020' hp' ih2 q0_0 q1_0 q2_0 q3_0 q4_0 q4_1 q5_0 q6_0 q7_0 q7_1 q8_0 q9_0 q10_0 q11_0 q11_1 q12_0 q13_0 q14_0 q14_1 q15_0 q16_0 q17_0 q18_0 q19_0 q20_0 q21_0 q22_0 q23_0 q24_0 q25_0 q26_0 q27_0 q28_0 q29_0 ev
      have ev2 : v724 = v724' := i32c (p17_0.symm.trans (ev.trans q29_0))
      have hi := ih _ _ _ hp' ev2
      subst ev2
      have hv := c_iEnds hp p0_0
      subst p1_0
      subst p2_0
      subst p5_0
      subst p7_0
      subst p8_0
      subst p9_0
      subst p12_0
      subst p13_0
      subst p14_0
      subst p17_0
      subst q1_0
      subst q2_0
      subst q5_0
      subst q8_0
      subst q9_0
      subst q12_0
      subst q15_0
      subst q16_0
      subst q18_0
      subst q19_0
      subst q20_0
      subst q21_0
      subst q24_0
      subst q25_0
      subst q26_0
      subst q29_0
      obtain rfl := aC.ld (m_R3 hf hv) p3_0 q3_0
      obtain rfl := aX.ld rfl p4_0 q4_0
      exact absurd p6_0 q6_0
    · intros v724' fn725' fn726' z921' z924' z927' z929' z932' z936' z940' z943' z947' z950' z1023' z1026' z1029' r1031' f1033' z1035' z1038' z1041' r1043' f1045' z1047' hp' ih2 q0_0 q1_0 q2_0 q3_0 q4_0 q4_1 q5_0 q6_0 q7_0 q7_1 q8_0 q9_0 q10_0 q11_0 q11_1 q12_0 q13_0 q14_0 q15_0 q16_0 q17_0 q18_0 q19_0 q20_0 q21_0 q22_0 q23_0 q24_0 ev
      have ev2 : v724 = v724' := i32c (p17_0.symm.trans (ev.trans q24_0))
      have hi := ih _ _ _ hp' ev2
      subst ev2
      have hv := c_iEnds hp p0_0
      subst p1_0
      subst p2_0
      subst p5_0
      subst p7_0
      subst p8_0
      subst p9_0
      subst p12_0
      subst p13_0
      subst p14_0
      subst p17_0
      subst q1_0
      subst q2_0
      subst q5_0
      subst q8_0
      subst q9_0
      subst q12_0
      subst q14_0
      subst q15_0
      subst q16_0
      subst q19_0
      subst q20_0
      subst q21_0
      subst q24_0
      obtain rfl := aC.ld (m_R3 hf hv) p3_0 q3_0
      obtain rfl := aX.ld rfl p4_0 q4_0
      exact absurd p6_0 q6_0
    · intros v724' fn725' fn726' z921' z924' z927' z929' z932' z936' z940' z943' z1050' z1052' z1055' z1058' r1060' f1062' z1064' z1067' z1070' r1072' f1074' z1076' hp' ih2 q0_0 q1_0 q2_0 q3_0 q4_0 q4_1 q5_0 q6_0 q7_0 q7_1 q8_0 q9_0 q10_0 q11_0 q12_0 q13_0 q14_0 q15_0 q16_0 q17_0 q18_0 q19_0 q20_0 q21_0 q22_0 ev
      have ev2 : v724 = v724' := i32c (p17_0.symm.trans (ev.trans q22_0))
      have hi := ih _ _ _ hp' ev2
      subst ev2
      have hv := c_iEnds hp p0_0
      subst p1_0
      subst p2_0
      subst p5_0
      subst p7_0
      subst p8_0
      subst p9_0
      subst p12_0
      subst p13_0
      subst p14_0
      subst p17_0
      subst q1_0
      subst q2_0
      subst q5_0
      subst q8_0
      subst q9_0
      subst q11_0
      subst q12_0
      subst q13_0
      subst q14_0
      subst q17_0
      subst q18_0
      subst q19_0
      subst q22_0
      obtain rfl := aC.ld (m_R3 hf hv) p3_0 q3_0
      obtain rfl := aX.ld rfl p4_0 q4_0
      exact absurd p6_0 q6_0
    · intros v724' fn725' fn726' z921' z924' z927' z929' z932' z1079' z1082' z1085' r1087' f1089' z1091' z1094' z1097' r1099' f1101' z1103' hp' ih2 q0_0 q1_0 q2_0 q3_0 q4_0 q4_1 q5_0 q6_0 q7_0 q8_0 q9_0 q10_0 q11_0 q12_0 q13_0 q14_0 q15_0 q16_0 q17_0 ev
      have ev2 : v724 = v724' := i32c (p17_0.symm.trans (ev.trans q17_0))
      have hi := ih _ _ _ hp' ev2
      subst ev2
      have hv := c_iEnds hp p0_0
      subst p1_0
      subst p2_0
      subst p5_0
      subst p7_0
      subst p8_0
      subst p9_0
      subst p12_0
      subst p13_0
      subst p14_0
      subst p17_0
      subst q1_0
      subst q2_0
      subst q5_0
      subst q7_0
      subst q8_0
      subst q9_0
      subst q12_0
      subst q13_0
      subst q14_0
      subst q17_0
      obtain rfl := aC.ld (m_R3 hf hv) p3_0 q3_0
      obtain rfl := aX.ld rfl p4_0 q4_0
      obtain rfl := d_lesser p10_0 q10_0
      have g11 := hi.1.st p11_0 q11_0 rfl
      obtain rfl := d_greater p15_0 q15_0
      have g16 := hi.2.st p16_0 q16_0 rfl
      exact ⟨g11.mono (Rns hf hv), g16.mono (Rns hf hv)⟩
theorem d_ends {G : Nat → Prop} {C X Y L0 H0 C2 X2 Y2 L2 H2 L H L' H' : Nat → Int32} {f lx ly : Int32} (h : S_laysEnds f lx ly C X Y L0 H0 L H) (h' : S_laysEnds f lx ly C2 X2 Y2 L2 H2 L' H') (hf : 0 ≤ f.toInt ∧ f.toInt ≤ 9) (aC : Ag (R3 f) C C2) (aX : Ag (fun k => k = f.toNatClampNeg) X X2) (aY : Ag (fun k => k = f.toNatClampNeg) Y Y2) (aL : Ag G L0 L2) (aH : Ag G H0 H2) : Ag (fun k => G k ∨ R3 f k) L L' ∧ Ag (fun k => G k ∨ R3 f k) H H' := by
  obtain ⟨v, l, hh, i, b, c, rfl, rfl⟩ | h := h
  · obtain ⟨v', l', hh', i', b', c', rfl, rfl⟩ | h' := h'
    · have e : v = v' := i32e (by omega)
      have q := d_iEnds hf aC aX aY aL aH i _ _ _ i' e
      exact ⟨q.1.mono (Rn3 (by omega)), q.2.mono (Rn3 (by omega))⟩
    · exact h'.elim
  · exact h.elim

theorem d_goesToSide {G1 : Nat → Prop} {G3 : Nat → Prop} {f b p : Int32} {X Y T C X2 Y2 C2 C' C2' : Nat → Int32} (h : S_goesToSide f b p X Y T C C') (h' : S_goesToSide f b p X2 Y2 T C2 C2') (hf : 0 ≤ f.toInt ∧ f.toInt ≤ 9) (hp : 0 ≤ p.toInt ∧ p.toInt ≤ 8) (aX : Ag G1 X X2) (aY : Ag G1 Y Y2) (aC : Ag G3 C C2) (gp : G1 p.toNatClampNeg) (g3 : ∀ k, R3 p k → G3 k) : Ag (fun k => G3 k ∨ R3 f k) C' C2' := by
  rcases h with ⟨z1, z4, f9, z11, z15, z19, z22, f26, rfl, rfl, p1_1, p2_0, rfl, p4_0, p5_0, p5_1, p5_2, rfl, rfl, p8_0, p9_0, p10_0, rfl⟩ | ⟨z1, z4, f9, z11, z15, z19, z22, f26, z30, r34, f38, rfl, rfl, p1_1, p2_0, rfl, p4_0, p5_0, p5_1, p5_2, rfl, rfl, p8_0, p9_0, p10_0, p11_0, p11_1, p11_2, p12_0, p13_0, rfl⟩ | ⟨z1, z4, f9, z11, z15, z19, z22, f26, z40, r45, f49, rfl, rfl, p1_1, p2_0, rfl, p4_0, p5_0, p5_1, p5_2, rfl, rfl, p8_0, p9_0, p10_0, p10_1, p10_2, p11_0, p12_0, rfl⟩ | ⟨z1, z4, f9, z11, z52, z56, z59, f63, rfl, rfl, p1_1, p2_0, rfl, p4_0, p5_0, p5_1, p5_2, rfl, rfl, p8_0, p9_0, p10_0, rfl⟩ | ⟨z1, z4, f9, z11, z52, z56, z59, f63, z67, r72, f76, rfl, rfl, p1_1, p2_0, rfl, p4_0, p5_0, p5_1, p5_2, rfl, rfl, p8_0, p9_0, p10_0, p11_0, p11_1, p11_2, p12_0, p13_0, rfl⟩ | ⟨z1, z4, f9, z11, z52, z56, z59, f63, z78, r82, f86, rfl, rfl, p1_1, p2_0, rfl, p4_0, p5_0, p5_1, p5_2, rfl, rfl, p8_0, p9_0, p10_0, p10_1, p10_2, p11_0, p12_0, rfl⟩ | h
  · rcases h' with ⟨z1', z4', f9', z11', z15', z19', z22', f26', rfl, rfl, q1_1, q2_0, rfl, q4_0, q5_0, q5_1, q5_2, rfl, rfl, q8_0, q9_0, q10_0, rfl⟩ | ⟨z1', z4', f9', z11', z15', z19', z22', f26', z30', r34', f38', rfl, rfl, q1_1, q2_0, rfl, q4_0, q5_0, q5_1, q5_2, rfl, rfl, q8_0, q9_0, q10_0, q11_0, q11_1, q11_2, q12_0, q13_0, rfl⟩ | ⟨z1', z4', f9', z11', z15', z19', z22', f26', z40', r45', f49', rfl, rfl, q1_1, q2_0, rfl, q4_0, q5_0, q5_1, q5_2, rfl, rfl, q8_0, q9_0, q10_0, q10_1, q10_2, q11_0, q12_0, rfl⟩ | ⟨z1', z4', f9', z11', z52', z56', z59', f63', rfl, rfl, q1_1, q2_0, rfl, q4_0, q5_0, q5_1, q5_2, rfl, rfl, q8_0, q9_0, q10_0, rfl⟩ | ⟨z1', z4', f9', z11', z52', z56', z59', f63', z67', r72', f76', rfl, rfl, q1_1, q2_0, rfl, q4_0, q5_0, q5_1, q5_2, rfl, rfl, q8_0, q9_0, q10_0, q11_0, q11_1, q11_2, q12_0, q13_0, rfl⟩ | ⟨z1', z4', f9', z11', z52', z56', z59', f63', z78', r82', f86', rfl, rfl, q1_1, q2_0, rfl, q4_0, q5_0, q5_1, q5_2, rfl, rfl, q8_0, q9_0, q10_0, q10_1, q10_2, q11_0, q12_0, rfl⟩ | h'
    · skip
      have k2 := d_copies p2_0 q2_0 hf hp aC g3
      obtain rfl := aY.ld gp p5_0 q5_0
      have k8 := d_moves p8_0 q8_0 k2
      exact k8
    · skip
      have k2 := d_copies p2_0 q2_0 hf hp aC g3
      obtain rfl := aY.ld gp p5_0 q5_0
      have k8 := d_moves p8_0 q8_0 k2
      exact absurd q10_0 p10_0
    · skip
      have k2 := d_copies p2_0 q2_0 hf hp aC g3
      obtain rfl := aY.ld gp p5_0 q5_0
      have k8 := d_moves p8_0 q8_0 k2
      exact absurd q9_0 p9_0
    · skip
      have k2 := d_copies p2_0 q2_0 hf hp aC g3
      exact absurd q4_0 p4_0
    · skip
      have k2 := d_copies p2_0 q2_0 hf hp aC g3
      exact absurd q4_0 p4_0
    · skip
      have k2 := d_copies p2_0 q2_0 hf hp aC g3
      exact absurd q4_0 p4_0
    · exact h'.elim
  · rcases h' with ⟨z1', z4', f9', z11', z15', z19', z22', f26', rfl, rfl, q1_1, q2_0, rfl, q4_0, q5_0, q5_1, q5_2, rfl, rfl, q8_0, q9_0, q10_0, rfl⟩ | ⟨z1', z4', f9', z11', z15', z19', z22', f26', z30', r34', f38', rfl, rfl, q1_1, q2_0, rfl, q4_0, q5_0, q5_1, q5_2, rfl, rfl, q8_0, q9_0, q10_0, q11_0, q11_1, q11_2, q12_0, q13_0, rfl⟩ | ⟨z1', z4', f9', z11', z15', z19', z22', f26', z40', r45', f49', rfl, rfl, q1_1, q2_0, rfl, q4_0, q5_0, q5_1, q5_2, rfl, rfl, q8_0, q9_0, q10_0, q10_1, q10_2, q11_0, q12_0, rfl⟩ | ⟨z1', z4', f9', z11', z52', z56', z59', f63', rfl, rfl, q1_1, q2_0, rfl, q4_0, q5_0, q5_1, q5_2, rfl, rfl, q8_0, q9_0, q10_0, rfl⟩ | ⟨z1', z4', f9', z11', z52', z56', z59', f63', z67', r72', f76', rfl, rfl, q1_1, q2_0, rfl, q4_0, q5_0, q5_1, q5_2, rfl, rfl, q8_0, q9_0, q10_0, q11_0, q11_1, q11_2, q12_0, q13_0, rfl⟩ | ⟨z1', z4', f9', z11', z52', z56', z59', f63', z78', r82', f86', rfl, rfl, q1_1, q2_0, rfl, q4_0, q5_0, q5_1, q5_2, rfl, rfl, q8_0, q9_0, q10_0, q10_1, q10_2, q11_0, q12_0, rfl⟩ | h'
    · skip
      have k2 := d_copies p2_0 q2_0 hf hp aC g3
      obtain rfl := aY.ld gp p5_0 q5_0
      have k8 := d_moves p8_0 q8_0 k2
      exact absurd p10_0 q10_0
    · skip
      have k2 := d_copies p2_0 q2_0 hf hp aC g3
      obtain rfl := aY.ld gp p5_0 q5_0
      have k8 := d_moves p8_0 q8_0 k2
      obtain rfl := aX.ld gp p11_0 q11_0
      obtain rfl := d_alongX p12_0 q12_0
      have k13 := d_moves p13_0 q13_0 k8
      exact k13
    · skip
      have k2 := d_copies p2_0 q2_0 hf hp aC g3
      obtain rfl := aY.ld gp p5_0 q5_0
      have k8 := d_moves p8_0 q8_0 k2
      exact absurd q9_0 p9_0
    · skip
      have k2 := d_copies p2_0 q2_0 hf hp aC g3
      exact absurd q4_0 p4_0
    · skip
      have k2 := d_copies p2_0 q2_0 hf hp aC g3
      exact absurd q4_0 p4_0
    · skip
      have k2 := d_copies p2_0 q2_0 hf hp aC g3
      exact absurd q4_0 p4_0
    · exact h'.elim
  · rcases h' with ⟨z1', z4', f9', z11', z15', z19', z22', f26', rfl, rfl, q1_1, q2_0, rfl, q4_0, q5_0, q5_1, q5_2, rfl, rfl, q8_0, q9_0, q10_0, rfl⟩ | ⟨z1', z4', f9', z11', z15', z19', z22', f26', z30', r34', f38', rfl, rfl, q1_1, q2_0, rfl, q4_0, q5_0, q5_1, q5_2, rfl, rfl, q8_0, q9_0, q10_0, q11_0, q11_1, q11_2, q12_0, q13_0, rfl⟩ | ⟨z1', z4', f9', z11', z15', z19', z22', f26', z40', r45', f49', rfl, rfl, q1_1, q2_0, rfl, q4_0, q5_0, q5_1, q5_2, rfl, rfl, q8_0, q9_0, q10_0, q10_1, q10_2, q11_0, q12_0, rfl⟩ | ⟨z1', z4', f9', z11', z52', z56', z59', f63', rfl, rfl, q1_1, q2_0, rfl, q4_0, q5_0, q5_1, q5_2, rfl, rfl, q8_0, q9_0, q10_0, rfl⟩ | ⟨z1', z4', f9', z11', z52', z56', z59', f63', z67', r72', f76', rfl, rfl, q1_1, q2_0, rfl, q4_0, q5_0, q5_1, q5_2, rfl, rfl, q8_0, q9_0, q10_0, q11_0, q11_1, q11_2, q12_0, q13_0, rfl⟩ | ⟨z1', z4', f9', z11', z52', z56', z59', f63', z78', r82', f86', rfl, rfl, q1_1, q2_0, rfl, q4_0, q5_0, q5_1, q5_2, rfl, rfl, q8_0, q9_0, q10_0, q10_1, q10_2, q11_0, q12_0, rfl⟩ | h'
    · skip
      have k2 := d_copies p2_0 q2_0 hf hp aC g3
      obtain rfl := aY.ld gp p5_0 q5_0
      have k8 := d_moves p8_0 q8_0 k2
      exact absurd p9_0 q9_0
    · skip
      have k2 := d_copies p2_0 q2_0 hf hp aC g3
      obtain rfl := aY.ld gp p5_0 q5_0
      have k8 := d_moves p8_0 q8_0 k2
      exact absurd p9_0 q9_0
    · skip
      have k2 := d_copies p2_0 q2_0 hf hp aC g3
      obtain rfl := aY.ld gp p5_0 q5_0
      have k8 := d_moves p8_0 q8_0 k2
      obtain rfl := aY.ld gp p10_0 q10_0
      obtain rfl := d_alongY p11_0 q11_0
      have k12 := d_moves p12_0 q12_0 k8
      exact k12
    · skip
      have k2 := d_copies p2_0 q2_0 hf hp aC g3
      exact absurd q4_0 p4_0
    · skip
      have k2 := d_copies p2_0 q2_0 hf hp aC g3
      exact absurd q4_0 p4_0
    · skip
      have k2 := d_copies p2_0 q2_0 hf hp aC g3
      exact absurd q4_0 p4_0
    · exact h'.elim
  · rcases h' with ⟨z1', z4', f9', z11', z15', z19', z22', f26', rfl, rfl, q1_1, q2_0, rfl, q4_0, q5_0, q5_1, q5_2, rfl, rfl, q8_0, q9_0, q10_0, rfl⟩ | ⟨z1', z4', f9', z11', z15', z19', z22', f26', z30', r34', f38', rfl, rfl, q1_1, q2_0, rfl, q4_0, q5_0, q5_1, q5_2, rfl, rfl, q8_0, q9_0, q10_0, q11_0, q11_1, q11_2, q12_0, q13_0, rfl⟩ | ⟨z1', z4', f9', z11', z15', z19', z22', f26', z40', r45', f49', rfl, rfl, q1_1, q2_0, rfl, q4_0, q5_0, q5_1, q5_2, rfl, rfl, q8_0, q9_0, q10_0, q10_1, q10_2, q11_0, q12_0, rfl⟩ | ⟨z1', z4', f9', z11', z52', z56', z59', f63', rfl, rfl, q1_1, q2_0, rfl, q4_0, q5_0, q5_1, q5_2, rfl, rfl, q8_0, q9_0, q10_0, rfl⟩ | ⟨z1', z4', f9', z11', z52', z56', z59', f63', z67', r72', f76', rfl, rfl, q1_1, q2_0, rfl, q4_0, q5_0, q5_1, q5_2, rfl, rfl, q8_0, q9_0, q10_0, q11_0, q11_1, q11_2, q12_0, q13_0, rfl⟩ | ⟨z1', z4', f9', z11', z52', z56', z59', f63', z78', r82', f86', rfl, rfl, q1_1, q2_0, rfl, q4_0, q5_0, q5_1, q5_2, rfl, rfl, q8_0, q9_0, q10_0, q10_1, q10_2, q11_0, q12_0, rfl⟩ | h'
    · skip
      have k2 := d_copies p2_0 q2_0 hf hp aC g3
      exact absurd p4_0 q4_0
    · skip
      have k2 := d_copies p2_0 q2_0 hf hp aC g3
      exact absurd p4_0 q4_0
    · skip
      have k2 := d_copies p2_0 q2_0 hf hp aC g3
      exact absurd p4_0 q4_0
    · skip
      have k2 := d_copies p2_0 q2_0 hf hp aC g3
      obtain rfl := aX.ld gp p5_0 q5_0
      have k8 := d_moves p8_0 q8_0 k2
      exact k8
    · skip
      have k2 := d_copies p2_0 q2_0 hf hp aC g3
      obtain rfl := aX.ld gp p5_0 q5_0
      have k8 := d_moves p8_0 q8_0 k2
      exact absurd q10_0 p10_0
    · skip
      have k2 := d_copies p2_0 q2_0 hf hp aC g3
      obtain rfl := aX.ld gp p5_0 q5_0
      have k8 := d_moves p8_0 q8_0 k2
      exact absurd q9_0 p9_0
    · exact h'.elim
  · rcases h' with ⟨z1', z4', f9', z11', z15', z19', z22', f26', rfl, rfl, q1_1, q2_0, rfl, q4_0, q5_0, q5_1, q5_2, rfl, rfl, q8_0, q9_0, q10_0, rfl⟩ | ⟨z1', z4', f9', z11', z15', z19', z22', f26', z30', r34', f38', rfl, rfl, q1_1, q2_0, rfl, q4_0, q5_0, q5_1, q5_2, rfl, rfl, q8_0, q9_0, q10_0, q11_0, q11_1, q11_2, q12_0, q13_0, rfl⟩ | ⟨z1', z4', f9', z11', z15', z19', z22', f26', z40', r45', f49', rfl, rfl, q1_1, q2_0, rfl, q4_0, q5_0, q5_1, q5_2, rfl, rfl, q8_0, q9_0, q10_0, q10_1, q10_2, q11_0, q12_0, rfl⟩ | ⟨z1', z4', f9', z11', z52', z56', z59', f63', rfl, rfl, q1_1, q2_0, rfl, q4_0, q5_0, q5_1, q5_2, rfl, rfl, q8_0, q9_0, q10_0, rfl⟩ | ⟨z1', z4', f9', z11', z52', z56', z59', f63', z67', r72', f76', rfl, rfl, q1_1, q2_0, rfl, q4_0, q5_0, q5_1, q5_2, rfl, rfl, q8_0, q9_0, q10_0, q11_0, q11_1, q11_2, q12_0, q13_0, rfl⟩ | ⟨z1', z4', f9', z11', z52', z56', z59', f63', z78', r82', f86', rfl, rfl, q1_1, q2_0, rfl, q4_0, q5_0, q5_1, q5_2, rfl, rfl, q8_0, q9_0, q10_0, q10_1, q10_2, q11_0, q12_0, rfl⟩ | h'
    · skip
      have k2 := d_copies p2_0 q2_0 hf hp aC g3
      exact absurd p4_0 q4_0
    · skip
      have k2 := d_copies p2_0 q2_0 hf hp aC g3
      exact absurd p4_0 q4_0
    · skip
      have k2 := d_copies p2_0 q2_0 hf hp aC g3
      exact absurd p4_0 q4_0
    · skip
      have k2 := d_copies p2_0 q2_0 hf hp aC g3
      obtain rfl := aX.ld gp p5_0 q5_0
      have k8 := d_moves p8_0 q8_0 k2
      exact absurd p10_0 q10_0
    · skip
      have k2 := d_copies p2_0 q2_0 hf hp aC g3
      obtain rfl := aX.ld gp p5_0 q5_0
      have k8 := d_moves p8_0 q8_0 k2
      obtain rfl := aX.ld gp p11_0 q11_0
      obtain rfl := d_alongX p12_0 q12_0
      have k13 := d_moves p13_0 q13_0 k8
      exact k13
    · skip
      have k2 := d_copies p2_0 q2_0 hf hp aC g3
      obtain rfl := aX.ld gp p5_0 q5_0
      have k8 := d_moves p8_0 q8_0 k2
      exact absurd q9_0 p9_0
    · exact h'.elim
  · rcases h' with ⟨z1', z4', f9', z11', z15', z19', z22', f26', rfl, rfl, q1_1, q2_0, rfl, q4_0, q5_0, q5_1, q5_2, rfl, rfl, q8_0, q9_0, q10_0, rfl⟩ | ⟨z1', z4', f9', z11', z15', z19', z22', f26', z30', r34', f38', rfl, rfl, q1_1, q2_0, rfl, q4_0, q5_0, q5_1, q5_2, rfl, rfl, q8_0, q9_0, q10_0, q11_0, q11_1, q11_2, q12_0, q13_0, rfl⟩ | ⟨z1', z4', f9', z11', z15', z19', z22', f26', z40', r45', f49', rfl, rfl, q1_1, q2_0, rfl, q4_0, q5_0, q5_1, q5_2, rfl, rfl, q8_0, q9_0, q10_0, q10_1, q10_2, q11_0, q12_0, rfl⟩ | ⟨z1', z4', f9', z11', z52', z56', z59', f63', rfl, rfl, q1_1, q2_0, rfl, q4_0, q5_0, q5_1, q5_2, rfl, rfl, q8_0, q9_0, q10_0, rfl⟩ | ⟨z1', z4', f9', z11', z52', z56', z59', f63', z67', r72', f76', rfl, rfl, q1_1, q2_0, rfl, q4_0, q5_0, q5_1, q5_2, rfl, rfl, q8_0, q9_0, q10_0, q11_0, q11_1, q11_2, q12_0, q13_0, rfl⟩ | ⟨z1', z4', f9', z11', z52', z56', z59', f63', z78', r82', f86', rfl, rfl, q1_1, q2_0, rfl, q4_0, q5_0, q5_1, q5_2, rfl, rfl, q8_0, q9_0, q10_0, q10_1, q10_2, q11_0, q12_0, rfl⟩ | h'
    · skip
      have k2 := d_copies p2_0 q2_0 hf hp aC g3
      exact absurd p4_0 q4_0
    · skip
      have k2 := d_copies p2_0 q2_0 hf hp aC g3
      exact absurd p4_0 q4_0
    · skip
      have k2 := d_copies p2_0 q2_0 hf hp aC g3
      exact absurd p4_0 q4_0
    · skip
      have k2 := d_copies p2_0 q2_0 hf hp aC g3
      obtain rfl := aX.ld gp p5_0 q5_0
      have k8 := d_moves p8_0 q8_0 k2
      exact absurd p9_0 q9_0
    · skip
      have k2 := d_copies p2_0 q2_0 hf hp aC g3
      obtain rfl := aX.ld gp p5_0 q5_0
      have k8 := d_moves p8_0 q8_0 k2
      exact absurd p9_0 q9_0
    · skip
      have k2 := d_copies p2_0 q2_0 hf hp aC g3
      obtain rfl := aX.ld gp p5_0 q5_0
      have k8 := d_moves p8_0 q8_0 k2
      obtain rfl := aY.ld gp p10_0 q10_0
      obtain rfl := d_alongY p11_0 q11_0
      have k12 := d_moves p12_0 q12_0 k8
      exact k12
    · exact h'.elim
  · exact h.elim
theorem d_goesOnFlat {G1 : Nat → Prop} {G3 : Nat → Prop} {f p : Int32} {X Y N C F X2 Y2 N2 C2 X' Y' N' C' X2' Y2' N2' C2' : Nat → Int32} (h : S_goesOnFlat f p X Y N C F X' Y' N' C') (h' : S_goesOnFlat f p X2 Y2 N2 C2 F X2' Y2' N2' C2') (hf : 0 ≤ f.toInt ∧ f.toInt ≤ 9) (hp : 0 ≤ p.toInt ∧ p.toInt ≤ 8) (aX : Ag G1 X X2) (aY : Ag G1 Y Y2) (aN : Ag G1 N N2) (aC : Ag G3 C C2) (gp : G1 p.toNatClampNeg) (g3 : ∀ k, R3 p k → G3 k) : Ag (fun k => G1 k ∨ k = f.toNatClampNeg) X' X2' ∧ Ag (fun k => G1 k ∨ k = f.toNatClampNeg) Y' Y2' ∧ Ag (fun k => G1 k ∨ k = f.toNatClampNeg) N' N2' ∧ Ag (fun k => G3 k ∨ R3 f k) C' C2' := by
  rcases h with ⟨f3, z5, f9, z13, f17, z22, f26, z33, z37, z40, z42, z45, z47, f51, z53, z57, z60, z63, z65, z68, z71, z73, f77, p0_0, p1_0, p1_1, p1_2, p2_0, p3_0, p3_1, p3_2, p4_0, p5_0, p5_1, p5_2, p6_0, p7_0, p7_1, p7_2, rfl, rfl, rfl, rfl, rfl, p13_0, p14_0, p14_1, p14_2, rfl, rfl, rfl, rfl, rfl, rfl, rfl, p22_0, rfl, rfl, rfl, rfl⟩ | h
  · rcases h' with ⟨f3', z5', f9', z13', f17', z22', f26', z33', z37', z40', z42', z45', z47', f51', z53', z57', z60', z63', z65', z68', z71', z73', f77', q0_0, q1_0, q1_1, q1_2, q2_0, q3_0, q3_1, q3_2, q4_0, q5_0, q5_1, q5_2, q6_0, q7_0, q7_1, q7_2, rfl, rfl, rfl, rfl, rfl, q13_0, q14_0, q14_1, q14_2, rfl, rfl, rfl, rfl, rfl, rfl, rfl, q22_0, rfl, rfl, rfl, rfl⟩ | h'
    · skip
      have k0 := d_copies p0_0 q0_0 hf hp aC g3
      obtain rfl := aX.ld gp p1_0 q1_0
      have g2 := aX.st p2_0 q2_0 rfl
      obtain rfl := aY.ld gp p3_0 q3_0
      have g4 := aY.st p4_0 q4_0 rfl
      obtain rfl := aN.ld gp p5_0 q5_0
      have g6 := aN.st p6_0 q6_0 rfl
      obtain rfl := g2.ld (.inl gp) p7_0 q7_0
      have k13 := d_moves p13_0 q13_0 k0
      obtain rfl := g4.ld (.inl gp) p14_0 q14_0
      have k22 := d_moves p22_0 q22_0 k13
      exact ⟨g2, g4, g6, k22⟩
    · exact h'.elim
  · exact h.elim
theorem d_standsUp {G1 : Nat → Prop} {G3 : Nat → Prop} {f p : Int32} {X Y N T W C X2 Y2 N2 C2 X' Y' N' C' X2' Y2' N2' C2' : Nat → Int32} (h : S_standsUp f p X Y N T W C X' Y' N' C') (h' : S_standsUp f p X2 Y2 N2 T W C2 X2' Y2' N2' C2') (hf : 0 ≤ f.toInt ∧ f.toInt ≤ 9) (hp : 0 ≤ p.toInt ∧ p.toInt ≤ 8) (aX : Ag G1 X X2) (aY : Ag G1 Y Y2) (aN : Ag G1 N N2) (aC : Ag G3 C C2) (gp : G1 p.toNatClampNeg) (g3 : ∀ k, R3 p k → G3 k) : Ag (fun k => G1 k ∨ k = f.toNatClampNeg) X' X2' ∧ Ag (fun k => G1 k ∨ k = f.toNatClampNeg) Y' Y2' ∧ Ag (fun k => G1 k ∨ k = f.toNatClampNeg) N' N2' ∧ Ag (fun k => G3 k ∨ R3 f k) C' C2' := by
  refine h _ ⟨?_, ?_, ?_, ?_, ?_, ?_, ?_, ?_, trivial⟩
  · intros z1 z4 z10 z14 z17 z20 z24 z28 f33 z37 f40 z46 f50 f63 z71 z74 f78 p0_0 p1_0 p1_1 p2_0 p3_0 p4_0 p5_0 p5_1 p5_2 p6_0 p7_0 p8_0 p8_1 p9_0 p10_0 p10_1 p10_2 p11_0 p12_0 p13_0 p14_0 p15_0 p15_1 p15_2 p16_0 p17_0 p18_0 p19_0 p20_0 e0 e1 e2 e3
    subst p0_0
    subst p1_0
    subst p6_0
    subst p7_0
    subst p8_0
    subst p11_0
    subst p13_0
    subst p18_0
    subst p19_0
    subst e0
    subst e1
    subst e2
    subst e3
    refine h' _ ⟨?_, ?_, ?_, ?_, ?_, ?_, ?_, ?_, trivial⟩
    · intros z1' z4' z10' z14' z17' z20' z24' z28' f33' z37' f40' z46' f50' f63' z71' z74' f78' q0_0 q1_0 q1_1 q2_0 q3_0 q4_0 q5_0 q5_1 q5_2 q6_0 q7_0 q8_0 q8_1 q9_0 q10_0 q10_1 q10_2 q11_0 q12_0 q13_0 q14_0 q15_0 q15_1 q15_2 q16_0 q17_0 q18_0 q19_0 q20_0 g0 g1 g2 g3
      subst q0_0
      subst q1_0
      subst q6_0
      subst q7_0
      subst q8_0
      subst q11_0
      subst q13_0
      subst q18_0
      subst q19_0
      subst g0
      subst g1
      subst g2
      subst g3
      obtain rfl := aX.ld gp p5_0 q5_0
      obtain rfl := aN.ld gp p10_0 q10_0
      have k12 := d_goesToSide p12_0 q12_0 hf hp aX aY aC gp g3
      have g14 := aX.st p14_0 q14_0 rfl
      obtain rfl := aY.ld gp p15_0 q15_0
      have g16 := aY.st p16_0 q16_0 rfl
      have g17 := aN.st p17_0 q17_0 rfl
      have k20 := d_moves p20_0 q20_0 k12
      exact ⟨g14, g16, g17, k20⟩
    · intros z1' z4' z10' z14' z17' z20' z80' f86' z90' f93' z99' f103' z116' f119' z127' z130' f134' q0_0 q1_0 q1_1 q2_0 q3_0 q4_0 q5_0 q5_1 q5_2 q6_0 q7_0 q8_0 q8_1 q9_0 q10_0 q10_1 q10_2 q11_0 q12_0 q13_0 q14_0 q14_1 q14_2 q15_0 q16_0 q17_0 q18_0 q19_0 q20_0 g0 g1 g2 g3
      subst q0_0
      subst q1_0
      subst q6_0
      subst q7_0
      subst q8_0
      subst q12_0
      subst q16_0
      subst q18_0
      subst q19_0
      subst g0
      subst g1
      subst g2
      subst g3
      obtain rfl := aX.ld gp p5_0 q5_0
      exact absurd q9_0 p9_0
    · intros z1' z4' z136' z140' z143' z146' z150' z154' f159' z163' f167' z173' f176' f189' z197' z200' f204' q0_0 q1_0 q1_1 q2_0 q3_0 q4_0 q5_0 q5_1 q5_2 q6_0 q7_0 q8_0 q8_1 q9_0 q10_0 q10_1 q10_2 q11_0 q12_0 q13_0 q13_1 q13_2 q14_0 q15_0 q16_0 q17_0 q18_0 q19_0 q20_0 g0 g1 g2 g3
      subst q0_0
      subst q1_0
      exact absurd q4_0 p4_0
    · intros z1' z4' z136' z140' z143' z146' z206' f212' z216' f220' z226' f229' z242' f245' z253' z256' f260' q0_0 q1_0 q1_1 q2_0 q3_0 q4_0 q5_0 q5_1 q5_2 q6_0 q7_0 q8_0 q8_1 q9_0 q10_0 q10_1 q10_2 q11_0 q12_0 q12_1 q12_2 q13_0 q14_0 q15_0 q16_0 q17_0 q18_0 q19_0 q20_0 g0 g1 g2 g3
      subst q0_0
      subst q1_0
      exact absurd q4_0 p4_0
    · intros z1' z4' z262' z266' z269' z273' z277' f282' f285' z291' f295' f308' q0_0 q1_0 q1_1 q2_0 q3_0 q4_0 q4_1 q4_2 q5_0 q6_0 q6_1 q7_0 q8_0 q8_1 q8_2 q9_0 q10_0 q11_0 q12_0 q12_1 q12_2 q13_0 q14_0 g0 g1 g2 g3
      subst q0_0
      subst q1_0
      exact absurd q3_0 p3_0
    · intros z1' z4' z262' z266' z269' z316' f322' f325' z331' f335' z348' f351' q0_0 q1_0 q1_1 q2_0 q3_0 q4_0 q4_1 q4_2 q5_0 q6_0 q6_1 q7_0 q8_0 q8_1 q8_2 q9_0 q10_0 q11_0 q11_1 q11_2 q12_0 q13_0 q14_0 g0 g1 g2 g3
      subst q0_0
      subst q1_0
      exact absurd q3_0 p3_0
    · intros z1' z4' z359' z363' z366' z370' z374' f379' z383' f387' f392' f405' q0_0 q1_0 q1_1 q2_0 q3_0 q3_1 q3_2 q4_0 q5_0 q5_1 q6_0 q7_0 q7_1 q7_2 q8_0 q9_0 q10_0 q10_1 q10_2 q11_0 q12_0 q13_0 g0 g1 g2 g3
      subst q0_0
      subst q1_0
      exact absurd q2_0 p2_0
    · intros z1' z4' z359' z363' z366' z413' f419' z423' f427' f432' z445' f448' q0_0 q1_0 q1_1 q2_0 q3_0 q3_1 q3_2 q4_0 q5_0 q5_1 q6_0 q7_0 q7_1 q7_2 q8_0 q9_0 q9_1 q9_2 q10_0 q11_0 q12_0 q13_0 g0 g1 g2 g3
      subst q0_0
      subst q1_0
      exact absurd q2_0 p2_0
  · intros z1 z4 z10 z14 z17 z20 z80 f86 z90 f93 z99 f103 z116 f119 z127 z130 f134 p0_0 p1_0 p1_1 p2_0 p3_0 p4_0 p5_0 p5_1 p5_2 p6_0 p7_0 p8_0 p8_1 p9_0 p10_0 p10_1 p10_2 p11_0 p12_0 p13_0 p14_0 p14_1 p14_2 p15_0 p16_0 p17_0 p18_0 p19_0 p20_0 e0 e1 e2 e3
    subst p0_0
    subst p1_0
    subst p6_0
    subst p7_0
    subst p8_0
    subst p12_0
    subst p16_0
    subst p18_0
    subst p19_0
    subst e0
    subst e1
    subst e2
    subst e3
    refine h' _ ⟨?_, ?_, ?_, ?_, ?_, ?_, ?_, ?_, trivial⟩
    · intros z1' z4' z10' z14' z17' z20' z24' z28' f33' z37' f40' z46' f50' f63' z71' z74' f78' q0_0 q1_0 q1_1 q2_0 q3_0 q4_0 q5_0 q5_1 q5_2 q6_0 q7_0 q8_0 q8_1 q9_0 q10_0 q10_1 q10_2 q11_0 q12_0 q13_0 q14_0 q15_0 q15_1 q15_2 q16_0 q17_0 q18_0 q19_0 q20_0 g0 g1 g2 g3
      subst q0_0
      subst q1_0
      subst q6_0
      subst q7_0
      subst q8_0
      subst q11_0
      subst q13_0
      subst q18_0
      subst q19_0
      subst g0
      subst g1
      subst g2
      subst g3
      obtain rfl := aX.ld gp p5_0 q5_0
      exact absurd p9_0 q9_0
    · intros z1' z4' z10' z14' z17' z20' z80' f86' z90' f93' z99' f103' z116' f119' z127' z130' f134' q0_0 q1_0 q1_1 q2_0 q3_0 q4_0 q5_0 q5_1 q5_2 q6_0 q7_0 q8_0 q8_1 q9_0 q10_0 q10_1 q10_2 q11_0 q12_0 q13_0 q14_0 q14_1 q14_2 q15_0 q16_0 q17_0 q18_0 q19_0 q20_0 g0 g1 g2 g3
      subst q0_0
      subst q1_0
      subst q6_0
      subst q7_0
      subst q8_0
      subst q12_0
      subst q16_0
      subst q18_0
      subst q19_0
      subst g0
      subst g1
      subst g2
      subst g3
      obtain rfl := aX.ld gp p5_0 q5_0
      obtain rfl := aN.ld gp p10_0 q10_0
      have k11 := d_goesToSide p11_0 q11_0 hf hp aX aY aC gp g3
      have g13 := aX.st p13_0 q13_0 rfl
      obtain rfl := aY.ld gp p14_0 q14_0
      have g15 := aY.st p15_0 q15_0 rfl
      have g17 := aN.st p17_0 q17_0 rfl
      have k20 := d_moves p20_0 q20_0 k11
      exact ⟨g13, g15, g17, k20⟩
    · intros z1' z4' z136' z140' z143' z146' z150' z154' f159' z163' f167' z173' f176' f189' z197' z200' f204' q0_0 q1_0 q1_1 q2_0 q3_0 q4_0 q5_0 q5_1 q5_2 q6_0 q7_0 q8_0 q8_1 q9_0 q10_0 q10_1 q10_2 q11_0 q12_0 q13_0 q13_1 q13_2 q14_0 q15_0 q16_0 q17_0 q18_0 q19_0 q20_0 g0 g1 g2 g3
      subst q0_0
      subst q1_0
      exact absurd q4_0 p4_0
    · intros z1' z4' z136' z140' z143' z146' z206' f212' z216' f220' z226' f229' z242' f245' z253' z256' f260' q0_0 q1_0 q1_1 q2_0 q3_0 q4_0 q5_0 q5_1 q5_2 q6_0 q7_0 q8_0 q8_1 q9_0 q10_0 q10_1 q10_2 q11_0 q12_0 q12_1 q12_2 q13_0 q14_0 q15_0 q16_0 q17_0 q18_0 q19_0 q20_0 g0 g1 g2 g3
      subst q0_0
      subst q1_0
      exact absurd q4_0 p4_0
    · intros z1' z4' z262' z266' z269' z273' z277' f282' f285' z291' f295' f308' q0_0 q1_0 q1_1 q2_0 q3_0 q4_0 q4_1 q4_2 q5_0 q6_0 q6_1 q7_0 q8_0 q8_1 q8_2 q9_0 q10_0 q11_0 q12_0 q12_1 q12_2 q13_0 q14_0 g0 g1 g2 g3
      subst q0_0
      subst q1_0
      exact absurd q3_0 p3_0
    · intros z1' z4' z262' z266' z269' z316' f322' f325' z331' f335' z348' f351' q0_0 q1_0 q1_1 q2_0 q3_0 q4_0 q4_1 q4_2 q5_0 q6_0 q6_1 q7_0 q8_0 q8_1 q8_2 q9_0 q10_0 q11_0 q11_1 q11_2 q12_0 q13_0 q14_0 g0 g1 g2 g3
      subst q0_0
      subst q1_0
      exact absurd q3_0 p3_0
    · intros z1' z4' z359' z363' z366' z370' z374' f379' z383' f387' f392' f405' q0_0 q1_0 q1_1 q2_0 q3_0 q3_1 q3_2 q4_0 q5_0 q5_1 q6_0 q7_0 q7_1 q7_2 q8_0 q9_0 q10_0 q10_1 q10_2 q11_0 q12_0 q13_0 g0 g1 g2 g3
      subst q0_0
      subst q1_0
      exact absurd q2_0 p2_0
    · intros z1' z4' z359' z363' z366' z413' f419' z423' f427' f432' z445' f448' q0_0 q1_0 q1_1 q2_0 q3_0 q3_1 q3_2 q4_0 q5_0 q5_1 q6_0 q7_0 q7_1 q7_2 q8_0 q9_0 q9_1 q9_2 q10_0 q11_0 q12_0 q13_0 g0 g1 g2 g3
      subst q0_0
      subst q1_0
      exact absurd q2_0 p2_0
  · intros z1 z4 z136 z140 z143 z146 z150 z154 f159 z163 f167 z173 f176 f189 z197 z200 f204 p0_0 p1_0 p1_1 p2_0 p3_0 p4_0 p5_0 p5_1 p5_2 p6_0 p7_0 p8_0 p8_1 p9_0 p10_0 p10_1 p10_2 p11_0 p12_0 p13_0 p13_1 p13_2 p14_0 p15_0 p16_0 p17_0 p18_0 p19_0 p20_0 e0 e1 e2 e3
    subst p0_0
    subst p1_0
    subst p6_0
    subst p7_0
    subst p8_0
    subst p11_0
    subst p15_0
    subst p18_0
    subst p19_0
    subst e0
    subst e1
    subst e2
    subst e3
    refine h' _ ⟨?_, ?_, ?_, ?_, ?_, ?_, ?_, ?_, trivial⟩
    · intros z1' z4' z10' z14' z17' z20' z24' z28' f33' z37' f40' z46' f50' f63' z71' z74' f78' q0_0 q1_0 q1_1 q2_0 q3_0 q4_0 q5_0 q5_1 q5_2 q6_0 q7_0 q8_0 q8_1 q9_0 q10_0 q10_1 q10_2 q11_0 q12_0 q13_0 q14_0 q15_0 q15_1 q15_2 q16_0 q17_0 q18_0 q19_0 q20_0 g0 g1 g2 g3
      subst q0_0
      subst q1_0
      exact absurd p4_0 q4_0
    · intros z1' z4' z10' z14' z17' z20' z80' f86' z90' f93' z99' f103' z116' f119' z127' z130' f134' q0_0 q1_0 q1_1 q2_0 q3_0 q4_0 q5_0 q5_1 q5_2 q6_0 q7_0 q8_0 q8_1 q9_0 q10_0 q10_1 q10_2 q11_0 q12_0 q13_0 q14_0 q14_1 q14_2 q15_0 q16_0 q17_0 q18_0 q19_0 q20_0 g0 g1 g2 g3
      subst q0_0
      subst q1_0
      exact absurd p4_0 q4_0
    · intros z1' z4' z136' z140' z143' z146' z150' z154' f159' z163' f167' z173' f176' f189' z197' z200' f204' q0_0 q1_0 q1_1 q2_0 q3_0 q4_0 q5_0 q5_1 q5_2 q6_0 q7_0 q8_0 q8_1 q9_0 q10_0 q10_1 q10_2 q11_0 q12_0 q13_0 q13_1 q13_2 q14_0 q15_0 q16_0 q17_0 q18_0 q19_0 q20_0 g0 g1 g2 g3
      subst q0_0
      subst q1_0
      subst q6_0
      subst q7_0
      subst q8_0
      subst q11_0
      subst q15_0
      subst q18_0
      subst q19_0
      subst g0
      subst g1
      subst g2
      subst g3
      obtain rfl := aY.ld gp p5_0 q5_0
      obtain rfl := aN.ld gp p10_0 q10_0
      have k12 := d_goesToSide p12_0 q12_0 hf hp aX aY aC gp g3
      obtain rfl := aX.ld gp p13_0 q13_0
      have g14 := aX.st p14_0 q14_0 rfl
      have g16 := aY.st p16_0 q16_0 rfl
      have g17 := aN.st p17_0 q17_0 rfl
      have k20 := d_moves p20_0 q20_0 k12
      exact ⟨g14, g16, g17, k20⟩
    · intros z1' z4' z136' z140' z143' z146' z206' f212' z216' f220' z226' f229' z242' f245' z253' z256' f260' q0_0 q1_0 q1_1 q2_0 q3_0 q4_0 q5_0 q5_1 q5_2 q6_0 q7_0 q8_0 q8_1 q9_0 q10_0 q10_1 q10_2 q11_0 q12_0 q12_1 q12_2 q13_0 q14_0 q15_0 q16_0 q17_0 q18_0 q19_0 q20_0 g0 g1 g2 g3
      subst q0_0
      subst q1_0
      subst q6_0
      subst q7_0
      subst q8_0
      subst q14_0
      subst q16_0
      subst q18_0
      subst q19_0
      subst g0
      subst g1
      subst g2
      subst g3
      obtain rfl := aY.ld gp p5_0 q5_0
      exact absurd q9_0 p9_0
    · intros z1' z4' z262' z266' z269' z273' z277' f282' f285' z291' f295' f308' q0_0 q1_0 q1_1 q2_0 q3_0 q4_0 q4_1 q4_2 q5_0 q6_0 q6_1 q7_0 q8_0 q8_1 q8_2 q9_0 q10_0 q11_0 q12_0 q12_1 q12_2 q13_0 q14_0 g0 g1 g2 g3
      subst q0_0
      subst q1_0
      exact absurd q3_0 p3_0
    · intros z1' z4' z262' z266' z269' z316' f322' f325' z331' f335' z348' f351' q0_0 q1_0 q1_1 q2_0 q3_0 q4_0 q4_1 q4_2 q5_0 q6_0 q6_1 q7_0 q8_0 q8_1 q8_2 q9_0 q10_0 q11_0 q11_1 q11_2 q12_0 q13_0 q14_0 g0 g1 g2 g3
      subst q0_0
      subst q1_0
      exact absurd q3_0 p3_0
    · intros z1' z4' z359' z363' z366' z370' z374' f379' z383' f387' f392' f405' q0_0 q1_0 q1_1 q2_0 q3_0 q3_1 q3_2 q4_0 q5_0 q5_1 q6_0 q7_0 q7_1 q7_2 q8_0 q9_0 q10_0 q10_1 q10_2 q11_0 q12_0 q13_0 g0 g1 g2 g3
      subst q0_0
      subst q1_0
      exact absurd q2_0 p2_0
    · intros z1' z4' z359' z363' z366' z413' f419' z423' f427' f432' z445' f448' q0_0 q1_0 q1_1 q2_0 q3_0 q3_1 q3_2 q4_0 q5_0 q5_1 q6_0 q7_0 q7_1 q7_2 q8_0 q9_0 q9_1 q9_2 q10_0 q11_0 q12_0 q13_0 g0 g1 g2 g3
      subst q0_0
      subst q1_0
      exact absurd q2_0 p2_0
  · intros z1 z4 z136 z140 z143 z146 z206 f212 z216 f220 z226 f229 z242 f245 z253 z256 f260 p0_0 p1_0 p1_1 p2_0 p3_0 p4_0 p5_0 p5_1 p5_2 p6_0 p7_0 p8_0 p8_1 p9_0 p10_0 p10_1 p10_2 p11_0 p12_0 p12_1 p12_2 p13_0 p14_0 p15_0 p16_0 p17_0 p18_0 p19_0 p20_0 e0 e1 e2 e3
    subst p0_0
    subst p1_0
    subst p6_0
    subst p7_0
    subst p8_0
    subst p14_0
    subst p16_0
    subst p18_0
    subst p19_0
    subst e0
    subst e1
    subst e2
    subst e3
    refine h' _ ⟨?_, ?_, ?_, ?_, ?_, ?_, ?_, ?_, trivial⟩
    · intros z1' z4' z10' z14' z17' z20' z24' z28' f33' z37' f40' z46' f50' f63' z71' z74' f78' q0_0 q1_0 q1_1 q2_0 q3_0 q4_0 q5_0 q5_1 q5_2 q6_0 q7_0 q8_0 q8_1 q9_0 q10_0 q10_1 q10_2 q11_0 q12_0 q13_0 q14_0 q15_0 q15_1 q15_2 q16_0 q17_0 q18_0 q19_0 q20_0 g0 g1 g2 g3
      subst q0_0
      subst q1_0
      exact absurd p4_0 q4_0
    · intros z1' z4' z10' z14' z17' z20' z80' f86' z90' f93' z99' f103' z116' f119' z127' z130' f134' q0_0 q1_0 q1_1 q2_0 q3_0 q4_0 q5_0 q5_1 q5_2 q6_0 q7_0 q8_0 q8_1 q9_0 q10_0 q10_1 q10_2 q11_0 q12_0 q13_0 q14_0 q14_1 q14_2 q15_0 q16_0 q17_0 q18_0 q19_0 q20_0 g0 g1 g2 g3
      subst q0_0
      subst q1_0
      exact absurd p4_0 q4_0
    · intros z1' z4' z136' z140' z143' z146' z150' z154' f159' z163' f167' z173' f176' f189' z197' z200' f204' q0_0 q1_0 q1_1 q2_0 q3_0 q4_0 q5_0 q5_1 q5_2 q6_0 q7_0 q8_0 q8_1 q9_0 q10_0 q10_1 q10_2 q11_0 q12_0 q13_0 q13_1 q13_2 q14_0 q15_0 q16_0 q17_0 q18_0 q19_0 q20_0 g0 g1 g2 g3
      subst q0_0
      subst q1_0
      subst q6_0
      subst q7_0
      subst q8_0
      subst q11_0
      subst q15_0
      subst q18_0
      subst q19_0
      subst g0
      subst g1
      subst g2
      subst g3
      obtain rfl := aY.ld gp p5_0 q5_0
      exact absurd p9_0 q9_0
    · intros z1' z4' z136' z140' z143' z146' z206' f212' z216' f220' z226' f229' z242' f245' z253' z256' f260' q0_0 q1_0 q1_1 q2_0 q3_0 q4_0 q5_0 q5_1 q5_2 q6_0 q7_0 q8_0 q8_1 q9_0 q10_0 q10_1 q10_2 q11_0 q12_0 q12_1 q12_2 q13_0 q14_0 q15_0 q16_0 q17_0 q18_0 q19_0 q20_0 g0 g1 g2 g3
      subst q0_0
      subst q1_0
      subst q6_0
      subst q7_0
      subst q8_0
      subst q14_0
      subst q16_0
      subst q18_0
      subst q19_0
      subst g0
      subst g1
      subst g2
      subst g3
      obtain rfl := aY.ld gp p5_0 q5_0
      obtain rfl := aN.ld gp p10_0 q10_0
      have k11 := d_goesToSide p11_0 q11_0 hf hp aX aY aC gp g3
      obtain rfl := aX.ld gp p12_0 q12_0
      have g13 := aX.st p13_0 q13_0 rfl
      have g15 := aY.st p15_0 q15_0 rfl
      have g17 := aN.st p17_0 q17_0 rfl
      have k20 := d_moves p20_0 q20_0 k11
      exact ⟨g13, g15, g17, k20⟩
    · intros z1' z4' z262' z266' z269' z273' z277' f282' f285' z291' f295' f308' q0_0 q1_0 q1_1 q2_0 q3_0 q4_0 q4_1 q4_2 q5_0 q6_0 q6_1 q7_0 q8_0 q8_1 q8_2 q9_0 q10_0 q11_0 q12_0 q12_1 q12_2 q13_0 q14_0 g0 g1 g2 g3
      subst q0_0
      subst q1_0
      exact absurd q3_0 p3_0
    · intros z1' z4' z262' z266' z269' z316' f322' f325' z331' f335' z348' f351' q0_0 q1_0 q1_1 q2_0 q3_0 q4_0 q4_1 q4_2 q5_0 q6_0 q6_1 q7_0 q8_0 q8_1 q8_2 q9_0 q10_0 q11_0 q11_1 q11_2 q12_0 q13_0 q14_0 g0 g1 g2 g3
      subst q0_0
      subst q1_0
      exact absurd q3_0 p3_0
    · intros z1' z4' z359' z363' z366' z370' z374' f379' z383' f387' f392' f405' q0_0 q1_0 q1_1 q2_0 q3_0 q3_1 q3_2 q4_0 q5_0 q5_1 q6_0 q7_0 q7_1 q7_2 q8_0 q9_0 q10_0 q10_1 q10_2 q11_0 q12_0 q13_0 g0 g1 g2 g3
      subst q0_0
      subst q1_0
      exact absurd q2_0 p2_0
    · intros z1' z4' z359' z363' z366' z413' f419' z423' f427' f432' z445' f448' q0_0 q1_0 q1_1 q2_0 q3_0 q3_1 q3_2 q4_0 q5_0 q5_1 q6_0 q7_0 q7_1 q7_2 q8_0 q9_0 q9_1 q9_2 q10_0 q11_0 q12_0 q13_0 g0 g1 g2 g3
      subst q0_0
      subst q1_0
      exact absurd q2_0 p2_0
  · intros z1 z4 z262 z266 z269 z273 z277 f282 f285 z291 f295 f308 p0_0 p1_0 p1_1 p2_0 p3_0 p4_0 p4_1 p4_2 p5_0 p6_0 p6_1 p7_0 p8_0 p8_1 p8_2 p9_0 p10_0 p11_0 p12_0 p12_1 p12_2 p13_0 p14_0 e0 e1 e2 e3
    subst p0_0
    subst p1_0
    subst p5_0
    subst p6_0
    subst p9_0
    subst e0
    subst e1
    subst e2
    subst e3
    refine h' _ ⟨?_, ?_, ?_, ?_, ?_, ?_, ?_, ?_, trivial⟩
    · intros z1' z4' z10' z14' z17' z20' z24' z28' f33' z37' f40' z46' f50' f63' z71' z74' f78' q0_0 q1_0 q1_1 q2_0 q3_0 q4_0 q5_0 q5_1 q5_2 q6_0 q7_0 q8_0 q8_1 q9_0 q10_0 q10_1 q10_2 q11_0 q12_0 q13_0 q14_0 q15_0 q15_1 q15_2 q16_0 q17_0 q18_0 q19_0 q20_0 g0 g1 g2 g3
      subst q0_0
      subst q1_0
      exact absurd p3_0 q3_0
    · intros z1' z4' z10' z14' z17' z20' z80' f86' z90' f93' z99' f103' z116' f119' z127' z130' f134' q0_0 q1_0 q1_1 q2_0 q3_0 q4_0 q5_0 q5_1 q5_2 q6_0 q7_0 q8_0 q8_1 q9_0 q10_0 q10_1 q10_2 q11_0 q12_0 q13_0 q14_0 q14_1 q14_2 q15_0 q16_0 q17_0 q18_0 q19_0 q20_0 g0 g1 g2 g3
      subst q0_0
      subst q1_0
      exact absurd p3_0 q3_0
    · intros z1' z4' z136' z140' z143' z146' z150' z154' f159' z163' f167' z173' f176' f189' z197' z200' f204' q0_0 q1_0 q1_1 q2_0 q3_0 q4_0 q5_0 q5_1 q5_2 q6_0 q7_0 q8_0 q8_1 q9_0 q10_0 q10_1 q10_2 q11_0 q12_0 q13_0 q13_1 q13_2 q14_0 q15_0 q16_0 q17_0 q18_0 q19_0 q20_0 g0 g1 g2 g3
      subst q0_0
      subst q1_0
      exact absurd p3_0 q3_0
    · intros z1' z4' z136' z140' z143' z146' z206' f212' z216' f220' z226' f229' z242' f245' z253' z256' f260' q0_0 q1_0 q1_1 q2_0 q3_0 q4_0 q5_0 q5_1 q5_2 q6_0 q7_0 q8_0 q8_1 q9_0 q10_0 q10_1 q10_2 q11_0 q12_0 q12_1 q12_2 q13_0 q14_0 q15_0 q16_0 q17_0 q18_0 q19_0 q20_0 g0 g1 g2 g3
      subst q0_0
      subst q1_0
      exact absurd p3_0 q3_0
    · intros z1' z4' z262' z266' z269' z273' z277' f282' f285' z291' f295' f308' q0_0 q1_0 q1_1 q2_0 q3_0 q4_0 q4_1 q4_2 q5_0 q6_0 q6_1 q7_0 q8_0 q8_1 q8_2 q9_0 q10_0 q11_0 q12_0 q12_1 q12_2 q13_0 q14_0 g0 g1 g2 g3
      subst q0_0
      subst q1_0
      subst q5_0
      subst q6_0
      subst q9_0
      subst g0
      subst g1
      subst g2
      subst g3
      obtain rfl := aX.ld gp p4_0 q4_0
      obtain rfl := aN.ld gp p8_0 q8_0
      have k10 := d_goesToSide p10_0 q10_0 hf hp aX aY aC gp g3
      have g11 := aX.st p11_0 q11_0 rfl
      obtain rfl := aY.ld gp p12_0 q12_0
      have g13 := aY.st p13_0 q13_0 rfl
      have g14 := aN.st p14_0 q14_0 rfl
      exact ⟨g11, g13, g14, k10⟩
    · intros z1' z4' z262' z266' z269' z316' f322' f325' z331' f335' z348' f351' q0_0 q1_0 q1_1 q2_0 q3_0 q4_0 q4_1 q4_2 q5_0 q6_0 q6_1 q7_0 q8_0 q8_1 q8_2 q9_0 q10_0 q11_0 q11_1 q11_2 q12_0 q13_0 q14_0 g0 g1 g2 g3
      subst q0_0
      subst q1_0
      subst q5_0
      subst q6_0
      subst q13_0
      subst g0
      subst g1
      subst g2
      subst g3
      obtain rfl := aX.ld gp p4_0 q4_0
      exact absurd q7_0 p7_0
    · intros z1' z4' z359' z363' z366' z370' z374' f379' z383' f387' f392' f405' q0_0 q1_0 q1_1 q2_0 q3_0 q3_1 q3_2 q4_0 q5_0 q5_1 q6_0 q7_0 q7_1 q7_2 q8_0 q9_0 q10_0 q10_1 q10_2 q11_0 q12_0 q13_0 g0 g1 g2 g3
      subst q0_0
      subst q1_0
      exact absurd q2_0 p2_0
    · intros z1' z4' z359' z363' z366' z413' f419' z423' f427' f432' z445' f448' q0_0 q1_0 q1_1 q2_0 q3_0 q3_1 q3_2 q4_0 q5_0 q5_1 q6_0 q7_0 q7_1 q7_2 q8_0 q9_0 q9_1 q9_2 q10_0 q11_0 q12_0 q13_0 g0 g1 g2 g3
      subst q0_0
      subst q1_0
      exact absurd q2_0 p2_0
  · intros z1 z4 z262 z266 z269 z316 f322 f325 z331 f335 z348 f351 p0_0 p1_0 p1_1 p2_0 p3_0 p4_0 p4_1 p4_2 p5_0 p6_0 p6_1 p7_0 p8_0 p8_1 p8_2 p9_0 p10_0 p11_0 p11_1 p11_2 p12_0 p13_0 p14_0 e0 e1 e2 e3
    subst p0_0
    subst p1_0
    subst p5_0
    subst p6_0
    subst p13_0
    subst e0
    subst e1
    subst e2
    subst e3
    refine h' _ ⟨?_, ?_, ?_, ?_, ?_, ?_, ?_, ?_, trivial⟩
    · intros z1' z4' z10' z14' z17' z20' z24' z28' f33' z37' f40' z46' f50' f63' z71' z74' f78' q0_0 q1_0 q1_1 q2_0 q3_0 q4_0 q5_0 q5_1 q5_2 q6_0 q7_0 q8_0 q8_1 q9_0 q10_0 q10_1 q10_2 q11_0 q12_0 q13_0 q14_0 q15_0 q15_1 q15_2 q16_0 q17_0 q18_0 q19_0 q20_0 g0 g1 g2 g3
      subst q0_0
      subst q1_0
      exact absurd p3_0 q3_0
    · intros z1' z4' z10' z14' z17' z20' z80' f86' z90' f93' z99' f103' z116' f119' z127' z130' f134' q0_0 q1_0 q1_1 q2_0 q3_0 q4_0 q5_0 q5_1 q5_2 q6_0 q7_0 q8_0 q8_1 q9_0 q10_0 q10_1 q10_2 q11_0 q12_0 q13_0 q14_0 q14_1 q14_2 q15_0 q16_0 q17_0 q18_0 q19_0 q20_0 g0 g1 g2 g3
      subst q0_0
      subst q1_0
      exact absurd p3_0 q3_0
    · intros z1' z4' z136' z140' z143' z146' z150' z154' f159' z163' f167' z173' f176' f189' z197' z200' f204' q0_0 q1_0 q1_1 q2_0 q3_0 q4_0 q5_0 q5_1 q5_2 q6_0 q7_0 q8_0 q8_1 q9_0 q10_0 q10_1 q10_2 q11_0 q12_0 q13_0 q13_1 q13_2 q14_0 q15_0 q16_0 q17_0 q18_0 q19_0 q20_0 g0 g1 g2 g3
      subst q0_0
      subst q1_0
      exact absurd p3_0 q3_0
    · intros z1' z4' z136' z140' z143' z146' z206' f212' z216' f220' z226' f229' z242' f245' z253' z256' f260' q0_0 q1_0 q1_1 q2_0 q3_0 q4_0 q5_0 q5_1 q5_2 q6_0 q7_0 q8_0 q8_1 q9_0 q10_0 q10_1 q10_2 q11_0 q12_0 q12_1 q12_2 q13_0 q14_0 q15_0 q16_0 q17_0 q18_0 q19_0 q20_0 g0 g1 g2 g3
      subst q0_0
      subst q1_0
      exact absurd p3_0 q3_0
    · intros z1' z4' z262' z266' z269' z273' z277' f282' f285' z291' f295' f308' q0_0 q1_0 q1_1 q2_0 q3_0 q4_0 q4_1 q4_2 q5_0 q6_0 q6_1 q7_0 q8_0 q8_1 q8_2 q9_0 q10_0 q11_0 q12_0 q12_1 q12_2 q13_0 q14_0 g0 g1 g2 g3
      subst q0_0
      subst q1_0
      subst q5_0
      subst q6_0
      subst q9_0
      subst g0
      subst g1
      subst g2
      subst g3
      obtain rfl := aX.ld gp p4_0 q4_0
      exact absurd p7_0 q7_0
    · intros z1' z4' z262' z266' z269' z316' f322' f325' z331' f335' z348' f351' q0_0 q1_0 q1_1 q2_0 q3_0 q4_0 q4_1 q4_2 q5_0 q6_0 q6_1 q7_0 q8_0 q8_1 q8_2 q9_0 q10_0 q11_0 q11_1 q11_2 q12_0 q13_0 q14_0 g0 g1 g2 g3
      subst q0_0
      subst q1_0
      subst q5_0
      subst q6_0
      subst q13_0
      subst g0
      subst g1
      subst g2
      subst g3
      obtain rfl := aX.ld gp p4_0 q4_0
      obtain rfl := aN.ld gp p8_0 q8_0
      have k9 := d_goesToSide p9_0 q9_0 hf hp aX aY aC gp g3
      have g10 := aX.st p10_0 q10_0 rfl
      obtain rfl := aY.ld gp p11_0 q11_0
      have g12 := aY.st p12_0 q12_0 rfl
      have g14 := aN.st p14_0 q14_0 rfl
      exact ⟨g10, g12, g14, k9⟩
    · intros z1' z4' z359' z363' z366' z370' z374' f379' z383' f387' f392' f405' q0_0 q1_0 q1_1 q2_0 q3_0 q3_1 q3_2 q4_0 q5_0 q5_1 q6_0 q7_0 q7_1 q7_2 q8_0 q9_0 q10_0 q10_1 q10_2 q11_0 q12_0 q13_0 g0 g1 g2 g3
      subst q0_0
      subst q1_0
      exact absurd q2_0 p2_0
    · intros z1' z4' z359' z363' z366' z413' f419' z423' f427' f432' z445' f448' q0_0 q1_0 q1_1 q2_0 q3_0 q3_1 q3_2 q4_0 q5_0 q5_1 q6_0 q7_0 q7_1 q7_2 q8_0 q9_0 q9_1 q9_2 q10_0 q11_0 q12_0 q13_0 g0 g1 g2 g3
      subst q0_0
      subst q1_0
      exact absurd q2_0 p2_0
  · intros z1 z4 z359 z363 z366 z370 z374 f379 z383 f387 f392 f405 p0_0 p1_0 p1_1 p2_0 p3_0 p3_1 p3_2 p4_0 p5_0 p5_1 p6_0 p7_0 p7_1 p7_2 p8_0 p9_0 p10_0 p10_1 p10_2 p11_0 p12_0 p13_0 e0 e1 e2 e3
    subst p0_0
    subst p1_0
    subst p4_0
    subst p5_0
    subst p8_0
    subst e0
    subst e1
    subst e2
    subst e3
    refine h' _ ⟨?_, ?_, ?_, ?_, ?_, ?_, ?_, ?_, trivial⟩
    · intros z1' z4' z10' z14' z17' z20' z24' z28' f33' z37' f40' z46' f50' f63' z71' z74' f78' q0_0 q1_0 q1_1 q2_0 q3_0 q4_0 q5_0 q5_1 q5_2 q6_0 q7_0 q8_0 q8_1 q9_0 q10_0 q10_1 q10_2 q11_0 q12_0 q13_0 q14_0 q15_0 q15_1 q15_2 q16_0 q17_0 q18_0 q19_0 q20_0 g0 g1 g2 g3
      subst q0_0
      subst q1_0
      exact absurd p2_0 q2_0
    · intros z1' z4' z10' z14' z17' z20' z80' f86' z90' f93' z99' f103' z116' f119' z127' z130' f134' q0_0 q1_0 q1_1 q2_0 q3_0 q4_0 q5_0 q5_1 q5_2 q6_0 q7_0 q8_0 q8_1 q9_0 q10_0 q10_1 q10_2 q11_0 q12_0 q13_0 q14_0 q14_1 q14_2 q15_0 q16_0 q17_0 q18_0 q19_0 q20_0 g0 g1 g2 g3
      subst q0_0
      subst q1_0
      exact absurd p2_0 q2_0
    · intros z1' z4' z136' z140' z143' z146' z150' z154' f159' z163' f167' z173' f176' f189' z197' z200' f204' q0_0 q1_0 q1_1 q2_0 q3_0 q4_0 q5_0 q5_1 q5_2 q6_0 q7_0 q8_0 q8_1 q9_0 q10_0 q10_1 q10_2 q11_0 q12_0 q13_0 q13_1 q13_2 q14_0 q15_0 q16_0 q17_0 q18_0 q19_0 q20_0 g0 g1 g2 g3
      subst q0_0
      subst q1_0
      exact absurd p2_0 q2_0
    · intros z1' z4' z136' z140' z143' z146' z206' f212' z216' f220' z226' f229' z242' f245' z253' z256' f260' q0_0 q1_0 q1_1 q2_0 q3_0 q4_0 q5_0 q5_1 q5_2 q6_0 q7_0 q8_0 q8_1 q9_0 q10_0 q10_1 q10_2 q11_0 q12_0 q12_1 q12_2 q13_0 q14_0 q15_0 q16_0 q17_0 q18_0 q19_0 q20_0 g0 g1 g2 g3
      subst q0_0
      subst q1_0
      exact absurd p2_0 q2_0
    · intros z1' z4' z262' z266' z269' z273' z277' f282' f285' z291' f295' f308' q0_0 q1_0 q1_1 q2_0 q3_0 q4_0 q4_1 q4_2 q5_0 q6_0 q6_1 q7_0 q8_0 q8_1 q8_2 q9_0 q10_0 q11_0 q12_0 q12_1 q12_2 q13_0 q14_0 g0 g1 g2 g3
      subst q0_0
      subst q1_0
      exact absurd p2_0 q2_0
    · intros z1' z4' z262' z266' z269' z316' f322' f325' z331' f335' z348' f351' q0_0 q1_0 q1_1 q2_0 q3_0 q4_0 q4_1 q4_2 q5_0 q6_0 q6_1 q7_0 q8_0 q8_1 q8_2 q9_0 q10_0 q11_0 q11_1 q11_2 q12_0 q13_0 q14_0 g0 g1 g2 g3
      subst q0_0
      subst q1_0
      exact absurd p2_0 q2_0
    · intros z1' z4' z359' z363' z366' z370' z374' f379' z383' f387' f392' f405' q0_0 q1_0 q1_1 q2_0 q3_0 q3_1 q3_2 q4_0 q5_0 q5_1 q6_0 q7_0 q7_1 q7_2 q8_0 q9_0 q10_0 q10_1 q10_2 q11_0 q12_0 q13_0 g0 g1 g2 g3
      subst q0_0
      subst q1_0
      subst q4_0
      subst q5_0
      subst q8_0
      subst g0
      subst g1
      subst g2
      subst g3
      obtain rfl := aY.ld gp p3_0 q3_0
      obtain rfl := aN.ld gp p7_0 q7_0
      have k9 := d_goesToSide p9_0 q9_0 hf hp aX aY aC gp g3
      obtain rfl := aX.ld gp p10_0 q10_0
      have g11 := aX.st p11_0 q11_0 rfl
      have g12 := aY.st p12_0 q12_0 rfl
      have g13 := aN.st p13_0 q13_0 rfl
      exact ⟨g11, g12, g13, k9⟩
    · intros z1' z4' z359' z363' z366' z413' f419' z423' f427' f432' z445' f448' q0_0 q1_0 q1_1 q2_0 q3_0 q3_1 q3_2 q4_0 q5_0 q5_1 q6_0 q7_0 q7_1 q7_2 q8_0 q9_0 q9_1 q9_2 q10_0 q11_0 q12_0 q13_0 g0 g1 g2 g3
      subst q0_0
      subst q1_0
      subst q4_0
      subst q5_0
      subst q12_0
      subst g0
      subst g1
      subst g2
      subst g3
      obtain rfl := aY.ld gp p3_0 q3_0
      exact absurd q6_0 p6_0
  · intros z1 z4 z359 z363 z366 z413 f419 z423 f427 f432 z445 f448 p0_0 p1_0 p1_1 p2_0 p3_0 p3_1 p3_2 p4_0 p5_0 p5_1 p6_0 p7_0 p7_1 p7_2 p8_0 p9_0 p9_1 p9_2 p10_0 p11_0 p12_0 p13_0 e0 e1 e2 e3
    subst p0_0
    subst p1_0
    subst p4_0
    subst p5_0
    subst p12_0
    subst e0
    subst e1
    subst e2
    subst e3
    refine h' _ ⟨?_, ?_, ?_, ?_, ?_, ?_, ?_, ?_, trivial⟩
    · intros z1' z4' z10' z14' z17' z20' z24' z28' f33' z37' f40' z46' f50' f63' z71' z74' f78' q0_0 q1_0 q1_1 q2_0 q3_0 q4_0 q5_0 q5_1 q5_2 q6_0 q7_0 q8_0 q8_1 q9_0 q10_0 q10_1 q10_2 q11_0 q12_0 q13_0 q14_0 q15_0 q15_1 q15_2 q16_0 q17_0 q18_0 q19_0 q20_0 g0 g1 g2 g3
      subst q0_0
      subst q1_0
      exact absurd p2_0 q2_0
    · intros z1' z4' z10' z14' z17' z20' z80' f86' z90' f93' z99' f103' z116' f119' z127' z130' f134' q0_0 q1_0 q1_1 q2_0 q3_0 q4_0 q5_0 q5_1 q5_2 q6_0 q7_0 q8_0 q8_1 q9_0 q10_0 q10_1 q10_2 q11_0 q12_0 q13_0 q14_0 q14_1 q14_2 q15_0 q16_0 q17_0 q18_0 q19_0 q20_0 g0 g1 g2 g3
      subst q0_0
      subst q1_0
      exact absurd p2_0 q2_0
    · intros z1' z4' z136' z140' z143' z146' z150' z154' f159' z163' f167' z173' f176' f189' z197' z200' f204' q0_0 q1_0 q1_1 q2_0 q3_0 q4_0 q5_0 q5_1 q5_2 q6_0 q7_0 q8_0 q8_1 q9_0 q10_0 q10_1 q10_2 q11_0 q12_0 q13_0 q13_1 q13_2 q14_0 q15_0 q16_0 q17_0 q18_0 q19_0 q20_0 g0 g1 g2 g3
      subst q0_0
      subst q1_0
      exact absurd p2_0 q2_0
    · intros z1' z4' z136' z140' z143' z146' z206' f212' z216' f220' z226' f229' z242' f245' z253' z256' f260' q0_0 q1_0 q1_1 q2_0 q3_0 q4_0 q5_0 q5_1 q5_2 q6_0 q7_0 q8_0 q8_1 q9_0 q10_0 q10_1 q10_2 q11_0 q12_0 q12_1 q12_2 q13_0 q14_0 q15_0 q16_0 q17_0 q18_0 q19_0 q20_0 g0 g1 g2 g3
      subst q0_0
      subst q1_0
      exact absurd p2_0 q2_0
    · intros z1' z4' z262' z266' z269' z273' z277' f282' f285' z291' f295' f308' q0_0 q1_0 q1_1 q2_0 q3_0 q4_0 q4_1 q4_2 q5_0 q6_0 q6_1 q7_0 q8_0 q8_1 q8_2 q9_0 q10_0 q11_0 q12_0 q12_1 q12_2 q13_0 q14_0 g0 g1 g2 g3
      subst q0_0
      subst q1_0
      exact absurd p2_0 q2_0
    · intros z1' z4' z262' z266' z269' z316' f322' f325' z331' f335' z348' f351' q0_0 q1_0 q1_1 q2_0 q3_0 q4_0 q4_1 q4_2 q5_0 q6_0 q6_1 q7_0 q8_0 q8_1 q8_2 q9_0 q10_0 q11_0 q11_1 q11_2 q12_0 q13_0 q14_0 g0 g1 g2 g3
      subst q0_0
      subst q1_0
      exact absurd p2_0 q2_0
    · intros z1' z4' z359' z363' z366' z370' z374' f379' z383' f387' f392' f405' q0_0 q1_0 q1_1 q2_0 q3_0 q3_1 q3_2 q4_0 q5_0 q5_1 q6_0 q7_0 q7_1 q7_2 q8_0 q9_0 q10_0 q10_1 q10_2 q11_0 q12_0 q13_0 g0 g1 g2 g3
      subst q0_0
      subst q1_0
      subst q4_0
      subst q5_0
      subst q8_0
      subst g0
      subst g1
      subst g2
      subst g3
      obtain rfl := aY.ld gp p3_0 q3_0
      exact absurd p6_0 q6_0
    · intros z1' z4' z359' z363' z366' z413' f419' z423' f427' f432' z445' f448' q0_0 q1_0 q1_1 q2_0 q3_0 q3_1 q3_2 q4_0 q5_0 q5_1 q6_0 q7_0 q7_1 q7_2 q8_0 q9_0 q9_1 q9_2 q10_0 q11_0 q12_0 q13_0 g0 g1 g2 g3
      subst q0_0
      subst q1_0
      subst q4_0
      subst q5_0
      subst q12_0
      subst g0
      subst g1
      subst g2
      subst g3
      obtain rfl := aY.ld gp p3_0 q3_0
      obtain rfl := aN.ld gp p7_0 q7_0
      have k8 := d_goesToSide p8_0 q8_0 hf hp aX aY aC gp g3
      obtain rfl := aX.ld gp p9_0 q9_0
      have g10 := aX.st p10_0 q10_0 rfl
      have g11 := aY.st p11_0 q11_0 rfl
      have g13 := aN.st p13_0 q13_0 rfl
      exact ⟨g10, g11, g13, k8⟩
