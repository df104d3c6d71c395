theorem gU_eq {f g : Nat → Int32} {z v : Int32} {J : Int} (e : g = upd f z.toNatClampNeg v) (hz : z.toInt = J) : gG g J = v.toInt := by
  unfold gG
  rw [e, show J.toNat = z.toNatClampNeg by rw [← hz]; rfl, pk_us]
theorem gU_ne {f g : Nat → Int32} {z v : Int32} {J Z : Int} (e : g = upd f z.toNatClampNeg v) (hz : z.toInt = Z) (h : 0 ≤ J ∧ 0 ≤ Z ∧ ¬ J = Z) : gG g J = gG f J := by
  unfold gG
  rw [e, pk_un]
  show ¬ J.toNat = z.toInt.toNat
  rw [hz]; omega
/-- the flanges that were told ahead of the cnt-th: rows of the class beside the reference's row -/
def DCF (par sid frm wid hei rad rd : Nat → Int32) (cnt : Int) : Prop := ∀ g : Int, 1 ≤ g → g < cnt → gG par g = gG rd (13 + g) ∧ gG sid g = gG rd (22 + g) ∧ gG frm g = gG rd (31 + g) ∧ gG wid g = gG rd (40 + g) ∧ gG hei g = gG rd (49 + g) ∧ gG rad g = gG rd (58 + g) ∧ 0 ≤ gG par g ∧ gG par g < g ∧ 0 ≤ gG sid g ∧ gG sid g ≤ 3 ∧ 0 ≤ gG frm g ∧ gG frm g ≤ 59 ∧ 1 ≤ gG wid g ∧ gG wid g ≤ 60 ∧ 1 ≤ gG hei g ∧ gG hei g ≤ 60 ∧ 1 ≤ gG rad g ∧ gG rad g ≤ 9
def DC0 (sid wid hei rd : Nat → Int32) : Prop := gG sid 0 = 0 ∧ gG wid 0 = gG rd 1 ∧ gG hei 0 = gG rd 2
theorem WD.of {par sid frm wid hei rad rd par2 sid2 frm2 wid2 rd1 rd2 rd3 rd4 : Nat → Int32} {c a b e w a' b' e' z1 z2 z3 : Int32} {n : Int} (hn : c.toInt = n) (D : DCF par sid frm wid hei rad rd n) (D0 : DC0 sid wid hei rd) (h1 : 1 ≤ n) (h8 : n ≤ 8) (u1 : par2 = upd par c.toNatClampNeg a) (u2 : sid2 = upd sid c.toNatClampNeg b) (u3 : frm2 = upd frm c.toNatClampNeg e) (u4 : wid2 = upd wid c.toNatClampNeg w) (k : ∀ j : Int, 0 ≤ j → j < 67 → gG rd1 j = gG rd j) (v1 : rd2 = upd rd1 z1.toNatClampNeg a') (v2 : rd3 = upd rd2 z2.toNatClampNeg b') (v3 : rd4 = upd rd3 z3.toNatClampNeg e') (hz1 : z1.toInt = 13 + n) (hz2 : z2.toInt = 22 + n) (hz3 : z3.toInt = 31 + n) (ea : a.toInt = a'.toInt) (eb : b.toInt = b'.toInt) (ee : e.toInt = e'.toInt) (ba : 0 ≤ a.toInt ∧ (a.toInt = 0 ∨ a.toInt < n)) (bb : 0 ≤ b.toInt ∧ b.toInt ≤ 3) (be : 0 ≤ e.toInt ∧ e.toInt ≤ 59) : WD par2 sid2 frm2 wid2 hei rd4 n a'.toInt b'.toInt := by
  have R : ∀ j : Int, 0 ≤ j → j < 67 → ¬ j = 13 + n → ¬ j = 22 + n → ¬ j = 31 + n → gG rd4 j = gG rd j := fun j j0 j1 j2 j3 j4 => by
    rw [gU_ne v3 hz3 ⟨j0, by omega, j4⟩, gU_ne v2 hz2 ⟨j0, by omega, j3⟩, gU_ne v1 hz1 ⟨j0, by omega, j2⟩, k j j0 j1]
  have e1 := gU_eq v3 hz3
  obtain ⟨d0, d1, d2⟩ := D0
  refine ⟨h1, by omega, by omega, by omega, by omega, by rw [gU_eq u1 hn, ea], by rw [gU_eq u2 hn, eb], by rw [gU_eq u3 hn, e1, ee], by rw [gU_eq u3 hn]; exact be.1, by rw [gU_eq u3 hn]; exact be.2, fun g g1 g2 => ?_, ?_, ?_, ?_⟩
  · obtain ⟨p1, p2, p3, p4, p5, p6, p7, p8, p9, pa, pb, pc, pd, pe, _⟩ := D g g1 g2
    rw [gU_ne u1 hn ⟨by omega, by omega, by omega⟩, gU_ne u2 hn ⟨by omega, by omega, by omega⟩, gU_ne u3 hn ⟨by omega, by omega, by omega⟩, gU_ne u4 hn ⟨by omega, by omega, by omega⟩, R (13 + g) (by omega) (by omega) (by omega) (by omega) (by omega), R (22 + g) (by omega) (by omega) (by omega) (by omega) (by omega), R (31 + g) (by omega) (by omega) (by omega) (by omega) (by omega), R (40 + g) (by omega) (by omega) (by omega) (by omega) (by omega), R (49 + g) (by omega) (by omega) (by omega) (by omega) (by omega)]
    exact ⟨p1, p2, p3, p4, p5, pb, pc, pd, pe⟩
  · rw [gU_ne u2 hn ⟨by omega, by omega, by omega⟩]; exact d0
  · rw [gU_ne u4 hn ⟨by omega, by omega, by omega⟩, R 1 (by omega) (by omega) (by omega) (by omega) (by omega)]; exact d1
  · rw [R 2 (by omega) (by omega) (by omega) (by omega) (by omega)]; exact d2
/-- what the reference's row holds behind a flange -/
theorem row_of {rd rd1 rd2 rd3 rd4 rd5 rd6 rd7 rd8 : Nat → Int32} {a b e w h r m z1 z2 z3 z4 z5 z6 z7 : Int32} {n : Int} (h1 : 1 ≤ n) (h8 : n ≤ 8) (k : ∀ j : Int, 0 ≤ j → j < 67 → gG rd1 j = gG rd j) (v1 : rd2 = upd rd1 z1.toNatClampNeg a) (v2 : rd3 = upd rd2 z2.toNatClampNeg b) (v3 : rd4 = upd rd3 z3.toNatClampNeg e) (v4 : rd5 = upd rd4 z4.toNatClampNeg w) (v5 : rd6 = upd rd5 z5.toNatClampNeg h) (v6 : rd7 = upd rd6 z6.toNatClampNeg r) (v7 : rd8 = upd rd7 z7.toNatClampNeg m) (hz1 : z1.toInt = 13 + n) (hz2 : z2.toInt = 22 + n) (hz3 : z3.toInt = 31 + n) (hz4 : z4.toInt = 40 + n) (hz5 : z5.toInt = 49 + n) (hz6 : z6.toInt = 58 + n) (hz7 : z7.toInt = 3) : (∀ j : Int, 0 ≤ j → ¬ j = 13 + n → ¬ j = 22 + n → ¬ j = 31 + n → ¬ j = 40 + n → ¬ j = 49 + n → ¬ j = 58 + n → ¬ j = 3 → gG rd8 j = gG rd1 j) ∧ gG rd8 (13 + n) = a.toInt ∧ gG rd8 (22 + n) = b.toInt ∧ gG rd8 (31 + n) = e.toInt ∧ gG rd8 (40 + n) = w.toInt ∧ gG rd8 (49 + n) = h.toInt ∧ gG rd8 (58 + n) = r.toInt ∧ gG rd8 3 = m.toInt := by
  refine ⟨fun j j0 j1 j2 j3 j4 j5 j6 j7 => ?_, ?_, ?_, ?_, ?_, ?_, ?_, gU_eq v7 hz7⟩
  · rw [gU_ne v7 hz7 ⟨j0, by omega, j7⟩, gU_ne v6 hz6 ⟨j0, by omega, j6⟩, gU_ne v5 hz5 ⟨j0, by omega, j5⟩, gU_ne v4 hz4 ⟨j0, by omega, j4⟩, gU_ne v3 hz3 ⟨j0, by omega, j3⟩, gU_ne v2 hz2 ⟨j0, by omega, j2⟩, gU_ne v1 hz1 ⟨j0, by omega, j1⟩]
  · rw [gU_ne v7 hz7 ⟨by omega, by omega, by omega⟩, gU_ne v6 hz6 ⟨by omega, by omega, by omega⟩, gU_ne v5 hz5 ⟨by omega, by omega, by omega⟩, gU_ne v4 hz4 ⟨by omega, by omega, by omega⟩, gU_ne v3 hz3 ⟨by omega, by omega, by omega⟩, gU_ne v2 hz2 ⟨by omega, by omega, by omega⟩, gU_eq v1 hz1]
  · rw [gU_ne v7 hz7 ⟨by omega, by omega, by omega⟩, gU_ne v6 hz6 ⟨by omega, by omega, by omega⟩, gU_ne v5 hz5 ⟨by omega, by omega, by omega⟩, gU_ne v4 hz4 ⟨by omega, by omega, by omega⟩, gU_ne v3 hz3 ⟨by omega, by omega, by omega⟩, gU_eq v2 hz2]
  · rw [gU_ne v7 hz7 ⟨by omega, by omega, by omega⟩, gU_ne v6 hz6 ⟨by omega, by omega, by omega⟩, gU_ne v5 hz5 ⟨by omega, by omega, by omega⟩, gU_ne v4 hz4 ⟨by omega, by omega, by omega⟩, gU_eq v3 hz3]
  · rw [gU_ne v7 hz7 ⟨by omega, by omega, by omega⟩, gU_ne v6 hz6 ⟨by omega, by omega, by omega⟩, gU_ne v5 hz5 ⟨by omega, by omega, by omega⟩, gU_eq v4 hz4]
  · rw [gU_ne v7 hz7 ⟨by omega, by omega, by omega⟩, gU_ne v6 hz6 ⟨by omega, by omega, by omega⟩, gU_eq v5 hz5]
  · rw [gU_ne v7 hz7 ⟨by omega, by omega, by omega⟩, gU_eq v6 hz6]
theorem DCF.of {par sid frm wid hei rad rd par2 sid2 frm2 wid2 hei2 rad2 rd1 rd8 : Nat → Int32} {c a b e w h r : Int32} {n n2 : Int} {xa xb xe xw xh xr xm : Int} (hn : c.toInt = n) (D : DCF par sid frm wid hei rad rd n) (h1 : 1 ≤ n) (h8 : n ≤ 8) (hn2 : n2 = n + 1) (u1 : par2 = upd par c.toNatClampNeg a) (u2 : sid2 = upd sid c.toNatClampNeg b) (u3 : frm2 = upd frm c.toNatClampNeg e) (u4 : wid2 = upd wid c.toNatClampNeg w) (u5 : hei2 = upd hei c.toNatClampNeg h) (u6 : rad2 = upd rad c.toNatClampNeg r) (k : ∀ j : Int, 0 ≤ j → j < 67 → gG rd1 j = gG rd j) (R : (∀ j : Int, 0 ≤ j → ¬ j = 13 + n → ¬ j = 22 + n → ¬ j = 31 + n → ¬ j = 40 + n → ¬ j = 49 + n → ¬ j = 58 + n → ¬ j = 3 → gG rd8 j = gG rd1 j) ∧ gG rd8 (13 + n) = xa ∧ gG rd8 (22 + n) = xb ∧ gG rd8 (31 + n) = xe ∧ gG rd8 (40 + n) = xw ∧ gG rd8 (49 + n) = xh ∧ gG rd8 (58 + n) = xr ∧ gG rd8 3 = xm) (ea : a.toInt = xa) (eb : b.toInt = xb) (ee : e.toInt = xe) (ew : w.toInt = xw) (eh : h.toInt = xh) (er : r.toInt = xr) (ba : 0 ≤ a.toInt ∧ (a.toInt = 0 ∨ a.toInt < n)) (bb : 0 ≤ b.toInt ∧ b.toInt ≤ 3) (be : 0 ≤ e.toInt ∧ e.toInt ≤ 59) (bw : 1 ≤ w.toInt ∧ w.toInt ≤ 60) (bh : 1 ≤ h.toInt ∧ h.toInt ≤ 60) (br : 1 ≤ r.toInt ∧ r.toInt ≤ 9) : DCF par2 sid2 frm2 wid2 hei2 rad2 rd8 n2 := by
  obtain ⟨R0, R1, R2, R3, R4, R5, R6, _⟩ := R
  intro g g1 g2
  by_cases q : g = n
  · subst q
    rw [gU_eq u1 hn, gU_eq u2 hn, gU_eq u3 hn, gU_eq u4 hn, gU_eq u5 hn, gU_eq u6 hn, R1, R2, R3, R4, R5, R6]
    exact ⟨ea, eb, ee, ew, eh, er, ba.1, by omega, bb.1, bb.2, be.1, be.2, bw.1, bw.2, bh.1, bh.2, br.1, br.2⟩
  · have d := D g g1 (by omega)
    have S : ∀ j : Int, 13 ≤ j → j < 67 → ¬ j = 13 + n → ¬ j = 22 + n → ¬ j = 31 + n → ¬ j = 40 + n → ¬ j = 49 + n → ¬ j = 58 + n → gG rd8 j = gG rd j := fun j j0 j9 j1 j2 j3 j4 j5 j6 => (R0 j (by omega) j1 j2 j3 j4 j5 j6 (by omega)).trans (k j (by omega) j9)
    rw [gU_ne u1 hn ⟨by omega, by omega, q⟩, gU_ne u2 hn ⟨by omega, by omega, q⟩, gU_ne u3 hn ⟨by omega, by omega, q⟩, gU_ne u4 hn ⟨by omega, by omega, q⟩, gU_ne u5 hn ⟨by omega, by omega, q⟩, gU_ne u6 hn ⟨by omega, by omega, q⟩, S (13 + g) (by omega) (by omega) (by omega) (by omega) (by omega) (by omega) (by omega) (by omega), S (22 + g) (by omega) (by omega) (by omega) (by omega) (by omega) (by omega) (by omega) (by omega), S (31 + g) (by omega) (by omega) (by omega) (by omega) (by omega) (by omega) (by omega) (by omega), S (40 + g) (by omega) (by omega) (by omega) (by omega) (by omega) (by omega) (by omega) (by omega), S (49 + g) (by omega) (by omega) (by omega) (by omega) (by omega) (by omega) (by omega) (by omega), S (58 + g) (by omega) (by omega) (by omega) (by omega) (by omega) (by omega) (by omega) (by omega)]
    exact d
theorem NMC.of {nm nm2 rd rd1 rd8 : Nat → Int32} {c x : Int32} {B : Int → Int} {t a n n2 : Int} (hn : c.toInt = n) (N : NMC nm rd n) (h1 : 1 ≤ n) (h8 : n ≤ 8) (hn2 : n2 = n + 1) (u : nm2 = upd nm c.toNatClampNeg x) (w : isWd B t a) (ex : x.toInt = PKN B t a) (k : ∀ j : Int, 67 ≤ j → j < 67 + 4 * n → gG rd1 j = gG rd j) (kn : ∀ i : Int, 0 ≤ i → i < 4 → gG rd1 (67 + 4 * n + i) = sgn B t a i) (R : ∀ j : Int, 67 ≤ j → gG rd8 j = gG rd1 j) : NMC nm2 rd8 n2 := by
  intro g g1 g2
  by_cases q : g = n
  · subst q
    have s0 := sgn_b w (j := 0) (by decide)
    have s1 := sgn_b w (j := 1) (by decide)
    have s2 := sgn_b w (j := 2) (by decide)
    have s3 := sgn_b w (j := 3) (by decide)
    have k0 := kn 0 (by decide) (by decide)
    rw [Int.add_zero] at k0
    rw [gU_eq u hn, R (67 + 4 * g) (by omega), R (67 + 4 * g + 1) (by omega), R (67 + 4 * g + 2) (by omega), R (67 + 4 * g + 3) (by omega), k0, kn 1 (by decide) (by decide), kn 2 (by decide) (by decide), kn 3 (by decide) (by decide), ex]
    exact ⟨⟨s0.1, s0.2, s1.1, s1.2, s2.1, s2.2, s3.1, s3.2⟩, rfl⟩
  · have d := N g g1 (by omega)
    rw [gU_ne u hn ⟨by omega, by omega, q⟩, R (67 + 4 * g) (by omega), R (67 + 4 * g + 1) (by omega), R (67 + 4 * g + 2) (by omega), R (67 + 4 * g + 3) (by omega), k (67 + 4 * g) (by omega) (by omega), k (67 + 4 * g + 1) (by omega) (by omega), k (67 + 4 * g + 2) (by omega) (by omega), k (67 + 4 * g + 3) (by omega) (by omega)]
    exact d
theorem NMC.keep {nm nm2 rd rd1 : Nat → Int32} {c x : Int32} {n : Int} (hn : c.toInt = n) (N : NMC nm rd n) (h1 : 1 ≤ n) (u : nm2 = upd nm c.toNatClampNeg x) (k : ∀ j : Int, 67 ≤ j → j < 67 + 4 * n → gG rd1 j = gG rd j) : NMC nm2 rd1 n := by
  intro g g1 g2
  have d := N g g1 g2
  rw [gU_ne u hn ⟨by omega, by omega, by omega⟩, k (67 + 4 * g) (by omega) (by omega), k (67 + 4 * g + 1) (by omega) (by omega), k (67 + 4 * g + 2) (by omega) (by omega), k (67 + 4 * g + 3) (by omega) (by omega)]
  exact d
theorem fl_8 {a : Int} (h : a < 9) : a ≤ 8 := by omega
theorem fl_9 {a b : Int} (e : a = b) (h : a < 9) : ¬ b = 9 := by omega
theorem fl_s {z r c c' : Int} (ez : z = r) (rl : r = 0 ∨ r < c) (hc : c = c') (h : 0 < z) : 0 ≤ 22 + z ∧ 22 + z < 67 + 4 * c' ∧ 1 ≤ z ∧ z < c := by omega
theorem fl_67 {j c c' : Int} (hc : c = c') (h1 : 1 ≤ c) (h : j < 67) : j < 67 + 4 * c' := by omega
theorem fl_n {j n : Int} (h8 : n ≤ 8) (h1 : 1 ≤ n) (h : 67 ≤ j) : 0 ≤ j ∧ ¬ j = 13 + n ∧ ¬ j = 22 + n ∧ ¬ j = 31 + n ∧ ¬ j = 40 + n ∧ ¬ j = 49 + n ∧ ¬ j = 58 + n ∧ ¬ j = 3 := by omega
theorem fl_13 {j n : Int} (h1 : 1 ≤ n) (h : j < 13) : ¬ j = 13 + n ∧ ¬ j = 22 + n ∧ ¬ j = 31 + n ∧ ¬ j = 40 + n ∧ ¬ j = 49 + n ∧ ¬ j = 58 + n ∧ j < 67 := by omega
theorem fl_0 {n : Int} (h1 : 1 ≤ n) : (0 : Int) ≤ 0 ∧ 0 ≤ n ∧ ¬ (0 : Int) = n := by omega
theorem fl_l {j c c' : Int} (hc : c = c') (h : j < 67 + 4 * c) : j < 67 + 4 * c' := by omega
theorem fl_e {a b : Int} (e : a = b) (h : a ≤ 9) (n : ¬ a < 9) : b = 9 := by omega
theorem fl_4 {i l : Int} (h4 : 4 ≤ l) (h : i < 4) : i < l := by omega
theorem fl_c {a b c d : Int} (e1 : a = b + 1) (e2 : c = d + 1) (e : d = b) : a = c := by omega
theorem fl_g {j : Int} (h : 67 ≤ j) : 0 ≤ j := by omega
theorem fl_w {j n : Int} (h1 : 1 ≤ n) (h : 0 ≤ j) (h2 : ¬ j = 2 + n) : 0 ≤ j ∧ 0 ≤ 2 + n ∧ ¬ j = 2 + n := by omega
theorem i_let {f_h0_read : (Nat → Int32)} {f_h0_tape : (Nat → Int32)} {h0_read_3 : Int32} {v19 : Int32} {v20 : Int32} {v637 : Int32} {fn638 : (Nat → Int32)} (h : I_M_readsFlange_65_3 f_h0_read f_h0_tape h0_read_3 v19 v20 v637 fn638) {B : Int → Int} {sz_ : Int32} (c : rTB f_h0_tape sz_ B) (hf : 0 ≤ v20.toInt ∧ v19.toInt ≤ sz_.toInt) (hc : 1 ≤ h0_read_3.toInt) : 0 ≤ v637.toInt ∧ (∀ j : Int, 0 ≤ j → (j < 67 + 4 * h0_read_3.toInt ∨ 67 + 4 * h0_read_3.toInt + v637.toInt ≤ j) → gG fn638 j = gG f_h0_read j) ∧ (∀ i : Int, 0 ≤ i → i < v637.toInt → gG fn638 (67 + 4 * h0_read_3.toInt + i) = sgn B v20.toInt v19.toInt i) := by
  refine I_M_readsFlange_65_3.ind (Q_ := fun v637 fn638 => 0 ≤ v637.toInt ∧ (∀ j : Int, 0 ≤ j → (j < 67 + 4 * h0_read_3.toInt ∨ 67 + 4 * h0_read_3.toInt + v637.toInt ≤ j) → gG fn638 j = gG f_h0_read j) ∧ (∀ i : Int, 0 ≤ i → i < v637.toInt → gG fn638 (67 + 4 * h0_read_3.toInt + i) = sgn B v20.toInt v19.toInt i)) ?_ ?_ h
  · have e0_ : (0 : Int32).toInt = 0 := by decide
    exact ⟨by omega, fun j _ _ => rfl, fun i h0 h1 => absurd h1 (by omega)⟩
  · intro v637 fn638 z1627 z1630 z1633 r1636 f1639 z1644 hp ih p0 p1 p2 p3 p4 p5 p6 p7
    obtain ⟨i0, i1, i2⟩ := ih
    have hz : z1633.toInt = 67 + 4 * h0_read_3.toInt + v637.toInt := by omega
    have sg := m_signAt p5 c ⟨by omega, hf.2⟩
    refine ⟨by omega, fun j j0 j1 => ?_, fun i j0 j1 => ?_⟩
    · rw [gU_ne p6 hz ⟨j0, by omega, by omega⟩]; exact i1 j j0 (by omega)
    · by_cases q : i = v637.toInt
      · rw [q, gU_eq p6 hz]; exact sg
      · rw [gU_ne p6 hz ⟨by omega, by omega, by omega⟩]; exact i2 i j0 (by omega)
theorem j20_ {h0_from : Int32} {h0_read_3 : Int32} {h0_wrong : Int32} {h0_wrongAt : Int32} {v9 : Int32} {v10 : Int32} (h : J_M_readsFlange_20_1 h0_from h0_read_3 h0_wrong h0_wrongAt v9 v10)  : ((h0_read_3.toInt = 9 ∧ ((¬ h0_wrong.toInt = 0 ∧ v9.toInt = h0_wrong.toInt ∧ v10.toInt = h0_wrongAt.toInt) ∨ (h0_wrong.toInt = 0 ∧ v9.toInt = 5 ∧ v10.toInt = h0_from.toInt))) ∨ (¬ h0_read_3.toInt = 9 ∧ v9.toInt = h0_wrong.toInt ∧ v10.toInt = h0_wrongAt.toInt)) := by
  rcases h with ⟨p0, e0, e1⟩ | ⟨v1663, v1664, p0, p1, p2, p3, e0, e1⟩ | h
  · have e5_ : (5 : Int32).toInt = 5 := by decide
    omega
  · have i5_ : (5 : Int32).toInt = 5 := by decide
    have k3 := m_faults p3
    have e5_ : (5 : Int32).toInt = 5 := by decide
    omega
  · exact h.elim
