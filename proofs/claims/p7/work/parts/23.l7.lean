/-! FEWEST: the least changes from a state on, behind a bend -/
def cst (so : Nat → Int32) (l b : Int32) : Int32 := if l = 0 then 0 else if so l.toNatClampNeg = so b.toNatClampNeg then 0 else 1
def pCo (r : Int32) (so : Nat → Int32) (l b : Int32) : Prop := r = cst so l b
theorem pCo.z {so : Nat → Int32} {l b : Int32} (h : l = 0) : pCo 0 so l b := by unfold pCo cst; rw [if_pos h]
theorem pCo.eq {so : Nat → Int32} {l b x y : Int32} (h : ¬ l = 0) (e1 : x = so l.toNatClampNeg) (e2 : y = so b.toNatClampNeg) (c : x = y) : pCo 0 so l b := by unfold pCo cst; rw [if_neg h, ← e1, ← e2, if_pos c]
theorem pCo.ne {so : Nat → Int32} {l b x y : Int32} (h : ¬ l = 0) (e1 : x = so l.toNatClampNeg) (e2 : y = so b.toNatClampNeg) (c : ¬ x = y) : pCo 1 so l b := by unfold pCo cst; rw [if_neg h, ← e1, ← e2, if_neg c]
theorem cst01 {so : Nat → Int32} {l b : Int32} : 0 ≤ (cst so l b).toInt ∧ (cst so l b).toInt ≤ 1 := by
  unfold cst
  by_cases h : l = 0
  · rw [if_pos h]; decide
  · rw [if_neg h]
    by_cases q : so l.toNatClampNeg = so b.toNatClampNeg
    · rw [if_pos q]; decide
    · rw [if_neg q]; decide
def fA (fb : Nat → Int32) (s l : Int32) : Int := (fb (9 * s.toNatClampNeg + l.toNatClampNeg)).toInt
theorem fIx {i s l : Int32} {S L : Int} (hi : i.toInt = 9 * S + L) (hs : s.toInt = S) (hl : l.toInt = L) (h0 : 0 ≤ S ∧ 0 ≤ L) : i.toNatClampNeg = 9 * s.toNatClampNeg + l.toNatClampNeg := by
  have h1 := zcn (j := i) rfl (by omega)
  have h2 := zcn hs h0.1
  have h3 := zcn hl h0.2
  omega
theorem fA.ld {fb : Nat → Int32} {z i s l : Int32} {S L : Int} (e : z = fb i.toNatClampNeg) (hi : i.toInt = 9 * S + L) (hs : s.toInt = S) (hl : l.toInt = L) (h0 : 0 ≤ S ∧ 0 ≤ L) : fA fb s l = z.toInt := by
  unfold fA; rw [e, fIx hi hs hl h0]
theorem fA.st {fb f2 : Nat → Int32} {x i s l : Int32} {S L : Int} (e : f2 = upd fb i.toNatClampNeg x) (hi : i.toInt = 9 * S + L) (hs : s.toInt = S) (hl : l.toInt = L) (h0 : 0 ≤ S ∧ 0 ≤ L) : fA f2 s l = x.toInt := by
  unfold fA; rw [e, fIx hi hs hl h0, pk_us]
theorem fA.un {fb f2 : Nat → Int32} {x i t k : Int32} (e : f2 = upd fb i.toNatClampNeg x) (h0 : 0 ≤ i.toInt) (ht : 0 ≤ t.toInt) (hk : 0 ≤ k.toInt) (hne : ¬ 9 * t.toInt + k.toInt = i.toInt) : fA f2 t k = fA fb t k := by
  have h1 := zcn (j := i) rfl h0
  have h2 := zcn (j := t) rfl ht
  have h3 := zcn (j := k) rfl hk
  unfold fA; rw [e, pk_un (by omega)]
def pFx (m s l : Int32) (cl so fb : Nat → Int32) : Prop := ∃ j : Nat, (j : Int) + 1 < m.toInt ∧ bt (cl s.toNatClampNeg) (nI j) ∧ (cst so l (nI (j + 1))).toInt + fA fb (sx s j) (nI (j + 1)) = fA fb s l
def pFk (n m : Int32) (cl so fb : Nat → Int32) : Prop := ∀ s : Int32, n.toInt < s.toInt → 0 ≤ s.toInt → aB m.toInt (s.toInt + 1) → ∀ l : Int32, 0 ≤ l.toInt → l.toInt < m.toInt → fA fb s l < 1000000 → pFx m s l cl so fb
def pFl (s n m : Int32) (cl so fb : Nat → Int32) : Prop := aB m.toInt (s.toInt + 1) → ∀ l : Int32, 0 ≤ l.toInt → l.toInt < n.toInt → fA fb s l < 1000000 → pFx m s l cl so fb
def pFm (s l b v m : Int32) (cl so fb : Nat → Int32) : Prop := v.toInt < 1000000 → pE s m ∨ ∃ j : Nat, (j : Int) + 1 < b.toInt ∧ bt (cl s.toNatClampNeg) (nI j) ∧ (cst so l (nI (j + 1))).toInt + fA fb (sx s j) (nI (j + 1)) = v.toInt
def pFy (m : Int32) (cl so fb : Nat → Int32) : Prop := ∀ s : Int32, 0 ≤ s.toInt → aB m.toInt (s.toInt + 1) → ∀ l : Int32, 0 ≤ l.toInt → l.toInt < m.toInt → fA fb s l < 1000000 → pFx m s l cl so fb
theorem pFy.of {n m : Int32} {cl so fb : Nat → Int32} (h : pFk n m cl so fb) (hn : n.toInt < 0) : pFy m cl so fb := fun s a b c d e f => h s (by omega) a b c d e f
theorem pFk.all {n m : Int32} {cl so fb : Nat → Int32} {N : Int} (hn : n.toInt = N) (h : aE m.toInt N) : pFk n m cl so fb := by
  intro s a b c
  have := (aE.le (Y := s.toInt + 1) h).mp c
  omega
theorem pFl.zero {s n m : Int32} {cl so fb : Nat → Int32} (h : n.toInt ≤ 0) : pFl s n m cl so fb := fun _ l a b => by omega
theorem pFk.up {s m x i : Int32} {cl so fb f2 : Nat → Int32} {S L : Int} (h : pFk s m cl so fb) (e : f2 = upd fb i.toNatClampNeg x) (hi : i.toInt = 9 * S + L) (hs : s.toInt = S) (hb : 0 ≤ S ∧ 0 ≤ L ∧ L ≤ 8) (hc : pCa m cl) : pFk s m cl so f2 := by
  intro t a b c l l0 l1 d
  have hA : pA t m := aB.le c (by omega)
  have hm := aBm c
  rw [fA.un e (by omega) b l0 (by omega)] at d
  obtain ⟨j, p, q, r⟩ := h t a b c l l0 l1 d
  refine ⟨j, p, q, ?_⟩
  have u := sx_up hc b hA p q
  have ej := z_nj (j := j + 1) (by omega)
  rw [fA.un e (by omega) u.2 (by omega) (by omega), fA.un e (by omega) b l0 (by omega)]; exact r
theorem pFl.up {s l l2 b v m i : Int32} {cl so fb f2 : Nat → Int32} {S L : Int} (h : pFl s l m cl so fb) (hm : pFm s l b v m cl so fb) (e : f2 = upd fb i.toNatClampNeg v) (hi : i.toInt = 9 * S + L) (hs : s.toInt = S) (hl : l.toInt = L) (hl2 : l2.toInt = L + 1) (hb : 0 ≤ S ∧ 0 ≤ L ∧ L ≤ 8) (hbm : b.toInt ≤ m.toInt) (hc : pCa m cl) : pFl s l2 m cl so f2 := by
  intro c k k0 k1 d
  have hA : pA s m := aB.le c (by omega)
  have hm9 := aBm c
  by_cases q : k = l
  · subst q
    rw [fA.st e hi hs hl ⟨hb.1, hb.2.1⟩] at d
    rcases hm d with g | ⟨j, g1, g2, g3⟩
    · exact absurd ((aE.le g).mp c) (by omega)
    · refine ⟨j, by omega, g2, ?_⟩
      have u := sx_up hc (by omega) hA (by omega) g2
      have ej := z_nj (j := j + 1) (by omega)
      rw [fA.un e (by omega) u.2 (by omega) (by omega), fA.st e hi hs hl ⟨hb.1, hb.2.1⟩]; exact g3
  · have hk : ¬ k.toInt = l.toInt := fun z => q (Int32.toInt_inj.mp z)
    rw [fA.un e (by omega) (by omega) k0 (by omega)] at d
    obtain ⟨j, p, q, r⟩ := h c k k0 (by omega) d
    refine ⟨j, p, q, ?_⟩
    have u := sx_up hc (by omega) hA p q
    have ej := z_nj (j := j + 1) (by omega)
    rw [fA.un e (by omega) u.2 (by omega) (by omega), fA.un e (by omega) (by omega) k0 (by omega)]; exact r
theorem pFk.next {s s2 l m : Int32} {cl so fb : Nat → Int32} {S S2 : Int} (h : pFk s m cl so fb) (hl : pFl s l m cl so fb) (hs : s.toInt = S) (hs2 : s2.toInt = S2) (hS : S2 = S - 1) (hm : m.toInt ≤ l.toInt) : pFk s2 m cl so fb := by
  intro t a b c k k0 k1 d
  by_cases q : t = s
  · subst q; exact hl c k k0 (by omega) d
  · have : ¬ t.toInt = s.toInt := fun z => q (Int32.toInt_inj.mp z)
    exact h t (by omega) b c k k0 k1 d
theorem pFm.start {s l b v m al : Int32} {cl so fb : Nat → Int32} {S AL V : Int} (hE : pE al m) (hs : s.toInt = S) (hal : al.toInt = AL) (hv : v.toInt = V) (h : 1000000 ≤ V ∨ S = AL) : pFm s l b v m cl so fb := by
  intro q
  rcases h with c | c
  · omega
  · left; unfold pE at *; rw [hs, c, ← hal]; exact hE
theorem pFm.keep {s l b b2 v m : Int32} {cl so fb : Nat → Int32} {B B2 : Int} (h : pFm s l b v m cl so fb) (hb : b.toInt = B) (hb2 : b2.toInt = B2) (hB : B ≤ B2) : pFm s l b2 v m cl so fb := by
  intro q
  rcases h q with c | ⟨j, c, d⟩
  · exact Or.inl c
  · exact Or.inr ⟨j, by omega, d⟩
theorem pFm.new {s l b b1 b2 v v2 m rc z t y i cs : Int32} {cl so fb : Nat → Int32} {B B1 B2 V V2 SM T : Int} (h : pFm s l b v m cl so fb) (hco : pCo rc so l b) (hz : z = fb i.toNatClampNeg) (hi : i.toInt = 9 * T + B) (ht : t = s ||| y) (hT : t.toInt = T) (hy : y = 1 <<< (b1 &&& 31)) (hcs : cs = cl s.toNatClampNeg) (hbt : bt cs b1) (hb : b.toInt = B) (hb1 : b1.toInt = B1) (hb2 : b2.toInt = B2) (hv : v.toInt = V) (hv2 : v2.toInt = V2) (hB : B2 = B + 1 ∧ B1 = B - 1 ∧ 1 ≤ B ∧ B ≤ 9 ∧ 0 ≤ T) (hsm : SM = rc.toInt + z.toInt) (hV : V2 = V ∨ V2 = SM) : pFm s l b2 v2 m cl so fb := by
  intro q
  by_cases c : V2 = V
  · rcases h (by omega) with g | ⟨j, g1, g2, g3⟩
    · exact Or.inl g
    · exact Or.inr ⟨j, by omega, g2, by omega⟩
  · right
    obtain ⟨n, a1, a2, a3⟩ := z_nI (x := b1) (by omega)
    have eb : nI (n + 1) = b := Int32.toInt_inj.mp (by rw [z_nj (j := n + 1) (by omega)]; omega)
    have et : t = sx s n := by rw [ht, hy, a1]; rfl
    refine ⟨n, by omega, by rw [← hcs, ← a1]; exact hbt, ?_⟩
    rw [eb, ← et, fA.ld hz hi hT hb ⟨by omega, by omega⟩, ← show rc = cst so l b from hco]; omega
/-! the walk by the least -/
def pFs (s l : Int32) (fb : Nat → Int32) : Prop := fA fb s l < 1000000
def pFn (s l b : Int32) (cl so fb : Nat → Int32) : Prop := ∀ j : Nat, (j : Int) + 1 < b.toInt → ¬ (bt (cl s.toNatClampNeg) (nI j) ∧ (cst so l (nI (j + 1))).toInt + fA fb (sx s j) (nI (j + 1)) = fA fb s l)
theorem pFn.zero {s l b : Int32} {cl so fb : Nat → Int32} (h : b.toInt ≤ 1) : pFn s l b cl so fb := fun j hj => by omega
theorem pFx.lt {m s l b : Int32} {cl so fb : Nat → Int32} (h : pFx m s l cl so fb) (hn : pFn s l b cl so fb) : b.toInt < m.toInt := by
  obtain ⟨j, a, c, d⟩ := h
  have : ¬ (j : Int) + 1 < b.toInt := fun q => hn j q ⟨c, d⟩
  omega
theorem pFx.one {m s l : Int32} {cl so fb : Nat → Int32} (h : pFx m s l cl so fb) : 1 < m.toInt := by
  obtain ⟨j, a, _, _⟩ := h
  omega
theorem pFx.of {m s l al : Int32} {cl so fb : Nat → Int32} {S AL L : Int} (h : pFy m cl so fb) (hw : pFs s l fb) (hE : pE al m) (hs : s.toInt = S) (hal : al.toInt = AL) (hl : l.toInt = L) (hb : 0 ≤ S ∧ S < AL ∧ 0 ≤ L ∧ L < m.toInt) : pFx m s l cl so fb := h s (by omega) ((aE.le hE).mpr (by omega)) l (by omega) (by omega) hw
theorem pFn.b {s l b b1 b2 cs r : Int32} {cl so fb : Nat → Int32} {B B1 B2 : Int} (h : pFn s l b cl so fb) (e : cs = cl s.toNatClampNeg) (ho : pOf r cs b1) (hr : r.toInt = 0) (hb : b.toInt = B) (hb1 : b1.toInt = B1) (hb2 : b2.toInt = B2) (hB : B2 = B + 1 ∧ B1 = B - 1 ∧ 1 ≤ B ∧ B ≤ 30) : pFn s l b2 cl so fb := by
  intro j hj
  by_cases c : (j : Int) + 1 < B
  · exact h j (by omega)
  · rintro ⟨p, q⟩
    have ej := z_nj (j := j) (by omega)
    have : nI j = b1 := Int32.toInt_inj.mp (by omega)
    rw [this, ← e] at p
    exact ho.f ⟨by omega, by omega⟩ hr p
theorem pFn.w {s l b b1 b2 rc z z0 t y i i0 : Int32} {cl so fb : Nat → Int32} {B B1 B2 S L T SM : Int} (h : pFn s l b cl so fb) (hco : pCo rc so l b) (hz : z = fb i.toNatClampNeg) (hi : i.toInt = 9 * T + B) (ht : t = s ||| y) (hT : t.toInt = T) (hy : y = 1 <<< (b1 &&& 31)) (hz0 : z0 = fb i0.toNatClampNeg) (hi0 : i0.toInt = 9 * S + L) (hs : s.toInt = S) (hl : l.toInt = L) (hb : b.toInt = B) (hb1 : b1.toInt = B1) (hb2 : b2.toInt = B2) (hB : B2 = B + 1 ∧ B1 = B - 1 ∧ 1 ≤ B ∧ B ≤ 30 ∧ 0 ≤ T ∧ 0 ≤ S ∧ 0 ≤ L) (hsm : SM = rc.toInt + z.toInt) (hne : ¬ SM = z0.toInt) : pFn s l b2 cl so fb := by
  intro j hj
  by_cases c : (j : Int) + 1 < B
  · exact h j (by omega)
  · rintro ⟨p, q⟩
    have eb : nI (j + 1) = b := Int32.toInt_inj.mp (by rw [z_nj (j := j + 1) (by omega)]; omega)
    have e1 : nI j = b1 := Int32.toInt_inj.mp (by rw [z_nj (j := j) (by omega)]; omega)
    have e2 : sx s j = t := by unfold sx; rw [e1, ht, hy]
    rw [eb, e2, fA.ld hz hi hT hb ⟨by omega, by omega⟩, fA.ld hz0 hi0 hs hl ⟨by omega, by omega⟩, ← show rc = cst so l b from hco] at q
    omega
theorem pFs.nx {s l b b1 rc z z0 t y t2 y2 i i0 : Int32} {so fb : Nat → Int32} {B S L T SM : Int} (hs0 : pFs s l fb) (hz : z = fb i.toNatClampNeg) (hi : i.toInt = 9 * T + B) (ht : t = s ||| y) (hT : t.toInt = T) (hy : y = 1 <<< (b1 &&& 31)) (ht2 : t2 = s ||| y2) (hy2 : y2 = 1 <<< (b1 &&& 31)) (hz0 : z0 = fb i0.toNatClampNeg) (hi0 : i0.toInt = 9 * S + L) (hs : s.toInt = S) (hl : l.toInt = L) (hb : b.toInt = B) (h0 : 0 ≤ T ∧ 0 ≤ S ∧ 0 ≤ L ∧ 0 ≤ B ∧ 0 ≤ rc.toInt) (hsm : rc.toInt + z.toInt = z0.toInt) : pFs t2 b fb := by
  have e : t2 = t := by rw [ht2, hy2, ht, hy]
  subst e
  unfold pFs at *
  rw [fA.ld hz hi hT hb ⟨by omega, by omega⟩]
  rw [fA.ld hz0 hi0 hs hl ⟨by omega, by omega⟩] at hs0
  omega
/-- what fewest tells of its rows -/
def pFq (r m n : Int32) (cl so fb : Nat → Int32) : Prop := ¬ r.toInt = -1 → pFy m cl so fb ∧ pFs n 0 fb ∧ pCa m cl
theorem pFq.no {r m n : Int32} {cl so fb : Nat → Int32} (h : r.toInt = -1) : pFq r m n cl so fb := fun q => absurd h q
theorem pFq.mk {r m n z i : Int32} {cl so fb : Nat → Int32} {N : Int} (h : pFy m cl so fb) (hc : pCa m cl) (hz : z = fb i.toNatClampNeg) (hi : i.toInt = 9 * N) (hn : n.toInt = N) (hb : 0 ≤ N ∧ z.toInt < 1000000) : pFq r m n cl so fb := fun _ => ⟨h, by
  unfold pFs
  rw [fA.ld (l := 0) (L := 0) hz (by omega) hn (by decide) ⟨hb.1, by omega⟩]; exact hb.2, hc⟩
