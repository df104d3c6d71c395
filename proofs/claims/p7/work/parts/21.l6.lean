/-! BITS: whether a bend is in a set -/
def bt (x k : Int32) : Prop := x.toBitVec.getLsbD k.toInt.toNat = true
def pOf (r x k : Int32) : Prop := 0 ≤ k.toInt → k.toInt ≤ 30 → (r.toInt = 1 ∧ bt x k) ∨ (r.toInt = 0 ∧ ¬ bt x k)
theorem z_sm : ∀ n, n < 31 → ((nI n &&& 31).toBitVec.smod 32).toNat = n := by decide +kernel
theorem z_b1 (w : BitVec 32) : (w &&& 1#32 = 1#32) ↔ w.getLsbD 0 = true := by
  constructor
  · intro h
    have h1 := congrArg (fun v => v.getLsbD 0) h
    simpa using h1
  · intro h
    apply BitVec.eq_of_getLsbD_eq
    intro i hi
    rw [BitVec.getLsbD_and]
    by_cases q : i = 0
    · subst q; simp [h]
    · simp [BitVec.getLsbD_one, q]
theorem z_bs {z1 z2 x k : Int32} (e1 : z1 = x >>> (k &&& 31)) (e2 : z2 = z1 &&& 1) (h0 : 0 ≤ k.toInt) (h1 : k.toInt ≤ 30) : z2 = 1 ↔ bt x k := by
  obtain ⟨n, a1, a2, a3⟩ := z_nI (x := k) h0
  have hn : n < 31 := by omega
  have hs := z_sm n hn
  rw [← a1] at hs
  have e3 : z1.toBitVec = x.toBitVec.sshiftRight n := by
    rw [e1]
    show x.toBitVec.sshiftRight ((k &&& 31).toBitVec.smod 32).toNat = _
    rw [hs]
  have e4 : z2 = 1 ↔ z2.toBitVec = 1#32 := ⟨fun h => by rw [h]; rfl, fun h => Int32.toBitVec_inj.mp h⟩
  rw [e4, e2]
  show (z1.toBitVec &&& 1#32 = 1#32) ↔ _
  rw [z_b1, e3]
  unfold bt
  rw [show k.toInt.toNat = n by omega, BitVec.getLsbD_sshiftRight]
  simp [show n < 32 by omega]
theorem pOf.yes {r z1 z2 x k : Int32} (e1 : z1 = x >>> (k &&& 31)) (e2 : z2 = z1 &&& 1) (hr : r.toInt = 1) (h : z2 = 1) : pOf r x k := fun a b => Or.inl ⟨hr, (z_bs e1 e2 a b).mp h⟩
theorem pOf.no {r z1 z2 x k : Int32} (e1 : z1 = x >>> (k &&& 31)) (e2 : z2 = z1 &&& 1) (hr : r.toInt = 0) (h : ¬ z2 = 1) : pOf r x k := fun a b => Or.inr ⟨hr, fun q => h ((z_bs e1 e2 a b).mpr q)⟩
theorem pOf.t {r x k : Int32} (h : pOf r x k) (hk : 0 ≤ k.toInt ∧ k.toInt ≤ 30) (hr : ¬ r.toInt = 0) : bt x k := by
  rcases h hk.1 hk.2 with ⟨a, b⟩ | ⟨a, b⟩
  · exact b
  · exact absurd a hr
theorem pOf.f {r x k : Int32} (h : pOf r x k) (hk : 0 ≤ k.toInt ∧ k.toInt ≤ 30) (hr : r.toInt = 0) : ¬ bt x k := by
  rcases h hk.1 hk.2 with ⟨a, b⟩ | ⟨a, b⟩
  · omega
  · exact b
theorem bt_or {z x y k : Int32} (e : z = x ||| y) : bt z k ↔ bt x k ∨ bt y k := by
  unfold bt; rw [e]
  show (x.toBitVec ||| y.toBitVec).getLsbD _ = true ↔ _
  rw [BitVec.getLsbD_or, Bool.or_eq_true]
theorem bt_and {z x y k : Int32} (e : z = x &&& y) (h : bt z k) : bt x k ∧ bt y k := by
  unfold bt at *; rw [e] at h
  have h : (x.toBitVec &&& y.toBitVec).getLsbD k.toInt.toNat = true := h
  rw [BitVec.getLsbD_and, Bool.and_eq_true] at h
  exact h
theorem bt_not {z x k : Int32} (e : z = x ^^^ (-1)) (h : bt z k) : ¬ bt x k := by
  unfold bt at *; rw [e] at h
  have h : (x.toBitVec ^^^ (-1 : Int32).toBitVec).getLsbD k.toInt.toNat = true := h
  rw [BitVec.getLsbD_xor] at h
  intro q
  rw [q] at h
  have h2 : ((-1 : Int32).toBitVec).getLsbD k.toInt.toNat = decide (k.toInt.toNat < 32) := by
    show (BitVec.allOnes 32).getLsbD _ = _
    rw [BitVec.getLsbD_allOnes]
  have h3 := BitVec.lt_of_getLsbD q
  rw [h2] at h
  simp [h3] at h
  exact absurd h3 (Nat.not_lt.mpr h)
theorem z_b2 : ∀ n, n < 9 → ∀ j, j < 32 → ((1 : Int32) <<< (nI n &&& 31)).toBitVec.getLsbD j = decide (n = j) := by decide +kernel
theorem bt_sh {y b k : Int32} (e : y = 1 <<< (b &&& 31)) (hb : 0 ≤ b.toInt ∧ b.toInt ≤ 8) (hk : 0 ≤ k.toInt ∧ k.toInt ≤ 30) (h : bt y k) : k = b := by
  obtain ⟨n, a1, a2, a3⟩ := z_nI (x := b) hb.1
  unfold bt at h
  rw [e, a1, z_b2 n (by omega) _ (by omega)] at h
  have h1 : n = k.toInt.toNat := by simpa using h
  exact Int32.toInt_inj.mp (by omega)
theorem z_b3 : ∀ n, n < 256 → ∀ j, j < 8 → (nI n).toBitVec.getLsbD j = false → (nI n ||| (1 : Int32) <<< (nI j &&& 31)).toInt = n + 2 ^ j := by decide +kernel
theorem bt_up {z y s b : Int32} (e : z = s ||| y) (e2 : y = 1 <<< (b &&& 31)) (hs : 0 ≤ s.toInt ∧ s.toInt ≤ 255) (hb : 0 ≤ b.toInt ∧ b.toInt ≤ 7) (h : ¬ bt s b) : s.toInt < z.toInt := by
  obtain ⟨n, a1, a2, a3⟩ := z_nI (x := b) hb.1
  obtain ⟨p, c1, c2, c3⟩ := z_nI (x := s) hs.1
  have h1 := z_b3 p (by omega) n (by omega) (by
    unfold bt at h
    rw [← c1, show n = b.toInt.toNat by omega]
    simpa using h)
  rw [e, e2, a1, c1, h1, nI_toInt c3]
  have : (0 : Int) < 2 ^ n := by
    have h5 : 0 < (2 : Nat) ^ n := Nat.two_pow_pos n
    exact_mod_cast h5
  omega
/-- v: bends of m flanges, none of s -/
def pCs (v s m : Int32) : Prop := ∀ k : Int32, 0 ≤ k.toInt → k.toInt ≤ 30 → bt v k → k.toInt + 1 < m.toInt ∧ ¬ bt s k
def pCl (n m : Int32) (cl : Nat → Int32) : Prop := ∀ s : Int32, 0 ≤ s.toInt → s.toInt < n.toInt → pCs (cl s.toNatClampNeg) s m
def pCe (n m : Int32) (cl : Nat → Int32) : Prop := ∀ s : Int32, 0 ≤ s.toInt → s.toInt ≤ n.toInt → pCs (cl s.toNatClampNeg) s m
def pCa (m : Int32) (cl : Nat → Int32) : Prop := ∀ s : Int32, 0 ≤ s.toInt → pA s m → pCs (cl s.toNatClampNeg) s m
theorem pCl.zero {n m : Int32} {cl : Nat → Int32} (h : n.toInt ≤ 0) : pCl n m cl := fun s a b => by omega
theorem pCl.of {n n2 m : Int32} {cl : Nat → Int32} {N N2 : Int} (h : pCe n m cl) (h1 : n.toInt = N) (h2 : n2.toInt = N2) (hb : N2 = N + 1) : pCl n2 m cl := fun s a b => h s a (by omega)
theorem pCl.all {n m a : Int32} {cl : Nat → Int32} (h : pCl n m cl) (ha : pE a m) (hb : a.toInt < n.toInt) : pCa m cl := fun s p q => h s p (by have := ha.le q; omega)
theorem zix {s t : Int32} (h1 : 0 ≤ s.toInt) (h2 : 0 ≤ t.toInt) (h : s.toNatClampNeg = t.toNatClampNeg) : s = t := by
  have a := zcn (j := s) rfl h1
  have b := zcn (j := t) rfl h2
  exact Int32.toInt_inj.mp (by omega)
theorem bt_zero {k : Int32} : ¬ bt 0 k := by
  unfold bt
  show ¬ (0#32).getLsbD _ = true
  rw [BitVec.getLsbD_zero]; decide
theorem pCe.zero {n m x : Int32} {cl cl2 : Nat → Int32} (h : pCl n m cl) (e : cl2 = upd cl n.toNatClampNeg x) (hx : x = 0) (h0 : 0 ≤ n.toInt) : pCe n m cl2 := by
  intro s a b
  rw [e]
  by_cases q : s.toNatClampNeg = n.toNatClampNeg
  · rw [q, pk_us, hx]
    intro k _ _ hk
    exact absurd hk bt_zero
  · rw [pk_un q]
    refine h s a ?_
    have : ¬ s = n := fun z => q (by rw [z])
    have : ¬ s.toInt = n.toInt := fun z => this (Int32.toInt_inj.mp z)
    omega
theorem pCe.or {n m z y x b : Int32} {cl cl2 : Nat → Int32} (h : pCe n m cl) (e : cl2 = upd cl n.toNatClampNeg x) (e1 : x = z ||| y) (e2 : z = cl n.toNatClampNeg) (e3 : y = 1 <<< (b &&& 31)) (h0 : 0 ≤ n.toInt) (hb : 0 ≤ b.toInt ∧ b.toInt ≤ 8 ∧ b.toInt + 1 < m.toInt) (hn : ¬ bt n b) : pCe n m cl2 := by
  intro s a c
  rw [e]
  by_cases q : s.toNatClampNeg = n.toNatClampNeg
  · rw [q, pk_us]
    have hs := zix a h0 q
    subst hs
    intro k k0 k1 hk
    rcases (bt_or e1).mp hk with d | d
    · rw [e2] at d; exact h s a (by omega) k k0 k1 d
    · have := bt_sh e3 ⟨hb.1, hb.2.1⟩ ⟨k0, k1⟩ d
      subst this
      exact ⟨hb.2.2, hn⟩
  · rw [pk_un q]; exact h s a c
def pMy (x s : Int32) : Prop := ∀ k : Int32, bt x k → ¬ bt s k
theorem pMy.mk {a b c d s ct x y : Int32} (e1 : a = s ^^^ (-1)) (e2 : b = ct &&& a) (e3 : c = b &&& x) (e4 : d = c &&& y) : pMy d s := fun _ h => bt_not e1 (bt_and e2 (bt_and e3 (bt_and e4 h).1).1).2
/-! WAYS: orders from a state on -/
def sx (s : Int32) (j : Nat) : Int32 := s ||| ((1 : Int32) <<< (nI j &&& 31))
def pEx (m s : Int32) (cl wy : Nat → Int32) : Prop := ∃ j : Nat, (j : Int) + 1 < m.toInt ∧ bt (cl s.toNatClampNeg) (nI j) ∧ ¬ wy (sx s j).toNatClampNeg = 0
def pWk (n m : Int32) (cl wy : Nat → Int32) : Prop := ∀ s : Int32, n.toInt < s.toInt → 0 ≤ s.toInt → aB m.toInt (s.toInt + 1) → ¬ wy s.toNatClampNeg = 0 → pEx m s cl wy
def pIn (s b m : Int32) (cl wy : Nat → Int32) : Prop := ¬ wy s.toNatClampNeg = 0 → pE s m ∨ ∃ j : Nat, (j : Int) + 1 < b.toInt ∧ bt (cl s.toNatClampNeg) (nI j) ∧ ¬ wy (sx s j).toNatClampNeg = 0
theorem aB9 {M X : Int} (h : aB M X) : X ≤ 255 := by unfold aB at h; omega
theorem aBm {M X : Int} (h : aB M X) : M ≤ 9 := by unfold aB at h; omega
theorem z_nj {j : Nat} (h : (j : Int) < 31) : (nI j).toInt = j := nI_toInt (by omega)
/-- with a bend that is clear the state grows, and stays one -/
theorem sx_up {m s : Int32} {cl : Nat → Int32} {j : Nat} (hc : pCa m cl) (h0 : 0 ≤ s.toInt) (ha : pA s m) (hj : (j : Int) + 1 < m.toInt) (hb : bt (cl s.toNatClampNeg) (nI j)) : s.toInt < (sx s j).toInt ∧ 0 ≤ (sx s j).toInt := by
  have h9 := aB9 ha
  have hm := aBm ha
  have ej := z_nj (j := j) (by omega)
  have h1 := hc s h0 ha (nI j) (by omega) (by omega) hb
  have h2 := bt_up (z := sx s j) (y := 1 <<< (nI j &&& 31)) rfl rfl ⟨h0, h9⟩ ⟨by omega, by omega⟩ h1.2
  exact ⟨h2, by omega⟩
theorem pWk.all {n m : Int32} {cl wy : Nat → Int32} {N : Int} (hn : n.toInt = N) (h : aE m.toInt N) : pWk n m cl wy := by
  intro s a b c
  have := (aE.le (Y := s.toInt + 1) h).mp c
  omega
theorem pIn.start {s b m x al : Int32} {cl wy wy2 : Nat → Int32} {X S AL : Int} (e : wy2 = upd wy s.toNatClampNeg x) (hx : x.toInt = X) (hs : s.toInt = S) (hal : al.toInt = AL) (hE : pE al m) (h : X = 0 ∨ S = AL) : pIn s b m cl wy2 := by
  intro q
  rw [e, pk_us] at q
  rcases h with c | c
  · exact absurd (Int32.toInt_inj.mp (by rw [hx, c]; rfl)) q
  · left; unfold pE at *; rw [hs, c, ← hal]; exact hE
theorem pWk.up {s m x : Int32} {cl wy wy2 : Nat → Int32} (h : pWk s m cl wy) (e : wy2 = upd wy s.toNatClampNeg x) (hc : pCa m cl) (h0 : 0 ≤ s.toInt) : pWk s m cl wy2 := by
  intro t a b c d
  have n1 : ¬ t.toNatClampNeg = s.toNatClampNeg := fun q => by have := zix b h0 q; subst this; omega
  rw [e, pk_un n1] at d
  obtain ⟨j, p, q, r⟩ := h t a b c d
  refine ⟨j, p, q, ?_⟩
  have hA : pA t m := aB.le c (by omega)
  have u := sx_up hc b hA p q
  rw [e, pk_un (fun q9 => by have := zix u.2 h0 q9; rw [this] at u; omega)]; exact r
theorem pIn.keep {s b b2 m x z : Int32} {cl wy wy2 : Nat → Int32} {B B2 : Int} (h : pIn s b m cl wy) (e : wy2 = upd wy s.toNatClampNeg x) (hx : x = z + 0) (hz : z = wy s.toNatClampNeg) (hc : pCa m cl) (h0 : 0 ≤ s.toInt) (ha : pA s m) (hb : b.toInt = B) (hb2 : b2.toInt = B2) (hB : B2 = B + 1) (hm : B ≤ m.toInt) : pIn s b2 m cl wy2 := by
  intro q
  rw [e, pk_us, hx, Int32.add_zero, hz] at q
  rcases h q with c | ⟨j, c, d, f⟩
  · exact Or.inl c
  · right
    refine ⟨j, by omega, d, ?_⟩
    have u := sx_up hc h0 ha (by omega) d
    rw [e, pk_un (fun q9 => by have := zix u.2 h0 q9; rw [this] at u; omega)]; exact f
theorem pIn.new {s b b1 b2 m x z w t y cs : Int32} {cl wy wy2 : Nat → Int32} {B B1 B2 : Int} (h : pIn s b m cl wy) (e : wy2 = upd wy s.toNatClampNeg x) (hx : x = z + w) (hz : z = wy s.toNatClampNeg) (hw : w = wy t.toNatClampNeg) (ht : t = s ||| y) (hy : y = 1 <<< (b1 &&& 31)) (hcs : cs = cl s.toNatClampNeg) (hbt : bt cs b1) (hc : pCa m cl) (h0 : 0 ≤ s.toInt) (ha : pA s m) (hb : b.toInt = B) (hb1 : b1.toInt = B1) (hb2 : b2.toInt = B2) (hB : B2 = B + 1 ∧ B1 = B - 1 ∧ 1 ≤ B) (hm : B < m.toInt) : pIn s b2 m cl wy2 := by
  intro q
  rw [e, pk_us, hx] at q
  have hm9 := aBm ha
  by_cases c : z = 0
  · right
    obtain ⟨n, a1, a2, a3⟩ := z_nI (x := b1) (by omega)
    have et : t = sx s n := by rw [ht, hy, a1]; rfl
    have hbn : bt (cl s.toNatClampNeg) (nI n) := by rw [← hcs, ← a1]; exact hbt
    refine ⟨n, by omega, hbn, ?_⟩
    have u := sx_up hc h0 ha (by omega) hbn
    rw [e, pk_un (fun q9 => by have := zix u.2 h0 q9; rw [this] at u; omega), ← et, ← hw]
    intro q9; rw [c, q9] at q; exact q (by decide)
  · rcases h (by rw [← hz]; exact c) with c2 | ⟨j, c2, d, f⟩
    · exact Or.inl c2
    · right
      refine ⟨j, by omega, d, ?_⟩
      have u := sx_up hc h0 ha (by omega) d
      rw [e, pk_un (fun q9 => by have := zix u.2 h0 q9; rw [this] at u; omega)]; exact f
theorem pWk.next {s s2 b m : Int32} {cl wy : Nat → Int32} {S S2 : Int} (h : pWk s m cl wy) (hi : pIn s b m cl wy) (hs : s.toInt = S) (hs2 : s2.toInt = S2) (hS : S2 = S - 1) (hb : b.toInt ≤ m.toInt) : pWk s2 m cl wy := by
  intro t a c d f
  by_cases q : t = s
  · subst q
    rcases hi f with g | ⟨j, g1, g2, g3⟩
    · exact absurd ((aE.le g).mp d) (by omega)
    · exact ⟨j, by omega, g2, g3⟩
  · have : ¬ t.toInt = s.toInt := fun z => q (Int32.toInt_inj.mp z)
    exact h t (by omega) c d f
def pWy (m : Int32) (cl wy : Nat → Int32) : Prop := ∀ s : Int32, 0 ≤ s.toInt → aB m.toInt (s.toInt + 1) → ¬ wy s.toNatClampNeg = 0 → pEx m s cl wy
theorem pWy.of {s m : Int32} {cl wy : Nat → Int32} (h : pWk s m cl wy) (hs : s.toInt < 0) : pWy m cl wy := fun t a b c => h t (by omega) a b c
def pRw (r s : Int32) (wy : Nat → Int32) : Prop := r = wy s.toNatClampNeg
def pW0 (s : Int32) (wy : Nat → Int32) : Prop := ¬ wy s.toNatClampNeg = 0
theorem pW0.of {r s : Int32} {wy : Nat → Int32} (h : pRw r s wy) (hr : ¬ r.toInt = 0) : pW0 s wy := by
  show ¬ wy _ = 0
  rw [← show r = wy s.toNatClampNeg from h]
  intro q; rw [q] at hr; exact hr (by decide)
theorem pW0.ld {z s j : Int32} {wy : Nat → Int32} (e : z = wy j.toNatClampNeg) (hj : j = s) (hz : ¬ z.toInt = 0) : pW0 s wy := by
  show ¬ wy _ = 0
  rw [← hj, ← e]; intro q; rw [q] at hz; exact hz (by decide)
theorem pEx.of {m s al : Int32} {cl wy : Nat → Int32} {S AL : Int} (h : pWy m cl wy) (hw : pW0 s wy) (hE : pE al m) (hs : s.toInt = S) (hal : al.toInt = AL) (hb : 0 ≤ S ∧ S < AL) : pEx m s cl wy := h s (by omega) ((aE.le hE).mpr (by omega)) hw
/-- no bend ahead of b goes on -/
def pNb (s b : Int32) (cl wy : Nat → Int32) : Prop := ∀ j : Nat, (j : Int) < b.toInt → ¬ (bt (cl s.toNatClampNeg) (nI j) ∧ ¬ wy (sx s j).toNatClampNeg = 0)
theorem pNb.zero {s b : Int32} {cl wy : Nat → Int32} (h : b.toInt ≤ 0) : pNb s b cl wy := fun j hj => by omega
theorem pEx.lt {m s b : Int32} {cl wy : Nat → Int32} (h : pEx m s cl wy) (hn : pNb s b cl wy) : b.toInt + 1 < m.toInt := by
  obtain ⟨j, a, c, d⟩ := h
  have : ¬ (j : Int) < b.toInt := fun q => hn j q ⟨c, d⟩
  omega
theorem pNb.b {s b b2 cs r : Int32} {cl wy : Nat → Int32} {B B2 : Int} (h : pNb s b cl wy) (e : cs = cl s.toNatClampNeg) (ho : pOf r cs b) (hr : r.toInt = 0) (hb : b.toInt = B) (hb2 : b2.toInt = B2) (hB : B2 = B + 1 ∧ 0 ≤ B ∧ B ≤ 30) : pNb s b2 cl wy := by
  intro j hj
  by_cases c : (j : Int) < B
  · exact h j (by omega)
  · rintro ⟨p, q⟩
    have ej := z_nj (j := j) (by omega)
    have : nI j = b := Int32.toInt_inj.mp (by omega)
    rw [this, ← e] at p
    exact ho.f ⟨by omega, by omega⟩ hr p
theorem pNb.w {s b b2 z t y : Int32} {cl wy : Nat → Int32} {B B2 : Int} (h : pNb s b cl wy) (e : z = wy t.toNatClampNeg) (ht : t = s ||| y) (hy : y = 1 <<< (b &&& 31)) (hz : z.toInt = 0) (hb : b.toInt = B) (hb2 : b2.toInt = B2) (hB : B2 = B + 1 ∧ 0 ≤ B ∧ B ≤ 30) : pNb s b2 cl wy := by
  intro j hj
  by_cases c : (j : Int) < B
  · exact h j (by omega)
  · rintro ⟨p, q⟩
    have ej := z_nj (j := j) (by omega)
    have e1 : nI j = b := Int32.toInt_inj.mp (by omega)
    have e2 : sx s j = t := by unfold sx; rw [e1, ht, hy]
    rw [e2, ← e] at q
    exact q (Int32.toInt_inj.mp (by rw [hz]; rfl))
theorem pW0.sx {s b z t y : Int32} {wy : Nat → Int32} (e : z = wy t.toNatClampNeg) (hz : ¬ z.toInt = 0) {t2 y2 : Int32} (ht : t = s ||| y) (hy : y = 1 <<< (b &&& 31)) (ht2 : t2 = s ||| y2) (hy2 : y2 = 1 <<< (b &&& 31)) : pW0 t2 wy := by
  show ¬ wy _ = 0
  rw [ht2, hy2, ← hy, ← ht, ← e]; intro q; rw [q] at hz; exact hz (by decide)
theorem pA.ofE {x al m : Int32} {X AL : Int} (h : pE al m) (hx : x.toInt = X) (hal : al.toInt = AL) (hb : X ≤ AL) : pA x m := (aE.le h).mpr (by omega)
theorem pEx.one {m s : Int32} {cl wy : Nat → Int32} (h : pEx m s cl wy) : 1 < m.toInt := by
  obtain ⟨j, a, _, _⟩ := h
  omega
