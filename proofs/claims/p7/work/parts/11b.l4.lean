/-! THE REFERENCE: its rows and what is known of them -/
def cEq (f : Nat → Int32) (k : Nat) (v : Int32) : Prop := f k = v
theorem cEq.at {f : Nat → Int32} {k : Nat} {v j : Int32} (h : cEq f k v) (hj : j.toNatClampNeg = k) : f j.toNatClampNeg = v := by rw [hj]; exact h
theorem zcn {j : Int32} {J : Int} (hj : j.toInt = J) (h : 0 ≤ J) : ((j.toNatClampNeg : Nat) : Int) = J := by
  show ((j.toInt.toNat : Nat) : Int) = J
  omega
theorem cEq.or {f : Nat → Int32} {k : Nat} {v z j : Int32} {J c : Int} (h : cEq f k v) (e : z = f j.toNatClampNeg) (hj : j.toInt = J) (hv : v.toInt = c) : (¬ J = k ∨ z.toInt = c) := by
  by_cases q : J = k
  · right
    have h1 := zcn hj (by omega)
    have h2 : j.toNatClampNeg = k := by omega
    rw [e, h2, h, hv]
  · exact Or.inl q
theorem cEq.st {f f2 : Nat → Int32} {k : Nat} {x j : Int32} (e : f2 = upd f j.toNatClampNeg x) (hj : j.toNatClampNeg = k) : cEq f2 k x := by
  show f2 k = x
  rw [e, hj, pk_us]
theorem cEq.ne {f f2 : Nat → Int32} {k : Nat} {v x j : Int32} {J : Int} (h : cEq f k v) (e : f2 = upd f j.toNatClampNeg x) (hj : j.toInt = J) (hb : 0 ≤ J ∧ ¬ J = k) : cEq f2 k v := by
  show f2 k = v
  have h1 := zcn hj hb.1
  rw [e, pk_un (by omega)]; exact h
/-- a row of which each place has its own bounds -/
def pW (B : Int → Int → Prop) (f : Nat → Int32) : Prop := ∀ k : Nat, B k (f k).toInt
theorem pW.at {B : Int → Int → Prop} {f : Nat → Int32} (h : pW B f) {z j : Int32} {J : Int} (e : z = f j.toNatClampNeg) (hj : j.toInt = J) (h0 : 0 ≤ J) : B J z.toInt := by
  have h1 := h j.toNatClampNeg
  rw [zcn hj h0] at h1
  rw [e]; exact h1
theorem pW.up {B : Int → Int → Prop} {f f2 : Nat → Int32} (h : pW B f) {x j : Int32} {J X : Int} (e : f2 = upd f j.toNatClampNeg x) (hj : j.toInt = J) (hx : x.toInt = X) (hb : 0 ≤ J ∧ B J X) : pW B f2 := by
  intro k
  rw [e]
  by_cases q : k = j.toNatClampNeg
  · rw [q, pk_us, hx, zcn hj hb.1]; exact hb.2
  · rw [pk_un q]; exact h k
theorem pW.g {B : Int → Int → Prop} {f : Nat → Int32} (h : pW B f) {k : Nat} {v : Int32} (e : cEq f k v) : B k v.toInt := by
  have h1 := h k
  rw [show f k = v from e] at h1
  exact h1
/-- told, read -/
def mB (J X : Int) : Prop := (¬ J = 3 ∨ (0 ≤ X ∧ X ≤ 9)) ∧ (¬ J = 4 ∨ (0 ≤ X ∧ X ≤ 8)) ∧ (¬ (13 ≤ J ∧ J ≤ 21) ∨ (0 ≤ X ∧ X ≤ 8 ∧ (X = 0 ∨ X < J - 13))) ∧ (¬ (22 ≤ J ∧ J ≤ 30) ∨ (0 ≤ X ∧ X ≤ 3)) ∧ (¬ (58 ≤ J ∧ J ≤ 66) ∨ (0 ≤ X ∧ X ≤ 9)) ∧ (¬ (67 ≤ J ∧ J ≤ 70) ∨ (X = 0))
/-- now; readNow; kept -/
def nB (J X : Int) : Prop := (¬ J = 0 ∨ (0 ≤ X ∧ X ≤ 255)) ∧ (¬ (2 ≤ J ∧ J ≤ 10) ∨ (0 ≤ X ∧ X ≤ 1))
def rB (J X : Int) : Prop := (¬ J = 0 ∨ (0 ≤ X ∧ X ≤ 0)) ∧ (¬ (2 ≤ J ∧ J ≤ 10) ∨ (0 ≤ X ∧ X ≤ 1))
def kB (J X : Int) : Prop := (¬ J % 21 = 0 ∨ (0 ≤ X ∧ X ≤ 255)) ∧ (¬ (2 ≤ J % 21 ∧ J % 21 ≤ 10) ∨ (0 ≤ X ∧ X ≤ 1))
/-- a number that is a set of the bends of m flanges -/
def aB (M X : Int) : Prop := (M ≤ 1 ∧ X ≤ 0) ∨ (M = 2 ∧ X ≤ 1) ∨ (M = 3 ∧ X ≤ 3) ∨ (M = 4 ∧ X ≤ 7) ∨ (M = 5 ∧ X ≤ 15) ∨ (M = 6 ∧ X ≤ 31) ∨ (M = 7 ∧ X ≤ 63) ∨ (M = 8 ∧ X ≤ 127) ∨ (M = 9 ∧ X ≤ 255)
/-- rows kept: each is a state -/
def pKp (kept : Nat → Int32) (n m : Int32) : Prop := ∀ k : Nat, (k : Int) < n.toInt → aB m.toInt (kept (21 * k)).toInt
/-- a copy that has passed place 3 (0) -/
def pP3 (f : Nat → Int32) (k : Int32) : Prop := 3 < k.toInt → 1 ≤ (f 3).toInt
def pP0 (f : Nat → Int32) (k m : Int32) : Prop := 0 < k.toInt → aB m.toInt (f 0).toInt
theorem pP3.zero {f : Nat → Int32} {k : Int32} (h : k.toInt ≤ 0) : pP3 f k := fun q => by omega
theorem pP3.step {f f2 : Nat → Int32} {k k2 x : Int32} {K X : Int} (h : pP3 f k) (e : f2 = upd f k.toNatClampNeg x) (hk : k.toInt = K) (hk2 : k2.toInt = K + 1) (hx : x.toInt = X) (hb : 0 ≤ K ∧ (¬ K = 3 ∨ 1 ≤ X)) : pP3 f2 k2 := by
  intro q
  have h1 := zcn hk hb.1
  by_cases c : K = 3
  · have h2 : k.toNatClampNeg = 3 := by omega
    rw [e, h2, pk_us, hx]; omega
  · rw [e, pk_un (by omega)]; exact h (by omega)
theorem pP3.g {f : Nat → Int32} {k v : Int32} (h : pP3 f k) (hk : 3 < k.toInt) (e : cEq f 3 v) : 1 ≤ v.toInt := by
  have := h hk
  rw [show f 3 = v from e] at this
  exact this
theorem pP0.zero {f : Nat → Int32} {k m : Int32} (h : k.toInt ≤ 0) : pP0 f k m := fun q => by omega
theorem aB.zero {M X : Int} (h : M ≤ 9) (hx : X ≤ 0) : aB M X := by unfold aB; omega
theorem aB.le {M X Y : Int} (h : aB M X) (hx : Y ≤ X) : aB M Y := by unfold aB at *; omega
theorem pP0.step {f f2 : Nat → Int32} {k k2 x m : Int32} {K : Int} (h : pP0 f k m) (e : f2 = upd f k.toNatClampNeg x) (hk : k.toInt = K) (hk2 : k2.toInt = K + 1) (hb : 0 ≤ K) (ha : K = 0 → aB m.toInt x.toInt) : pP0 f2 k2 m := by
  intro q
  have h1 := zcn hk hb
  by_cases c2 : K = 0
  · have h2 : k.toNatClampNeg = 0 := by omega
    rw [e, h2, pk_us]; exact ha c2
  · rw [e, pk_un (by omega)]; exact h (by omega)
theorem pP0.g {f : Nat → Int32} {k v m : Int32} (h : pP0 f k m) (hk : 0 < k.toInt) (e : cEq f 0 v) : aB m.toInt v.toInt := by
  have := h hk
  rw [show f 0 = v from e] at this
  exact this
theorem pKp.zero {kept : Nat → Int32} {n m : Int32} (h : n.toInt ≤ 0) : pKp kept n m := fun k q => by omega
theorem pKp.weak {kept : Nat → Int32} {n n2 m : Int32} {N N2 : Int} (h : pKp kept n m) (h1 : n.toInt = N) (h2 : n2.toInt = N2) (hb : N2 ≤ N) : pKp kept n2 m := fun k q => h k (by omega)
theorem pKp.at {kept : Nat → Int32} {n m z j : Int32} {J N : Int} (h : pKp kept n m) (e : z = kept j.toNatClampNeg) (hj : j.toInt = J) (hn : n.toInt = N) (hb : 0 ≤ J ∧ J % 21 = 0 ∧ J < 21 * N) : aB m.toInt z.toInt := by
  have h1 := zcn hj hb.1
  have h2 := h (j.toNatClampNeg / 21) (by omega)
  rw [show 21 * (j.toNatClampNeg / 21) = j.toNatClampNeg by omega] at h2
  rw [e]; exact h2
theorem pKp.up {kept k2 : Nat → Int32} {n m x j : Int32} {J N : Int} (h : pKp kept n m) (e : k2 = upd kept j.toNatClampNeg x) (hj : j.toInt = J) (hn : n.toInt = N) (hb : 0 ≤ J) (ha : J % 21 = 0 ∧ J < 21 * N → aB m.toInt x.toInt) : pKp k2 n m := by
  intro k hk
  have h1 := zcn hj hb
  rw [e]
  by_cases q : 21 * k = j.toNatClampNeg
  · rw [q, pk_us]; exact ha (by omega)
  · rw [pk_un q]; exact h k hk
/-- rows kept, and a further one whose place 0 is behind -/
def pKq (kept : Nat → Int32) (n k m : Int32) : Prop := pKp kept n m ∧ (0 < k.toInt → aB m.toInt (kept (21 * n.toInt.toNat)).toInt)
theorem pKq.zero {kept : Nat → Int32} {n k m : Int32} (h : pKp kept n m) (hk : k.toInt ≤ 0) : pKq kept n k m := ⟨h, fun q => by omega⟩
theorem pKq.step {kept kp2 : Nat → Int32} {n k k2 m x j : Int32} {K N J : Int} (h : pKq kept n k m) (e : kp2 = upd kept j.toNatClampNeg x) (hk : k.toInt = K) (hk2 : k2.toInt = K + 1) (hn : n.toInt = N) (hj : j.toInt = J) (hb : 0 ≤ K ∧ 0 ≤ N ∧ J = 21 * N + K) (ha : K = 0 → aB m.toInt x.toInt) : pKq kp2 n k2 m := by
  have h1 := zcn hj (by omega)
  refine ⟨?_, ?_⟩
  · intro i hi
    rw [e, pk_un (by omega)]; exact h.1 i hi
  · intro _
    rw [e]
    by_cases c : K = 0
    · rw [show 21 * n.toInt.toNat = j.toNatClampNeg by omega, pk_us]; exact ha c
    · rw [pk_un (by omega)]; exact h.2 (by omega)
theorem pKq.fin {kept : Nat → Int32} {n n2 k m : Int32} {K N : Int} (h : pKq kept n k m) (hk : k.toInt = K) (hn : n.toInt = N) (hn2 : n2.toInt = N + 1) (hb : 0 < K ∧ 0 ≤ N) : pKp kept n2 m := by
  intro i hi
  by_cases c : (i : Int) < N
  · exact h.1 i (by omega)
  · have h1 := h.2 (by omega)
    rw [show 21 * i = 21 * n.toInt.toNat by omega]; exact h1
/-- a set of bends of m flanges; the set of all -/
def pA (x m : Int32) : Prop := aB m.toInt x.toInt
theorem pA.zero {x m : Int32} (hm : m.toInt ≤ 9) (hx : x.toInt ≤ 0) : pA x m := aB.zero hm hx
theorem pA.le {x y m : Int32} {X Y : Int} (h : pA x m) (hx : x.toInt = X) (hy : y.toInt = Y) (hb : Y ≤ X) : pA y m := aB.le h (by omega)
def aE (M X : Int) : Prop := (M ≤ 1 ∧ X = 0) ∨ (M = 2 ∧ X = 1) ∨ (M = 3 ∧ X = 3) ∨ (M = 4 ∧ X = 7) ∨ (M = 5 ∧ X = 15) ∨ (M = 6 ∧ X = 31) ∨ (M = 7 ∧ X = 63) ∨ (M = 8 ∧ X = 127) ∨ (M = 9 ∧ X = 255)
def pE (x m : Int32) : Prop := aE m.toInt x.toInt
theorem aE.le {M X Y : Int} (h : aE M X) : aB M Y ↔ Y ≤ X := by unfold aE at h; unfold aB; omega
theorem pE.le {x y m : Int32} (h : pE x m) (hy : pA y m) : y.toInt ≤ x.toInt := (aE.le h).mp hy
def pAc (r x m : Int32) : Prop := ¬ r.toInt = 0 → pA x m
theorem pAc.of {r x m : Int32} (h : pAc r x m) (hr : ¬ r.toInt = 0) : pA x m := h hr
theorem pAc.no {r x m : Int32} (hr : r.toInt = 0) : pAc r x m := fun q => absurd hr q
theorem pAc.mk {r x y m : Int32} {X Y : Int} (h : pE y m) (hx : x.toInt = X) (hy : y.toInt = Y) (hb : X ≤ Y) : pAc r x m := fun _ => (aE.le h).mpr (by omega)
/-- ways of what is laid: none is 0 -/
def pNz (n : Int32) (wx wy nm : Nat → Int32) : Prop := ∀ k : Nat, (k : Int) < n.toInt → ¬ (wx k).toInt = 0 ∧ ¬ (wy k).toInt = 0 ∧ ¬ (nm k).toInt = 0
def pNs (n : Int32) (wx wy nm : Nat → Int32) : Prop := ∀ k : Nat, (k : Int) ≤ n.toInt → ¬ (wx k).toInt = 0 ∧ ¬ (wy k).toInt = 0 ∧ ¬ (nm k).toInt = 0
theorem pNz.of {n n2 : Int32} {wx wy nm : Nat → Int32} {N N2 : Int} (h : pNs n wx wy nm) (h1 : n.toInt = N) (h2 : n2.toInt = N2) (hb : N2 = N + 1) : pNz n2 wx wy nm := fun k q => h k (by omega)
theorem pNz.weak {n n2 : Int32} {wx wy nm : Nat → Int32} {N N2 : Int} (h : pNz n wx wy nm) (h1 : n.toInt = N) (h2 : n2.toInt = N2) (hb : N2 ≤ N) : pNz n2 wx wy nm := fun k q => h k (by omega)
theorem pNz.at {n j : Int32} {wx wy nm : Nat → Int32} {N J : Int} (h : pNz n wx wy nm) (hj : j.toInt = J) (hn : n.toInt = N) (hb : 0 ≤ J ∧ J < N) : ¬ (wx j.toNatClampNeg).toInt = 0 ∧ ¬ (wy j.toNatClampNeg).toInt = 0 ∧ ¬ (nm j.toNatClampNeg).toInt = 0 := by
  have h1 := zcn hj hb.1
  exact h _ (by omega)
theorem pNz.out {n j j2 j3 x y z : Int32} {wx wy nm wx2 wy2 nm2 : Nat → Int32} {N J J2 J3 : Int} (h : pNz n wx wy nm) (e1 : wx2 = upd wx j.toNatClampNeg x) (e2 : wy2 = upd wy j2.toNatClampNeg y) (e3 : nm2 = upd nm j3.toNatClampNeg z) (hj : j.toInt = J) (hj2 : j2.toInt = J2) (hj3 : j3.toInt = J3) (hn : n.toInt = N) (hb : 0 ≤ J ∧ N ≤ J ∧ 0 ≤ J2 ∧ N ≤ J2 ∧ 0 ≤ J3 ∧ N ≤ J3) : pNz n wx2 wy2 nm2 := by
  intro k hk
  have h1 := zcn hj (by omega)
  have h2 := zcn hj2 (by omega)
  have h3 := zcn hj3 (by omega)
  rw [e1, e2, e3, pk_un (by omega), pk_un (by omega), pk_un (by omega)]; exact h k hk
/-- a number of a row that is not 0 -/
def pAx (nm : Nat → Int32) (j : Int32) : Prop := ¬ (nm j.toNatClampNeg).toInt = 0
theorem pAx.st {nm nm2 : Nat → Int32} {j x : Int32} {X : Int} (e : nm2 = upd nm j.toNatClampNeg x) (hx : x.toInt = X) (hb : ¬ X = 0) : pAx nm2 j := by
  show ¬ (nm2 _).toInt = 0
  rw [e, pk_us, hx]; exact hb
theorem pAx.of {wx wy nm : Nat → Int32} {n j : Int32} {J N : Int} (h : pNz n wx wy nm) (hj : j.toInt = J) (hn : n.toInt = N) (hb : 0 ≤ J ∧ J < N) : pAx nm j := (h.at hj hn hb).2.2
/-- a third byte: bends so far (or not told) -/
def pS1 (told k m : Int32) (tp : Nat → Int32) : Prop := told.toInt = 0 ∨ ∀ j : Nat, (j : Int) < k.toInt → j % 3 = 0 → 1 ≤ (tp j).toInt ∧ (tp j).toInt < m.toInt
theorem pS1.zero {told k m : Int32} {tp : Nat → Int32} (h : k.toInt ≤ 0) : pS1 told k m tp := Or.inr (fun j hj => by omega)
theorem pS1.step {told told2 k k2 m z : Int32} {tp : Nat → Int32} {K M Z T : Int} (h : pS1 told k m tp) (ht : ¬ told.toInt = 0) (e : z = tp k.toNatClampNeg) (hk : k.toInt = K) (hk2 : k2.toInt = K + 3) (hm : m.toInt = M) (hz : z.toInt = Z) (hT : told2.toInt = T) (hb : 0 ≤ K ∧ K % 3 = 0 ∧ (T = 0 ∨ (1 ≤ Z ∧ Z < M))) : pS1 told2 k2 m tp := by
  rcases h with h | h
  · exact absurd h ht
  rcases hb.2.2 with q | q
  · exact Or.inl (by omega)
  refine Or.inr (fun j hj h3 => ?_)
  have h1 := zcn hk hb.1
  by_cases c : (j : Int) < K
  · exact h j (by omega) h3
  · have h4 : j = k.toNatClampNeg := by omega
    rw [h4, ← e]; omega
theorem pS1.at {told k m z j : Int32} {tp : Nat → Int32} {K M J : Int} (h : pS1 told k m tp) (ht : ¬ told.toInt = 0) (e : z = tp j.toNatClampNeg) (hj : j.toInt = J) (hk : k.toInt = K) (hm : m.toInt = M) (hb : 0 ≤ J ∧ J < K ∧ J % 3 = 0) : 1 ≤ z.toInt ∧ z.toInt < M := by
  rcases h with h | h
  · exact absurd h ht
  have h1 := zcn hj hb.1
  have h2 := h j.toNatClampNeg (by omega) (by omega)
  rw [e]; omega
/-- the reference's byte at a place; whether it is a small letter -/
def bA (size : Int32) (tp : Nat → Int32) (x : Int32) : Int32 := if x < 0 then -1 else if size ≤ x then -1 else tp x.toNatClampNeg
def pBy (r size : Int32) (tp : Nat → Int32) (x : Int32) : Prop := r = bA size tp x
def pSm (r size : Int32) (tp : Nat → Int32) (x : Int32) : Prop := (r.toInt = 1 ∧ 97 ≤ (bA size tp x).toInt ∧ (bA size tp x).toInt ≤ 122) ∨ (r.toInt = 0 ∧ ¬ (97 ≤ (bA size tp x).toInt ∧ (bA size tp x).toInt ≤ 122))
theorem pSm.one {r r1 r2 size x : Int32} {tp : Nat → Int32} (h1 : pBy r1 size tp x) (h2 : pBy r2 size tp x) (hr : r.toInt = 1) (a : 97 ≤ r1.toInt) (b : r2.toInt ≤ 122) : pSm r size tp x := by
  left; rw [← show r1 = bA size tp x from h1]
  have h3 : r1 = r2 := h1.trans h2.symm
  subst h3
  exact ⟨hr, a, b⟩
theorem pSm.no {r r1 size x : Int32} {tp : Nat → Int32} (h1 : pBy r1 size tp x) (hr : r.toInt = 0) (a : ¬ (97 ≤ r1.toInt ∧ r1.toInt ≤ 122)) : pSm r size tp x := by
  right; rw [← show r1 = bA size tp x from h1]; exact ⟨hr, a⟩
theorem pSm.same {r r2 size x y : Int32} {tp : Nat → Int32} {X Y : Int} (h1 : pSm r size tp x) (h2 : pSm r2 size tp y) (hx : x.toInt = X) (hy : y.toInt = Y) : (¬ X = Y ∨ r.toInt = r2.toInt) := by
  by_cases q : X = Y
  · right
    have h : x = y := Int32.toInt_inj.mp (by omega)
    subst h
    rcases h1 with ⟨a, b⟩ | ⟨a, b⟩ <;> rcases h2 with ⟨c, d⟩ | ⟨c, d⟩ <;> first | omega | exact absurd b d | exact absurd d b
  · exact Or.inl q
theorem zb64 {n : Int} (h : -9223372036854775808 ≤ n ∧ n < 9223372036854775808) : n.bmod (2 ^ 64) = n := by
  rw [Int.bmod_def]
  have e : ((2 ^ 64 : Nat) : Int) = 18446744073709551616 := by decide
  rw [e]
  split <;> omega
theorem zb32 {n : Int} (h : -2147483648 ≤ n ∧ n < 2147483648) : n.bmod (2 ^ 32) = n := by
  rw [Int.bmod_def]
  have e : ((2 ^ 32 : Nat) : Int) = 4294967296 := by decide
  rw [e]
  split <;> omega
theorem zlrm {z x : Int32} {X : Int} (e : z = (((1103515245 : Int64) * x.toInt64 + (12345 : Int64)) - ((1103515245 : Int64) * x.toInt64 + (12345 : Int64)) / (2147483648 : Int64) * (2147483648 : Int64)).toInt32) (hx : x.toInt = X) (h : 0 ≤ X) : 0 ≤ z.toInt := by
  have hr := zr x
  have c1 : (1103515245 : Int64).toInt = 1103515245 := by decide
  have c2 : (12345 : Int64).toInt = 12345 := by decide
  have c3 : (2147483648 : Int64).toInt = 2147483648 := by decide
  have h0 : (x.toInt64).toInt = X := by rw [Int32.toInt_toInt64, hx]
  have h1 : ((1103515245 : Int64) * x.toInt64).toInt = 1103515245 * X := by
    rw [Int64.toInt_mul, c1, h0, zb64 (by omega)]
  have h2 : ((1103515245 : Int64) * x.toInt64 + (12345 : Int64)).toInt = 1103515245 * X + 12345 := by
    rw [Int64.toInt_add, h1, c2, zb64 (by omega)]
  have h3 : (((1103515245 : Int64) * x.toInt64 + (12345 : Int64)) / (2147483648 : Int64)).toInt = (1103515245 * X + 12345) / 2147483648 := by
    rw [Int64.toInt_div_of_ne_right _ _ (by decide), h2, c3, Int.tdiv_eq_ediv_of_nonneg (by omega)]
  have h4 : (((1103515245 : Int64) * x.toInt64 + (12345 : Int64)) / (2147483648 : Int64) * (2147483648 : Int64)).toInt = (1103515245 * X + 12345) / 2147483648 * 2147483648 := by
    rw [Int64.toInt_mul, h3, c3, zb64 (by omega)]
  have h5 : (((1103515245 : Int64) * x.toInt64 + (12345 : Int64)) - ((1103515245 : Int64) * x.toInt64 + (12345 : Int64)) / (2147483648 : Int64) * (2147483648 : Int64)).toInt = (1103515245 * X + 12345) % 2147483648 := by
    rw [Int64.toInt_sub, h2, h4, zb64 (by omega)]; omega
  rw [e, Int64.toInt_toInt32, h5, zb32 (by omega)]; omega
