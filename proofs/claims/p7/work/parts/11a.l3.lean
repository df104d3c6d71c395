/-- the tape's byte at a place, by what lies there -/
def tAt (len : Int32) (by_ : Nat → Int32) (x : Int32) : Int32 := if x < 0 then -1 else if len ≤ x then -1 else if 1200 ≤ x then -1 else by_ x.toNatClampNeg &&& 255
def pAt (r len : Int32) (by_ : Nat → Int32) (x : Int32) : Prop := r = tAt len by_ x
/-- so far each third byte is a bend (told), or not (0) -/
def pL1 (told i cnt len : Int32) (by_ : Nat → Int32) : Prop := told.toInt = 0 ∨ ∀ k : Nat, (k : Int) < i.toInt → ∀ x : Int32, x.toInt = 3 * k → 1 ≤ (tAt len by_ x).toInt ∧ (tAt len by_ x).toInt < cnt.toInt
theorem pL1.zero {told i cnt len : Int32} {by_ : Nat → Int32} (h : i.toInt ≤ 0) : pL1 told i cnt len by_ := Or.inr (fun k hk => by omega)
theorem pL1.step {told told2 i i2 cnt len r z : Int32} {by_ : Nat → Int32} (h : pL1 told i cnt len by_) (ht : ¬ told.toInt = 0) (ha : pAt r len by_ z) (hz : z.toInt = 3 * i.toInt) (hi : i2.toInt = i.toInt + 1) (hb : told2.toInt = 0 ∨ (1 ≤ r.toInt ∧ r.toInt < cnt.toInt)) : pL1 told2 i2 cnt len by_ := by
  rcases h with h | h
  · exact absurd h ht
  rcases hb with q | q
  · exact Or.inl q
  refine Or.inr (fun k hk x hx => ?_)
  rcases (show (k : Int) < i.toInt ∨ (k : Int) = i.toInt by omega) with c | c
  · exact h k c x hx
  · have e : x = z := Int32.toInt_inj.mp (by omega)
    rw [e, ← ha]; exact q
theorem pL1.weak {told i n cnt len : Int32} {by_ : Nat → Int32} {I N : Int} (h : pL1 told i cnt len by_) (hi : i.toInt = I) (hn : n.toInt = N) (hb : N ≤ I) : pL1 told n cnt len by_ := h.elim Or.inl (fun q => Or.inr (fun k hk => q k (by omega)))
/-- what is seen are bends -/
def pSn (rows cnt : Int32) (fl : Nat → Int32) : Prop := ∀ k : Nat, (k : Int) < rows.toInt → 1 ≤ (fl k).toInt ∧ (fl k).toInt < cnt.toInt
theorem pSn.zero {rows cnt : Int32} {fl : Nat → Int32} (h : rows.toInt ≤ 0) : pSn rows cnt fl := fun k hk => by omega
theorem pSn.at {rows cnt : Int32} {fl : Nat → Int32} (h : pSn rows cnt fl) {j z : Int32} {J N M : Int} (e : z = fl j.toNatClampNeg) (hj : j.toInt = J) (hn : rows.toInt = N) (hm : cnt.toInt = M) (hb : 0 ≤ J ∧ J < N) : 1 ≤ z.toInt ∧ z.toInt < M := by
  have hk : ((j.toNatClampNeg : Nat) : Int) = J := by
    show ((j.toInt.toNat : Nat) : Int) = J
    omega
  have := h j.toNatClampNeg (by omega)
  rw [e]; omega
theorem pSn.step {i i2 n told cnt len r z : Int32} {by_ fl fl2 : Nat → Int32} (h : pSn i cnt fl) (hL : pL1 told n cnt len by_) (ht : ¬ told.toInt = 0) (hn : i.toInt < n.toInt) (h0 : 0 ≤ i.toInt) (ha : pAt r len by_ z) (hz : z.toInt = 3 * i.toInt) (hi : i2.toInt = i.toInt + 1) (e : fl2 = upd fl i.toNatClampNeg r) : pSn i2 cnt fl2 := by
  intro k hk
  have hc : ((i.toNatClampNeg : Nat) : Int) = i.toInt := by
    show ((i.toInt.toNat : Nat) : Int) = i.toInt
    omega
  rw [e]
  by_cases q : k = i.toNatClampNeg
  · rw [q, pk_us]
    rcases hL with c | c
    · exact absurd c ht
    · rw [ha]; exact c i.toNatClampNeg (by omega) z (by omega)
  · rw [pk_un q]; exact h k (by omega)
theorem pSn.weak {i n cnt : Int32} {fl : Nat → Int32} {I N : Int} (h : pSn i cnt fl) (hi : i.toInt = I) (hn : n.toInt = N) (hb : N ≤ I) : pSn n cnt fl := fun k hk => h k (by omega)
theorem zl31 {z : Int32} {w : Int64} (e : z = (w &&& 2147483647).toInt32) : 0 ≤ z.toInt := by
  have h1 : z.toBitVec.toNat = (w.toBitVec.toNat &&& 2147483647) % 2 ^ 32 := by
    rw [e]
    show ((w.toBitVec &&& (2147483647 : Int64).toBitVec).signExtend 32).toNat = _
    rw [BitVec.signExtend_eq_setWidth_of_le _ (by decide), BitVec.toNat_setWidth, BitVec.toNat_and]
    rfl
  have h2 : w.toBitVec.toNat &&& 2147483647 ≤ 2147483647 := Nat.and_le_right
  have h3 : (w.toBitVec.toNat &&& 2147483647) % 2 ^ 32 < 2 ^ 31 := Nat.lt_of_le_of_lt (Nat.mod_le _ _) (by omega)
  rw [z_of h1 h3]; omega
theorem zrm1 {z x y : Int32} {X Y : Int} (e : z = x - x / y * y) (hx : x.toInt = X) (hy : y.toInt = Y) (h : 0 ≤ X ∧ 0 < Y) : 0 ≤ z.toInt ∧ z.toInt < Y ∧ z.toInt ≤ X := by
  have h1 := zrm e hx hy h
  have h2 : X % Y ≤ X := by
    have h3 := Int.emod_add_mul_ediv X Y
    have h4 : 0 ≤ Y * (X / Y) := Int.mul_nonneg (by omega) (Int.ediv_nonneg h.1 (by omega))
    omega
  rw [h1]; exact ⟨Int.emod_nonneg X (by omega), Int.emod_lt_of_pos X h.2, h2⟩
