/-! NUMBERS FOR THE ABSTRACT WALK: a computed number, by its value as an integer -/
theorem zr (x : Int32) : -2147483648 ≤ x.toInt ∧ x.toInt < 2147483648 := ⟨Int32.le_toInt x, Int32.toInt_lt x⟩
theorem z_bm {z : Int} (h : -2147483648 ≤ z ∧ z < 2147483648) : z.bmod (2 ^ 32) = z := by
  obtain ⟨h1, h2⟩ := h
  rw [Int.bmod_def]; split <;> omega
theorem za {z x y : Int32} {X Y : Int} (e : z = x + y) (hx : x.toInt = X) (hy : y.toInt = Y) (h : -2147483648 ≤ X + Y ∧ X + Y < 2147483648) : z.toInt = X + Y := by
  rw [e, Int32.toInt_add, hx, hy]; exact z_bm h
theorem zs {z x y : Int32} {X Y : Int} (e : z = x - y) (hx : x.toInt = X) (hy : y.toInt = Y) (h : -2147483648 ≤ X - Y ∧ X - Y < 2147483648) : z.toInt = X - Y := by
  rw [e, Int32.toInt_sub, hx, hy]; exact z_bm h
theorem zs_w {z x y : Int32} {X Y : Int} (e : z = x - y) (hx : x.toInt = X) (hy : y.toInt = Y) (h : 0 ≤ Y ∧ Y < 2147483648) : z.toInt = X - Y ∨ z.toInt = X - Y + 4294967296 := by
  have r := zr x
  rw [hx] at r
  by_cases q : -2147483648 ≤ X - Y
  · exact Or.inl (zs e hx hy ⟨q, by omega⟩)
  · refine Or.inr ?_
    rw [e, Int32.toInt_sub, hx, hy, Int.bmod_def]
    split <;> omega
theorem zm {z x y : Int32} {X Y : Int} (e : z = x * y) (hx : x.toInt = X) (hy : y.toInt = Y) (h : -2147483648 ≤ X * Y ∧ X * Y < 2147483648) : z.toInt = X * Y := by
  rw [e, Int32.toInt_mul, hx, hy]; exact z_bm h
theorem zng {z x : Int32} {X : Int} (e : z = -x) (hx : x.toInt = X) (h : -2147483648 ≤ -X ∧ -X < 2147483648) : z.toInt = -X := by
  rw [e, Int32.toInt_neg, hx]; exact z_bm h
theorem z_nn {x : Int32} (h : 0 ≤ x.toInt) : x.toInt = (x.toBitVec.toNat : Int) ∧ x.toBitVec.toNat < 2 ^ 31 := by
  have h1 : x.toInt = x.toBitVec.toInt := rfl
  rw [h1, BitVec.toInt_eq_toNat_cond] at h ⊢
  have h2 := x.toBitVec.isLt
  split at h <;> split <;> omega
theorem z_of {x : Int32} {n : Nat} (h : x.toBitVec.toNat = n) (hn : n < 2 ^ 31) : x.toInt = (n : Int) := by
  have h1 : x.toInt = x.toBitVec.toInt := rfl
  rw [h1, BitVec.toInt_eq_toNat_cond, h]
  split <;> omega
/-- x & y of which y is not below 0 -/
theorem zand {z x y : Int32} {Y : Int} (e : z = x &&& y) (hy : y.toInt = Y) (h : 0 ≤ Y) : 0 ≤ z.toInt ∧ z.toInt ≤ Y := by
  have h0 : 0 ≤ y.toInt := by rw [hy]; exact h
  obtain ⟨h1, h2⟩ := z_nn h0
  have h3 : z.toBitVec.toNat = x.toBitVec.toNat &&& y.toBitVec.toNat := by rw [e]; exact BitVec.toNat_and ..
  have h4 : x.toBitVec.toNat &&& y.toBitVec.toNat ≤ y.toBitVec.toNat := Nat.and_le_right
  have h5 := z_of h3 (by omega)
  omega
theorem zand' {z x y : Int32} {X : Int} (e : z = x &&& y) (hx : x.toInt = X) (h : 0 ≤ X) : 0 ≤ z.toInt ∧ z.toInt ≤ X := by
  have h0 : 0 ≤ x.toInt := by rw [hx]; exact h
  obtain ⟨h1, h2⟩ := z_nn h0
  have h3 : z.toBitVec.toNat = x.toBitVec.toNat &&& y.toBitVec.toNat := by rw [e]; exact BitVec.toNat_and ..
  have h4 : x.toBitVec.toNat &&& y.toBitVec.toNat ≤ x.toBitVec.toNat := Nat.and_le_left
  have h5 := z_of h3 (by omega)
  omega
theorem zor {z x y : Int32} {X Y : Int} (k : Nat) (e : z = x ||| y) (hx : x.toInt = X) (hy : y.toInt = Y) (hk : k ≤ 31) (h : 0 ≤ X ∧ X < 2 ^ k ∧ 0 ≤ Y ∧ Y < 2 ^ k) : 0 ≤ z.toInt ∧ z.toInt < 2 ^ k := by
  obtain ⟨h1, h2, h3, h4⟩ := h
  obtain ⟨a1, a2⟩ := z_nn (x := x) (by omega)
  obtain ⟨b1, b2⟩ := z_nn (x := y) (by omega)
  have hz : z.toBitVec.toNat = x.toBitVec.toNat ||| y.toBitVec.toNat := by rw [e]; exact BitVec.toNat_or ..
  have c1 : x.toBitVec.toNat < 2 ^ k := by have : (x.toBitVec.toNat : Int) < ((2 ^ k : Nat) : Int) := by rw [← a1, hx]; simpa using h2
                                           exact Int.ofNat_lt.mp this
  have c2 : y.toBitVec.toNat < 2 ^ k := by have : (y.toBitVec.toNat : Int) < ((2 ^ k : Nat) : Int) := by rw [← b1, hy]; simpa using h4
                                           exact Int.ofNat_lt.mp this
  have c3 := Nat.or_lt_two_pow c1 c2
  have c4 : (2 : Nat) ^ k ≤ 2 ^ 31 := Nat.pow_le_pow_right (by decide) hk
  have c5 := z_of hz (by omega)
  refine ⟨by omega, ?_⟩
  rw [c5]
  have : ((x.toBitVec.toNat ||| y.toBitVec.toNat : Nat) : Int) < ((2 ^ k : Nat) : Int) := Int.ofNat_lt.mpr c3
  simpa using this
theorem zxor {z x y : Int32} {X Y : Int} (k : Nat) (e : z = x ^^^ y) (hx : x.toInt = X) (hy : y.toInt = Y) (hk : k ≤ 31) (h : 0 ≤ X ∧ X < 2 ^ k ∧ 0 ≤ Y ∧ Y < 2 ^ k) : 0 ≤ z.toInt ∧ z.toInt < 2 ^ k := by
  obtain ⟨h1, h2, h3, h4⟩ := h
  obtain ⟨a1, a2⟩ := z_nn (x := x) (by omega)
  obtain ⟨b1, b2⟩ := z_nn (x := y) (by omega)
  have hz : z.toBitVec.toNat = x.toBitVec.toNat ^^^ y.toBitVec.toNat := by rw [e]; exact BitVec.toNat_xor ..
  have c1 : x.toBitVec.toNat < 2 ^ k := by have : (x.toBitVec.toNat : Int) < ((2 ^ k : Nat) : Int) := by rw [← a1, hx]; simpa using h2
                                           exact Int.ofNat_lt.mp this
  have c2 : y.toBitVec.toNat < 2 ^ k := by have : (y.toBitVec.toNat : Int) < ((2 ^ k : Nat) : Int) := by rw [← b1, hy]; simpa using h4
                                           exact Int.ofNat_lt.mp this
  have c3 := Nat.xor_lt_two_pow c1 c2
  have c4 : (2 : Nat) ^ k ≤ 2 ^ 31 := Nat.pow_le_pow_right (by decide) hk
  have c5 := z_of hz (by omega)
  refine ⟨by omega, ?_⟩
  rw [c5]
  have : ((x.toBitVec.toNat ^^^ y.toBitVec.toNat : Nat) : Int) < ((2 ^ k : Nat) : Int) := Int.ofNat_lt.mpr c3
  simpa using this
theorem z_nI {x : Int32} (h : 0 ≤ x.toInt) : ∃ n : Nat, x = nI n ∧ x.toInt = (n : Int) ∧ n < 2 ^ 31 := by
  obtain ⟨j, hj, e⟩ := nI_of (x := x) (fun q => by have := (zc_lt (Y := 0) rfl (by decide)).mp q; omega)
  exact ⟨j, e, by rw [e]; exact nI_toInt hj, hj⟩
theorem z_x15 : ∀ n, n < 6 → 0 ≤ (nI n ^^^ 1).toInt ∧ (nI n ^^^ 1).toInt ≤ 5 := by decide +kernel
theorem zx15 {z x : Int32} {X : Int} (e : z = x ^^^ 1) (hx : x.toInt = X) (h : 0 ≤ X ∧ X ≤ 5) : 0 ≤ z.toInt ∧ z.toInt ≤ 5 := by
  obtain ⟨n, e1, e2, e3⟩ := z_nI (x := x) (by omega)
  rw [e, e1]; exact z_x15 n (by omega)
/-- 1 << y, y from 0 to 30 -/
theorem z_sh1 : ∀ n, n < 31 → ((1 : Int32) <<< (nI n &&& 31)).toInt = 2 ^ n := by decide +kernel
theorem zshl1 {z y : Int32} {Y : Int} (k : Nat) (e : z = 1 <<< (y &&& 31)) (hy : y.toInt = Y) (hk : k < 31) (h : 0 ≤ Y ∧ Y ≤ k) : 1 ≤ z.toInt ∧ z.toInt ≤ 2 ^ k := by
  obtain ⟨h1, h2⟩ := h
  obtain ⟨n, e1, e2, e3⟩ := z_nI (x := y) (by omega)
  have hn : n ≤ k := by omega
  have h3 : z.toInt = 2 ^ n := by rw [e, e1]; exact z_sh1 n (by omega)
  have h4 : (2 : Nat) ^ n ≤ 2 ^ k := Nat.pow_le_pow_right (by decide) hn
  have h5 : 1 ≤ (2 : Nat) ^ n := Nat.one_le_two_pow
  rw [h3]
  have h6 : ((2 : Nat) ^ n : Int) ≤ ((2 ^ k : Nat) : Int) := by exact_mod_cast h4
  have h7 : ((1 : Nat) : Int) ≤ ((2 ^ n : Nat) : Int) := by exact_mod_cast h5
  constructor
  · simpa using h7
  · simpa using h6
/-- x >> k of an x that is not below 0 -/
theorem zshr {z x y : Int32} {X : Int} (k : Nat) (e : z = x >>> (y &&& 31)) (hs : ((y &&& 31).toBitVec.smod 32).toNat = k) (hx : x.toInt = X) : z.toInt = X / 2 ^ k := by
  rw [e, pk_shr x (y &&& 31) k hs, hx, Int.shiftRight_eq_div_pow]
  rfl
theorem zdv {z x y : Int32} {X Y : Int} (e : z = x / y) (hx : x.toInt = X) (hy : y.toInt = Y) (h : 0 ≤ X ∧ 0 < Y) : z.toInt = X / Y := by
  rw [e, lg_idiv_nonneg (by omega) (by omega), hx, hy]
theorem zrm {z x y : Int32} {X Y : Int} (e : z = x - x / y * y) (hx : x.toInt = X) (hy : y.toInt = Y) (h : 0 ≤ X ∧ 0 < Y) : z.toInt = X % Y := by
  obtain ⟨h1, h2⟩ := h
  have d := lg_idiv_nonneg (x := x) (y := y) (by omega) (by omega)
  rw [hx, hy] at d
  have m0 := Int.emod_nonneg X (by omega : Y ≠ 0)
  have m1 := Int.emod_lt_of_pos X h2
  have m2 : Y * (X / Y) + X % Y = X := Int.mul_ediv_add_emod X Y
  have r := zr x
  have q1 : 0 ≤ X / Y * Y := Int.mul_nonneg (Int.ediv_nonneg h1 (by omega)) (by omega)
  have hm : (x / y * y).toInt = X / Y * Y := by
    have c : X / Y * Y = Y * (X / Y) := Int.mul_comm _ _
    exact zm rfl d hy ⟨by omega, by omega⟩
  have c : X / Y * Y = Y * (X / Y) := Int.mul_comm _ _
  rw [zs (z := z) e hx hm ⟨by omega, by omega⟩]
  omega
theorem zne0 {y : Int32} {Y : Int} (hy : y.toInt = Y) (h : ¬ Y = 0) : ¬ y = 0 := fun q => h (by rw [← hy, q]; rfl)
theorem z01 {v : Int32} {X : Int} (hv : v.toInt = X) (h : 0 ≤ X ∧ X ≤ 1) : narrow .boolean (.int v) = .int v := by
  have h1 : v = 0 ∨ v = 1 := by
    rcases (show X = 0 ∨ X = 1 by omega) with q | q
    · exact Or.inl ((zc_eq hv (by decide)).mpr q)
    · exact Or.inr ((zc_eq hv (by decide)).mpr q)
  rcases h1 with q | q <;> (rw [q]; rfl)
theorem zrm0 {z x y : Int32} {X Y : Int} (e : z = x - x / y * y) (hx : x.toInt = X) (hy : y.toInt = Y) (h : 0 ≤ X ∧ 0 < Y) : 0 ≤ z.toInt ∧ z.toInt < Y := by
  rw [zrm e hx hy h]; exact ⟨Int.emod_nonneg X (by omega), Int.emod_lt_of_pos X h.2⟩
theorem zdv0 {z x y : Int32} {X Y : Int} (e : z = x / y) (hx : x.toInt = X) (hy : y.toInt = Y) (h : 0 ≤ X ∧ 0 < Y) : 0 ≤ z.toInt := by
  rw [zdv e hx hy h]; exact Int.ediv_nonneg h.1 (by omega)
theorem zin {x : Int32} {X : Int} {n : Nat} (hx : x.toInt = X) (h : 0 ≤ X ∧ X < n) : vp_in x n := vp_in_iff.mpr (by rw [hx]; exact h)
theorem zmn {z x y : Int32} {X Y : Int} (e : z = if y < x then y else x) (hx : x.toInt = X) (hy : y.toInt = Y) : z.toInt ≤ X ∧ z.toInt ≤ Y ∧ (z.toInt = X ∨ z.toInt = Y) := by
  by_cases q : y < x
  · rw [if_pos q] at e; have := (zc_lt hy hx).mp q; rw [e, hy]; omega
  · rw [if_neg q] at e; have : ¬ Y < X := fun h => q ((zc_lt hy hx).mpr h)
    rw [e, hx]; omega
theorem zmx {z x y : Int32} {X Y : Int} (e : z = if x < y then y else x) (hx : x.toInt = X) (hy : y.toInt = Y) : X ≤ z.toInt ∧ Y ≤ z.toInt ∧ (z.toInt = X ∨ z.toInt = Y) := by
  by_cases q : x < y
  · rw [if_pos q] at e; have := (zc_lt hx hy).mp q; rw [e, hy]; omega
  · rw [if_neg q] at e; have : ¬ X < Y := fun h => q ((zc_lt hx hy).mpr h)
    rw [e, hx]; omega
theorem znl {x : Int32} {X : Int} (hx : x.toInt = X) (h : 0 ≤ X) : ¬ x < 0 := fun q => by have := (zc_lt (Y := 0) hx (by decide)).mp q; omega
theorem zcp {a n : Int32} {S N : Int} {m : Nat} (ha : a.toInt = S) (hn : n.toInt = N) (h : 0 ≤ S ∧ 0 ≤ N ∧ S + N ≤ m) : a.toNatClampNeg + n.toNatClampNeg ≤ m := by
  show a.toInt.toNat + n.toInt.toNat ≤ m
  rw [ha, hn]; omega
/-- an accepted part: each flange hangs on one told ahead of it, its radius is one -/
def pOK (cnt : Int32) (par rad : Nat → Int32) : Prop := ∀ k : Nat, 1 ≤ k → (k : Int) < cnt.toInt → 0 ≤ (par k).toInt ∧ (par k).toInt < k ∧ 1 ≤ (rad k).toInt ∧ (rad k).toInt ≤ 9
theorem pOK.at {cnt : Int32} {par rad : Nat → Int32} (h : pOK cnt par rad) {j : Int32} {J N : Int} (hj : j.toInt = J) (hc : cnt.toInt = N) (hb : 1 ≤ J ∧ J < N) : 0 ≤ (par j.toNatClampNeg).toInt ∧ (par j.toNatClampNeg).toInt < J ∧ 1 ≤ (rad j.toNatClampNeg).toInt ∧ (rad j.toNatClampNeg).toInt ≤ 9 := by
  have hk : ((j.toNatClampNeg : Nat) : Int) = J := by
    show ((j.toInt.toNat : Nat) : Int) = J
    omega
  have := h j.toNatClampNeg (by omega) (by omega)
  omega
/-- a row of bends: those that count are bends -/
def pRow (len : Int32) (row : Nat → Int32) : Prop := ∀ k : Nat, (k : Int) < len.toInt → 1 ≤ (row k).toInt ∧ (row k).toInt ≤ 8
theorem pRow.zero {len : Int32} {row : Nat → Int32} (h : len.toInt ≤ 0) : pRow len row := fun k hk => by omega
theorem pRow.app {len len2 x : Int32} {row row2 : Nat → Int32} {X : Int} (h : pRow len row) (e : row2 = upd row len.toNatClampNeg x) (h0 : 0 ≤ len.toInt) (hl : len2.toInt = len.toInt + 1) (hx : x.toInt = X) (hb : 1 ≤ X ∧ X ≤ 8) : pRow len2 row2 := by
  intro k hk
  have hc : ((len.toNatClampNeg : Nat) : Int) = len.toInt := by
    show ((len.toInt.toNat : Nat) : Int) = len.toInt
    omega
  rw [e]
  by_cases q : k = len.toNatClampNeg
  · rw [q, pk_us, hx]; exact hb
  · rw [pk_un q]; exact h k (by omega)
theorem pRow.at {len : Int32} {row : Nat → Int32} (h : pRow len row) {j : Int32} {J N : Int} (hj : j.toInt = J) (hl : len.toInt = N) (hb : 0 ≤ J ∧ J < N) : 1 ≤ (row j.toNatClampNeg).toInt ∧ (row j.toNatClampNeg).toInt ≤ 8 := by
  have hk : ((j.toNatClampNeg : Nat) : Int) = J := by
    show ((j.toInt.toNat : Nat) : Int) = J
    omega
  exact h j.toNatClampNeg (by omega)
/-- rows of History: each first number is a state -/
def hI (f : Nat → Int32) : Prop := ∀ k : Nat, k % 12 = 0 → 0 ≤ (f k).toInt ∧ (f k).toInt ≤ 255
theorem hI.up {f f2 : Nat → Int32} {j x : Int32} {J X : Int} (h : hI f) (e : f2 = upd f j.toNatClampNeg x) (hj : j.toInt = J) (hx : x.toInt = X) (hb : 0 ≤ J ∧ (¬ J % 12 = 0 ∨ (0 ≤ X ∧ X ≤ 255))) : hI f2 := by
  intro k hk
  have hc : ((j.toNatClampNeg : Nat) : Int) = J := by
    show ((j.toInt.toNat : Nat) : Int) = J
    omega
  rw [e]
  by_cases q : k = j.toNatClampNeg
  · rw [q, pk_us, hx]
    rcases hb.2 with z | z
    · exact absurd (by omega) z
    · exact z
  · rw [pk_un q]; exact h k hk
theorem hI.at {f : Nat → Int32} (h : hI f) {j z : Int32} {J : Int} (e : z = f j.toNatClampNeg) (hj : j.toInt = J) (hb : 0 ≤ J ∧ J % 12 = 0) : 0 ≤ z.toInt ∧ z.toInt ≤ 255 := by
  have hc : ((j.toNatClampNeg : Nat) : Int) = J := by
    show ((j.toInt.toNat : Nat) : Int) = J
    omega
  rw [e]; exact h _ (by omega)
theorem hI.cp {f0 f f2 : Nat → Int32} {sp dp n : Int32} {D N : Int} (h : hI f) (e : f2 = va_cpy f0 f sp.toNatClampNeg dp.toNatClampNeg n.toNatClampNeg) (hd : dp.toInt = D) (hn : n.toInt = N) (hb : 0 ≤ D ∧ D % 12 = 3 ∧ 0 ≤ N ∧ N ≤ 9) : hI f2 := by
  intro k hk
  have hc : ((dp.toNatClampNeg : Nat) : Int) = D := by
    show ((dp.toInt.toNat : Nat) : Int) = D
    omega
  have hc2 : ((n.toNatClampNeg : Nat) : Int) = N := by
    show ((n.toInt.toNat : Nat) : Int) = N
    omega
  rw [e, pk_cpy_out (by omega)]; exact h k hk
def pChr (v : Int32) : Prop := narrow .char (.int v) = .int v
theorem pChr.of {v x : Int32} (e : v = (x.toUInt32 % 65536).toInt32) : pChr v := by rw [e]; exact pk_nc x
/-- so far no fault: then what is read so far is well -/
def pOKf (fa cnt : Int32) (par rad : Nat → Int32) : Prop := fa.toInt = 0 → pOK cnt par rad
theorem pOKf.small {fa cnt : Int32} {par rad : Nat → Int32} (h : cnt.toInt ≤ 1) : pOKf fa cnt par rad := fun _ k h1 h2 => by omega
theorem pOKf.mono {fa fa2 cnt : Int32} {par rad : Nat → Int32} {F F2 : Int} (h : pOKf fa cnt par rad) (h1 : fa.toInt = F) (h2 : fa2.toInt = F2) (hm : ¬ F2 = 0 ∨ F = 0) : pOKf fa2 cnt par rad := fun q => h (by omega)
theorem pOKf.app {fa fa2 cnt cnt2 x y : Int32} {par rad par2 rad2 : Nat → Int32} {F F2 X Y N : Int} (h : pOKf fa cnt par rad) (e1 : par2 = upd par cnt.toNatClampNeg x) (e2 : rad2 = upd rad cnt.toNatClampNeg y) (h1 : fa.toInt = F) (h2 : fa2.toInt = F2) (hx : x.toInt = X) (hy : y.toInt = Y) (hc : cnt.toInt = N) (hc2 : cnt2.toInt = N + 1) (hm : 0 ≤ N ∧ (¬ F2 = 0 ∨ (F = 0 ∧ 1 ≤ Y ∧ Y ≤ 9)) ∧ 0 ≤ X ∧ (X = 0 ∨ X < N)) : pOKf fa2 cnt2 par2 rad2 := by
  intro q k k1 k2
  have hk : ((cnt.toNatClampNeg : Nat) : Int) = N := by
    show ((cnt.toInt.toNat : Nat) : Int) = N
    omega
  rw [e1, e2]
  by_cases z : k = cnt.toNatClampNeg
  · rw [z, pk_us, pk_us, hx, hy]; omega
  · rw [pk_un z, pk_un z]; exact h (by omega) k k1 (by omega)
theorem zdec {a b n : Nat} (h : a < n + 1) (h2 : b < a) : b < n := by omega
/-- a row whose numbers all lie between two -/
def aI (lo hi : Int) (f : Nat → Int32) : Prop := ∀ k : Nat, lo ≤ (f k).toInt ∧ (f k).toInt ≤ hi
theorem aI.up {lo hi : Int} {f f2 : Nat → Int32} {k : Nat} {x : Int32} {X : Int} (h : aI lo hi f) (e : f2 = upd f k x) (hx : x.toInt = X) (hb : lo ≤ X ∧ X ≤ hi) : aI lo hi f2 := by
  intro j
  rw [e]
  by_cases q : j = k
  · rw [q, pk_us, hx]; exact hb
  · rw [pk_un q]; exact h j
theorem aI.at {lo hi : Int} {f : Nat → Int32} (h : aI lo hi f) {k : Nat} {z : Int32} (e : z = f k) : lo ≤ z.toInt ∧ z.toInt ≤ hi := by rw [e]; exact h k
theorem aI.zero {lo hi : Int} (h : lo ≤ 0 ∧ 0 ≤ hi) : aI lo hi (fun _ => 0) := fun _ => h
theorem z_pw : ∀ n, n < 9 → (zPow.getD n 0).toInt = 3 ^ n := by decide +kernel
theorem zpowb {z j : Int32} {J : Int} (lo hi : Nat) (e : z = zPow.getD j.toNatClampNeg 0) (hj : j.toInt = J) (h : (lo : Int) ≤ J ∧ J ≤ hi) (h8 : hi ≤ 8) : (3 ^ lo : Int) ≤ z.toInt ∧ z.toInt ≤ 3 ^ hi := by
  have hk : ((j.toNatClampNeg : Nat) : Int) = J := by
    show ((j.toInt.toNat : Nat) : Int) = J
    omega
  rw [e, z_pw _ (by omega)]
  have a1 : (3 : Nat) ^ lo ≤ 3 ^ j.toNatClampNeg := Nat.pow_le_pow_right (by decide) (by omega)
  have a2 : (3 : Nat) ^ j.toNatClampNeg ≤ 3 ^ hi := Nat.pow_le_pow_right (by decide) (by omega)
  constructor
  · exact_mod_cast a1
  · exact_mod_cast a2
section ZP
variable {p : Program} {l : Launch} {e : Env} {R : Room} {s : State} {m : MethodId} {args : Array Value} {below : List Frame} {meth : Method} {c : Code} {H : Heap} {locs : List Loc} {cells slots : Nat} {Q : State → Prop} {pc : Nat} {ls : Array Slot} {rest : List Value} {g : zL} {A : Nat → Prop} {cc : ByteArray}
theorem zpow (hx : p.tables.exec = Jvm.exec) (hb : c.code = cc) (hX : zX g A s s.heap) (hS : va_S A s.heap H locs) {j : Int32} {J : Int} (hj : j.toInt = J) (h : 0 ≤ J ∧ J ≤ 8) (hd : decode cc pc = .ok (.iaload, 1))
    (kk : W p l e R s m args below meth c H locs cells slots Q (F0 m (pc + 1) ls (.int (zPow.getD j.toNatClampNeg 0) :: rest))) : W p l e R s m args below meth c H locs cells slots Q (F0 m pc ls (.int j :: .ref g.2.2.2.2 :: rest)) :=
  va_ti hx hb hX.2.2.2.2.2.2.1 hS (zin hj (by omega)) rfl hd kk
end ZP
/-- the body of a contract with its end as a hypothesis -/
theorem zCi.mk2 {S : Type} {l : Launch} {g : zL} {y : MethodName} {cc : ByteArray} {mL : Nat} {ty : FieldType} {rm : Room} {av : List Value} {wc : va_W} {post : Int32 → S → Prop} {w' : S → va_W} (hy : plainName y.cls = true) (hn : (lg_sl av).length ≤ mL)
    (body : ∀ (p : Program) (e : Env) (s : State) (m : MethodId) (below : List Frame) (meth : Method) (c : Code) (A : Nat → Prop) (args : Array Value) (Q : State → Prop), zE p s m meth c g A y cc mL (some ty) args →
      (∀ {H : Heap} {locs : List Loc} {cells slots pc : Nat} {ls : Array Slot} (v : Int32) (u : S), cells ≤ rm.cells → slots ≤ rm.slots → narrow ty (.int v) = .int v → post v u → va_P g.1 vwCl (w' u) H → va_D A (w' u) → va_S A s.heap H locs → decode cc pc = .ok (.ireturn, 1) → W p l e rm s m args below meth c H locs cells slots Q (F0 m pc ls [.int v])) →
      va_P g.1 vwCl wc s.heap → va_D A wc → va_S A s.heap s.heap [] → ∀ ls : Array Slot, lv_has ls mL (lv_args 0 av) → W p l e rm s m args below meth c s.heap [] 0 0 Q (F0 m 0 ls [])) : zCi l g y cc mL (some ty) rm av wc post w' := by
  refine zCi.mk hy hn ?_
  intro p e s m below meth c A hE hP hD hS ls hl
  refine body p e s m below meth c A _ _ hE ?_ hP hD hS ls hl
  intro H locs cells slots pc ls v u hc hs hnr hp hP hD hS hd
  exact zrz u hE.1 hE.2.1 hE.2.2.1 hE.2.2.2.2.2.2.1 hnr hc hs hp hP hD hS hd
theorem zCv.mk2 {S : Type} {l : Launch} {g : zL} {y : MethodName} {cc : ByteArray} {mL : Nat} {rm : Room} {av : List Value} {wc : va_W} {post : S → Prop} {w' : S → va_W} (hy : plainName y.cls = true) (hn : (lg_sl av).length ≤ mL)
    (body : ∀ (p : Program) (e : Env) (s : State) (m : MethodId) (below : List Frame) (meth : Method) (c : Code) (A : Nat → Prop) (args : Array Value) (Q : State → Prop), zE p s m meth c g A y cc mL none args →
      (∀ {H : Heap} {locs : List Loc} {cells slots pc : Nat} {ls : Array Slot} (u : S), cells ≤ rm.cells → slots ≤ rm.slots → post u → va_P g.1 vwCl (w' u) H → va_D A (w' u) → va_S A s.heap H locs → decode cc pc = .ok (.return_, 1) → W p l e rm s m args below meth c H locs cells slots Q (F0 m pc ls [])) →
      va_P g.1 vwCl wc s.heap → va_D A wc → va_S A s.heap s.heap [] → ∀ ls : Array Slot, lv_has ls mL (lv_args 0 av) → W p l e rm s m args below meth c s.heap [] 0 0 Q (F0 m 0 ls [])) : zCv l g y cc mL none rm av wc post w' := by
  refine zCv.mk hy hn ?_
  intro p e s m below meth c A hE hP hD hS ls hl
  refine body p e s m below meth c A _ _ hE ?_ hP hD hS ls hl
  intro H locs cells slots pc ls u hc hs hp hP hD hS hd
  exact zrv u hE.1 hE.2.1 hE.2.2.1 hE.2.2.2.2.2.2.1 hc hs hp hP hD hS hd
