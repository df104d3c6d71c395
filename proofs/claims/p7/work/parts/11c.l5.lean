theorem z_shE : ∀ n, n < 9 → ((1 : Int32) <<< (nI n &&& 31)).toInt = 2 ^ n := fun n h => z_sh1 n (by omega)
theorem zshlE {z y : Int32} {Y : Int} (e : z = 1 <<< (y &&& 31)) (hy : y.toInt = Y) (h : 0 ≤ Y ∧ Y ≤ 8) : ((Y = 0 ∧ z.toInt = 1) ∨ (Y = 1 ∧ z.toInt = 2) ∨ (Y = 2 ∧ z.toInt = 4) ∨ (Y = 3 ∧ z.toInt = 8) ∨ (Y = 4 ∧ z.toInt = 16) ∨ (Y = 5 ∧ z.toInt = 32) ∨ (Y = 6 ∧ z.toInt = 64) ∨ (Y = 7 ∧ z.toInt = 128) ∨ (Y = 8 ∧ z.toInt = 256)) := by
  obtain ⟨n, e1, e2, e3⟩ := z_nI (x := y) (by omega)
  have h3 : z.toInt = 2 ^ n := by rw [e, e1]; exact z_shE n (by omega)
  have h4 : n = 0 ∨ n = 1 ∨ n = 2 ∨ n = 3 ∨ n = 4 ∨ n = 5 ∨ n = 6 ∨ n = 7 ∨ n = 8 := by omega
  rcases h4 with h4 | h4 | h4 | h4 | h4 | h4 | h4 | h4 | h4 <;> (rw [h4] at h3 e2; rw [h3]; omega)
theorem pNz.ux {n j x : Int32} {wx wy nm wx2 : Nat → Int32} {J N : Int} (h : pNz n wx wy nm) (e : wx2 = upd wx j.toNatClampNeg x) (hj : j.toInt = J) (hn : n.toInt = N) (hb : 0 ≤ J ∧ N ≤ J) : pNz n wx2 wy nm := by
  intro k hk
  have h1 := zcn hj hb.1
  rw [e, pk_un (by omega)]; exact h k hk
theorem pNz.uy {n j x : Int32} {wx wy nm wy2 : Nat → Int32} {J N : Int} (h : pNz n wx wy nm) (e : wy2 = upd wy j.toNatClampNeg x) (hj : j.toInt = J) (hn : n.toInt = N) (hb : 0 ≤ J ∧ N ≤ J) : pNz n wx wy2 nm := by
  intro k hk
  have h1 := zcn hj hb.1
  rw [e, pk_un (by omega)]; exact h k hk
theorem pNz.un {n j x : Int32} {wx wy nm nm2 : Nat → Int32} {J N : Int} (h : pNz n wx wy nm) (e : nm2 = upd nm j.toNatClampNeg x) (hj : j.toInt = J) (hn : n.toInt = N) (hb : 0 ≤ J ∧ N ≤ J) : pNz n wx wy nm2 := by
  intro k hk
  have h1 := zcn hj hb.1
  rw [e, pk_un (by omega)]; exact h k hk
theorem pNs.of {n x y z : Int32} {wx0 wy0 nm0 wx wy nm : Nat → Int32} {N X Y Z : Int} (h : pNz n wx wy nm) (e1 : wx = upd wx0 n.toNatClampNeg x) (e2 : wy = upd wy0 n.toNatClampNeg y) (e3 : nm = upd nm0 n.toNatClampNeg z) (hn : n.toInt = N) (hx : x.toInt = X) (hy : y.toInt = Y) (hz : z.toInt = Z) (hb : 0 ≤ N ∧ ¬ X = 0 ∧ ¬ Y = 0 ∧ ¬ Z = 0) : pNs n wx wy nm := by
  intro k hk
  have h1 := zcn hn hb.1
  by_cases c : k = n.toNatClampNeg
  · rw [e1, e2, e3, c, pk_us, pk_us, pk_us]; omega
  · exact h k (by omega)
theorem pNz.one {wx0 wy0 nm0 wx wy nm : Nat → Int32} {x y z : Int32} (e1 : wx = upd wx0 (0 : Int32).toNatClampNeg x) (e2 : wy = upd wy0 (0 : Int32).toNatClampNeg y) (e3 : nm = upd nm0 (0 : Int32).toNatClampNeg z) (hx : ¬ x.toInt = 0) (hy : ¬ y.toInt = 0) (hz : ¬ z.toInt = 0) : pNz 1 wx wy nm := by
  intro k hk
  have h1 : (1 : Int32).toInt = 1 := by decide
  have h2 : k = (0 : Int32).toNatClampNeg := by
    have : (0 : Int32).toNatClampNeg = 0 := by decide
    omega
  rw [e1, e2, e3, h2, pk_us, pk_us, pk_us]; exact ⟨hx, hy, hz⟩
theorem pAx.ofx {wx wy nm : Nat → Int32} {n j : Int32} {J N : Int} (h : pNz n wx wy nm) (hj : j.toInt = J) (hn : n.toInt = N) (hb : 0 ≤ J ∧ J < N) : pAx wx j := (h.at hj hn hb).1
theorem pAx.ofy {wx wy nm : Nat → Int32} {n j : Int32} {J N : Int} (h : pNz n wx wy nm) (hj : j.toInt = J) (hn : n.toInt = N) (hb : 0 ≤ J ∧ J < N) : pAx wy j := (h.at hj hn hb).2.1
theorem aB.lt {M X : Int} (h : aB M X) : ∃ k : Nat, k ≤ 8 ∧ X < 2 ^ k ∧ ∀ Y : Int, Y < 2 ^ k → aB M Y := by
  rcases h with ⟨a, b⟩ | ⟨a, b⟩ | ⟨a, b⟩ | ⟨a, b⟩ | ⟨a, b⟩ | ⟨a, b⟩ | ⟨a, b⟩ | ⟨a, b⟩ | ⟨a, b⟩
  · exact ⟨0, by omega, by omega, fun Y hY => by unfold aB; omega⟩
  · exact ⟨1, by omega, by omega, fun Y hY => by unfold aB; omega⟩
  · exact ⟨2, by omega, by omega, fun Y hY => by unfold aB; omega⟩
  · exact ⟨3, by omega, by omega, fun Y hY => by unfold aB; omega⟩
  · exact ⟨4, by omega, by omega, fun Y hY => by unfold aB; omega⟩
  · exact ⟨5, by omega, by omega, fun Y hY => by unfold aB; omega⟩
  · exact ⟨6, by omega, by omega, fun Y hY => by unfold aB; omega⟩
  · exact ⟨7, by omega, by omega, fun Y hY => by unfold aB; omega⟩
  · exact ⟨8, by omega, by omega, fun Y hY => by unfold aB; omega⟩
theorem aB.two {M X Y : Int} (h1 : aB M X) (h2 : aB M Y) : ∃ k : Nat, k ≤ 8 ∧ X < 2 ^ k ∧ Y < 2 ^ k ∧ ∀ Z : Int, Z < 2 ^ k → aB M Z := by
  rcases (show X ≤ Y ∨ Y ≤ X by omega) with q | q
  · obtain ⟨k, a, b, c⟩ := h2.lt
    exact ⟨k, a, Int.lt_of_le_of_lt q b, b, c⟩
  · obtain ⟨k, a, b, c⟩ := h1.lt
    exact ⟨k, a, b, Int.lt_of_le_of_lt q b, c⟩
theorem pA.ior {z x y m : Int32} {X Y : Int} (e : z = x ||| y) (hx : x.toInt = X) (hy : y.toInt = Y) (h1 : pA x m) (h2 : pA y m) (h : 0 ≤ X ∧ 0 ≤ Y) : pA z m := by
  unfold pA at h1 h2
  rw [hx] at h1; rw [hy] at h2
  obtain ⟨k, a, b, c, d⟩ := h1.two h2
  exact d _ (zor k e hx hy (by omega) ⟨h.1, b, h.2, c⟩).2
theorem pA.ixor {z x y m : Int32} {X Y : Int} (e : z = x ^^^ y) (hx : x.toInt = X) (hy : y.toInt = Y) (h1 : pA x m) (h2 : pA y m) (h : 0 ≤ X ∧ 0 ≤ Y) : pA z m := by
  unfold pA at h1 h2
  rw [hx] at h1; rw [hy] at h2
  obtain ⟨k, a, b, c, d⟩ := h1.two h2
  exact d _ (zxor k e hx hy (by omega) ⟨h.1, b, h.2, c⟩).2
theorem pA.sh {z y m : Int32} {Y M : Int} (e : z = 1 <<< (y &&& 31)) (hy : y.toInt = Y) (hm : m.toInt = M) (h : 0 ≤ Y ∧ Y + 1 < M ∧ M ≤ 9) : pA z m := by
  have h1 := zshlE e hy ⟨h.1, by omega⟩
  unfold pA aB
  rw [hm]
  obtain ⟨h2, h3, h4⟩ := h
  rcases h1 with ⟨a, c⟩ | ⟨a, c⟩ | ⟨a, c⟩ | ⟨a, c⟩ | ⟨a, c⟩ | ⟨a, c⟩ | ⟨a, c⟩ | ⟨a, c⟩ | ⟨a, c⟩ <;> (rw [c]; omega)
theorem pE.of {z y b m : Int32} {Y M : Int} (e : y = 1 <<< (b &&& 31)) (hz : z.toInt = y.toInt - 1) (hb : b.toInt = Y) (hm : m.toInt = M) (h : 0 ≤ Y ∧ Y ≤ 8 ∧ ((M ≤ 1 ∧ Y = 0) ∨ Y = M - 1)) : pE z m := by
  have h1 := zshlE e hb ⟨h.1, h.2.1⟩
  unfold pE aE
  rw [hm]
  obtain ⟨h2, h3, h4⟩ := h
  rcases h1 with ⟨a, c⟩ | ⟨a, c⟩ | ⟨a, c⟩ | ⟨a, c⟩ | ⟨a, c⟩ | ⟨a, c⟩ | ⟨a, c⟩ | ⟨a, c⟩ | ⟨a, c⟩
  · exact Or.inl ⟨by omega, by omega⟩
  · exact Or.inr (Or.inl ⟨by omega, by omega⟩)
  · exact Or.inr (Or.inr (Or.inl ⟨by omega, by omega⟩))
  · exact Or.inr (Or.inr (Or.inr (Or.inl ⟨by omega, by omega⟩)))
  · exact Or.inr (Or.inr (Or.inr (Or.inr (Or.inl ⟨by omega, by omega⟩))))
  · exact Or.inr (Or.inr (Or.inr (Or.inr (Or.inr (Or.inl ⟨by omega, by omega⟩)))))
  · exact Or.inr (Or.inr (Or.inr (Or.inr (Or.inr (Or.inr (Or.inl ⟨by omega, by omega⟩))))))
  · exact Or.inr (Or.inr (Or.inr (Or.inr (Or.inr (Or.inr (Or.inr (Or.inl ⟨by omega, by omega⟩)))))))
  · exact Or.inr (Or.inr (Or.inr (Or.inr (Or.inr (Or.inr (Or.inr (Or.inr (⟨by omega, by omega⟩))))))))
/-- the code of a state so far -/
def pC3 (b code : Int32) : Prop := 0 ≤ code.toInt ∧ 0 ≤ b.toInt ∧ b.toInt ≤ 8 ∧ code.toInt < 3 ^ (8 - b.toInt).toNat
theorem pC3.zero {b code : Int32} {B : Int} (hb : b.toInt = B) (hc : code.toInt = 0) (h : 0 ≤ B ∧ B ≤ 8) : pC3 b code := by
  refine ⟨by omega, by omega, by omega, ?_⟩
  rw [hc]
  have : (1 : Nat) ≤ 3 ^ (8 - b.toInt).toNat := Nat.one_le_iff_ne_zero.mpr (Nat.pos_iff_ne_zero.mp (Nat.pow_pos (by decide)))
  have h2 : ((1 : Nat) : Int) ≤ ((3 ^ (8 - b.toInt).toNat : Nat) : Int) := Int.ofNat_le.mpr this
  simp at h2
  omega
theorem pC3.step {b b2 code c2 : Int32} {V : Int} (h : pC3 b code) (hb : b2.toInt = b.toInt - 1) (h1 : 1 ≤ b.toInt) (hc : c2.toInt = 3 * code.toInt + V) (hv : 0 ≤ V ∧ V ≤ 2) : pC3 b2 c2 := by
  obtain ⟨a1, a2, a3, a4⟩ := h
  refine ⟨by omega, by omega, by omega, ?_⟩
  have e : (8 - b2.toInt).toNat = (8 - b.toInt).toNat + 1 := by omega
  rw [e, Int.pow_succ, hc]; omega
theorem pC3.le {b code : Int32} (h : pC3 b code) : 0 ≤ code.toInt ∧ code.toInt ≤ 6560 := by
  obtain ⟨a1, a2, a3, a4⟩ := h
  refine ⟨a1, ?_⟩
  have h1 : (3 : Nat) ^ (8 - b.toInt).toNat ≤ 3 ^ 8 := Nat.pow_le_pow_right (by decide) (by omega)
  have h2 : ((3 ^ (8 - b.toInt).toNat : Nat) : Int) ≤ ((3 ^ 8 : Nat) : Int) := Int.ofNat_le.mpr h1
  simp at h2
  omega
