theorem j_semi {h0_fault : Int32} {h0_place : Int32} {r8 : Int32} {v3 : Int32} {v19 : Int32} {v20 : Int32} (h : J_R_semicolon_29_1 h0_fault h0_place r8 v3 v19 v20)  : ((r8.toInt = 59 ∧ v19.toInt = h0_fault.toInt ∧ v20.toInt = h0_place.toInt) ∨ (¬ r8.toInt = 59 ∧ ((¬ h0_fault.toInt = 0 ∧ v19.toInt = h0_fault.toInt ∧ v20.toInt = h0_place.toInt) ∨ (h0_fault.toInt = 0 ∧ v19.toInt = 1 ∧ v20.toInt = v3.toInt)))) := by
  rcases h with ⟨p0, e0, e1⟩ | ⟨v34, v35, p0, p1, p2, p3, e0, e1⟩ | h
  · have e1_ : (1 : Int32).toInt = 1 := by decide
    omega
  · have i1_ : (1 : Int32).toInt = 1 := by decide
    have k3 := c_fail p3
    have e1_ : (1 : Int32).toInt = 1 := by decide
    omega
  · exact h.elim
theorem c_semi {h0_at : Int32} {h0_fault : Int32} {h0_place : Int32} {h0_tape_length : Int32} {f_h0_tape_bytes : (Nat → Int32)} {h0_into_statements : Int32} {o_u_h0_at : Int32} {o_u_h0_tokenStart : Int32} {o_u_h0_fault : Int32} {o_u_h0_place : Int32} {o_u_h0_into_statements : Int32} (h : S_R_semicolon h0_at h0_fault h0_place h0_tape_length f_h0_tape_bytes h0_into_statements o_u_h0_at o_u_h0_tokenStart o_u_h0_fault o_u_h0_place o_u_h0_into_statements) {B : Int → Int} (c : cTB f_h0_tape_bytes h0_tape_length B) : isSk B h0_at.toInt o_u_h0_tokenStart.toInt ∧ o_u_h0_at.toInt = o_u_h0_tokenStart.toInt + 1 ∧ ((B o_u_h0_tokenStart.toInt = 59 ∧ o_u_h0_fault.toInt = h0_fault.toInt ∧ o_u_h0_place.toInt = h0_place.toInt) ∨ (¬ B o_u_h0_tokenStart.toInt = 59 ∧ ((¬ h0_fault.toInt = 0 ∧ o_u_h0_fault.toInt = h0_fault.toInt ∧ o_u_h0_place.toInt = h0_place.toInt) ∨ (h0_fault.toInt = 0 ∧ o_u_h0_fault.toInt = 1 ∧ o_u_h0_place.toInt = o_u_h0_tokenStart.toInt)))) ∧ (o_u_h0_fault.toInt = 0 → o_u_h0_into_statements = h0_into_statements + 1) := by
  rcases h with ⟨v3, v4, r8, v19, v20, z25, p0, p1, p2, p3, p4, p5, p6, p7, p8, e0, e1, e2, e3, e4⟩ | ⟨v3, v4, r8, v19, v20, z25, z29, p0, p1, p2, p3, p4, p5, p6, p7, p8, p9, e0, e1, e2, e3, e4⟩ | h
  · have k2 := c_skip p2 c
    have k4 := c_at p4 c
    have k5 := j_semi p5
    have eB : B v3.toInt = B o_u_h0_tokenStart.toInt := congrArg B (by omega)
    refine ⟨?_, by omega, by omega, ?_⟩
    · rw [e1, k2.2]; exact k2.1
    · exact fun q => absurd q (by omega)
  · have k2 := c_skip p2 c
    have k4 := c_at p4 c
    have k5 := j_semi p5
    have eB : B v3.toInt = B o_u_h0_tokenStart.toInt := congrArg B (by omega)
    refine ⟨?_, by omega, by omega, ?_⟩
    · rw [e1, k2.2]; exact k2.1
    · exact fun q => (xie e4).trans p9
  · exact h.elim
def wst (n : Nat) : Int := [0, 6, 12, 17, 23, 28, 34, 41, 44, 50, 55, 61, 66, 71, 76, 81, 84, 89, 95].getD n 0
def wln (n : Nat) : Int := [5, 5, 4, 5, 4, 5, 6, 2, 5, 4, 5, 4, 4, 4, 4, 2, 4, 5].getD n 0
theorem w_tab : ∀ n, n < 18 → 2 ≤ wln n ∧ wln n ≤ 6 ∧ 0 ≤ wst n ∧ wst (n + 1) = wst n + wln n + 1 ∧ wst (n + 1) ≤ 95 ∧ chZ 7 (wst n + 1 + wln n) = 32 := by decide +kernel
theorem w_let : ∀ n, n < 18 → ∀ j : Nat, j < 6 → (j : Int) < wln n → 97 ≤ chZ 7 (wst n + 1 + (j : Int)) := by decide +kernel
theorem w_0 : wst 0 = 0 ∧ chZ 7 0 = 32 ∧ wst 18 = 95 := by decide +kernel
theorem w_let' {n : Nat} (h : n < 18) {j : Int} (h0 : 0 ≤ j) (h1 : j < wln n) : 97 ≤ chZ 7 (wst n + 1 + j) := by
  have q := w_let n h j.toNat (by have := w_tab n h; omega) (by omega)
  rwa [show ((j.toNat : Nat) : Int) = j by omega] at q
/-- the bytes from a up to b are the n-th own word -/
def OW (B : Int → Int) (a b : Int) (n : Nat) : Prop := b - a = wln n ∧ ∀ j : Int, 0 ≤ j → j < wln n → B (a + j) = chZ 7 (wst n + 1 + j)
