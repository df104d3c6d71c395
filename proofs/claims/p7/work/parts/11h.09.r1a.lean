theorem xie {a b : Int32} (h : a.toInt = b.toInt) : a = b := Int32.toInt_inj.mp h
/-- a text of n bytes; -1 outside -/
def TXB (B : Int → Int) (n : Int) : Prop := 0 ≤ n ∧ n ≤ 1200 ∧ (∀ p, p < 0 → B p = -1) ∧ (∀ p, n ≤ p → B p = -1) ∧ (∀ p, 0 ≤ p → p < n → 0 ≤ B p ∧ B p ≤ 255)
def cTB (f : Nat → Int32) (len : Int32) (B : Int → Int) : Prop := TXB B len.toInt ∧ ∀ p : Int, 0 ≤ p → p < len.toInt → (f p.toNat &&& 255).toInt = B p
def rTB (f : Nat → Int32) (len : Int32) (B : Int → Int) : Prop := TXB B len.toInt ∧ ∀ p : Int, 0 ≤ p → p < len.toInt → gG f p = B p
/-- from a on blanks up to b -/
def isSk (B : Int → Int) (a b : Int) : Prop := a ≤ b ∧ (∀ p, a ≤ p → p < b → (B p = 32 ∨ B p = 10)) ∧ ¬ (B b = 32 ∨ B b = 10)
def isWd (B : Int → Int) (a b : Int) : Prop := a ≤ b ∧ (∀ p, a ≤ p → p < b → (97 ≤ B p ∧ B p ≤ 122)) ∧ ¬ (97 ≤ B b ∧ B b ≤ 122)
theorem isSk.uq {B : Int → Int} {a b c : Int} (h : isSk B a b) (k : isSk B a c) : b = c := by
  rcases Int.lt_trichotomy b c with q | q | q
  · exact absurd (k.2.1 b h.1 q) h.2.2
  · exact q
  · exact absurd (h.2.1 c k.1 q) k.2.2
theorem isWd.uq {B : Int → Int} {a b c : Int} (h : isWd B a b) (k : isWd B a c) : b = c := by
  rcases Int.lt_trichotomy b c with q | q | q
  · exact absurd (k.2.1 b h.1 q) h.2.2
  · exact q
  · exact absurd (h.2.1 c k.1 q) k.2.2
/-- the bytes from a up to b are the i-th word -/
def WIs (B : Int → Int) (a b : Int) (i : Nat) (L : Int) : Prop := b - a = L ∧ ∀ j : Int, 0 ≤ j → j < L → B (a + j) = chZ i j
theorem z127 : ∀ n, n < 128 → ((Int32.ofNat n &&& 255).toUInt32 % 65536).toInt32 = Int32.ofNat n := by decide +kernel
theorem zSb_all : ∀ l ∈ zSb, ∀ x ∈ l, 0 ≤ x.toInt ∧ x.toInt ≤ 127 := by decide +kernel
theorem chZ_b (i : Nat) (j : Int) : 0 ≤ chZ i j ∧ chZ i j ≤ 127 := by
  unfold chZ
  have e0 : (0 : Int32).toInt = 0 := by decide
  rw [List.getD_eq_getElem?_getD, List.getD_eq_getElem?_getD]
  rcases h : zSb[i]? with _ | l
  · simp [e0]
  · simp only [Option.getD_some]
    rcases h2 : l[j.toNat]? with _ | x
    · simp [e0]
    · simp only [Option.getD_some]
      exact zSb_all l (List.mem_of_getElem? h) x (List.mem_of_getElem? h2)
theorem zch {z w r : Int32} (h0 : 0 ≤ z.toInt ∧ z.toInt ≤ 127) (h1 : w = z &&& 255) (h2 : r = (w.toUInt32 % 65536).toInt32) : r.toInt = z.toInt := by
  have e : z = Int32.ofNat z.toInt.toNat := by
    apply xie; rw [Int32.toInt_ofNat_of_lt (by omega)]; omega
  have q := z127 z.toInt.toNat (by omega)
  rw [← e] at q
  rw [h2, h1, q]
theorem c_at {x1 : Int32} {h0_length : Int32} {f_h0_bytes : (Nat → Int32)} {o_r : Int32} (h : S_T_at x1 h0_length f_h0_bytes o_r) {B : Int → Int} (c : cTB f_h0_bytes h0_length B) : o_r.toInt = B x1.toInt := by
  rcases h with ⟨p0, e0⟩ | ⟨p0, p1, e0⟩ | ⟨z4, z6, p0, p1, p2, p3, p4, e0⟩ | h
  · rw [e0, c.1.2.2.1 _ p0]
  · rw [e0, c.1.2.2.2.1 _ p1]
  · have q : z4 = f_h0_bytes x1.toInt.toNat := xie p2
    rw [e0, p3, q, c.2 _ (by omega) (by omega)]
  · exact h.elim
theorem c_isLetter {x1 : Int32} {o_r : Int32} (h : S_R_isLetter x1 o_r)  : ((o_r.toInt = 1 ∧ 97 ≤ x1.toInt ∧ x1.toInt ≤ 122) ∨ (o_r.toInt = 0 ∧ ¬ (97 ≤ x1.toInt ∧ x1.toInt ≤ 122))) := by
  rcases h with ⟨p0, e0⟩ | ⟨p0, p1, e0⟩ | ⟨p0, p1, e0⟩ | h
  · omega
  · omega
  · omega
  · exact h.elim
theorem c_isDigit {x1 : Int32} {o_r : Int32} (h : S_R_isDigit x1 o_r)  : ((o_r.toInt = 1 ∧ 48 ≤ x1.toInt ∧ x1.toInt ≤ 57) ∨ (o_r.toInt = 0 ∧ ¬ (48 ≤ x1.toInt ∧ x1.toInt ≤ 57))) := by
  rcases h with ⟨p0, e0⟩ | ⟨p0, p1, e0⟩ | ⟨p0, p1, e0⟩ | h
  · omega
  · omega
  · omega
  · exact h.elim
theorem c_fail {x1 : Int32} {x2 : Int32} {h0_fault : Int32} {h0_place : Int32} {o_u_h0_fault : Int32} {o_u_h0_place : Int32} (h : S_R_fail x1 x2 h0_fault h0_place o_u_h0_fault o_u_h0_place)  : ((¬ h0_fault.toInt = 0 ∧ o_u_h0_fault.toInt = h0_fault.toInt ∧ o_u_h0_place.toInt = h0_place.toInt) ∨ (h0_fault.toInt = 0 ∧ o_u_h0_fault.toInt = x1.toInt ∧ o_u_h0_place.toInt = x2.toInt)) := by
  rcases h with ⟨p0, e0, e1⟩ | ⟨p0, e0, e1⟩ | h
  · omega
  · omega
  · exact h.elim
theorem j_skip1 {f_h0_tape_bytes : (Nat → Int32)} {h0_tape_length : Int32} {r133 : Int32} {v71 : Int32}  (h : J_R_skipBlanks_46_3 f_h0_tape_bytes h0_tape_length r133 v71) {B : Int → Int} (c : cTB f_h0_tape_bytes h0_tape_length B) : r133.toInt = 32 ∨ B v71.toInt = 10 := by
  rcases h with p0 | ⟨r147, p0, p1, p2, p3⟩ | h
  · omega
  · have k2 := c_at p2 c
    omega
  · exact h.elim
theorem i_skip {f_h0_tape_bytes : (Nat → Int32)} {h0_at : Int32} {h0_tape_length : Int32} {v71 : Int32} (h : I_R_skipBlanks_0_1 f_h0_tape_bytes h0_at h0_tape_length v71) {B : Int → Int} (c : cTB f_h0_tape_bytes h0_tape_length B) : h0_at.toInt ≤ v71.toInt ∧ ∀ p, h0_at.toInt ≤ p → p < v71.toInt → (B p = 32 ∨ B p = 10) := by
  refine I_R_skipBlanks_0_1.ind (Q_ := fun v71 => h0_at.toInt ≤ v71.toInt ∧ ∀ p, h0_at.toInt ≤ p → p < v71.toInt → (B p = 32 ∨ B p = 10)) ?_ ?_ h
  · exact ⟨Int.le_refl _, fun p h1 h2 => absurd h2 (by omega)⟩
  · intro v71 r133 z143 hp ih p0 p1 p2 p3 p4
    have k2 := c_at p2 c
    have k3 := j_skip1 p3 c
    refine ⟨by omega, fun p h1 h2 => ?_⟩
    by_cases e : p = v71.toInt
    · subst e; omega
    · exact ih.2 p h1 (by omega)
theorem j_skip2 {f_h0_tape_bytes : (Nat → Int32)} {h0_tape_length : Int32} {v71 : Int32}  (h : J_R_skipBlanks_59_2 f_h0_tape_bytes h0_tape_length v71) {B : Int → Int} (c : cTB f_h0_tape_bytes h0_tape_length B) : ¬ (B v71.toInt = 32 ∨ B v71.toInt = 10) := by
  rcases h with p0 | ⟨r133, r147, p0, p1, p2, p3, p4, p5, p6⟩ | h
  · have b0 := c.1.2.2.2.1 _ p0
    omega
  · have k2 := c_at p2 c
    have k5 := c_at p5 c
    omega
  · exact h.elim
theorem c_skip {h0_at : Int32} {h0_tape_length : Int32} {f_h0_tape_bytes : (Nat → Int32)} {o_u_h0_at : Int32} {o_u_h0_tokenStart : Int32} (h : S_R_skipBlanks h0_at h0_tape_length f_h0_tape_bytes o_u_h0_at o_u_h0_tokenStart) {B : Int → Int} (c : cTB f_h0_tape_bytes h0_tape_length B) : isSk B h0_at.toInt o_u_h0_at.toInt ∧ o_u_h0_tokenStart.toInt = o_u_h0_at.toInt := by
  rcases h with ⟨v71, p0, p1, p2, e0, e1⟩ | h
  · have k0 := i_skip p0 c
    have k2 := j_skip2 p2 c
    refine ⟨?_, by omega⟩
    rw [e0]
    exact ⟨k0.1, k0.2, k2⟩
  · exact h.elim
theorem j_skip1w {f_h0_tape_bytes : (Nat → Int32)} {h0_tape_length : Int32} {r133 : Int32} {v71 : Int32}  (h : J_R_skipBlanksw_46_3 f_h0_tape_bytes h0_tape_length r133 v71) {B : Int → Int} (c : cTB f_h0_tape_bytes h0_tape_length B) : r133.toInt = 32 ∨ B v71.toInt = 10 := by
  rcases h with p0 | ⟨r147, p0, p1, p2, p3⟩ | h
  · omega
  · have k2 := c_at p2 c
    omega
  · exact h.elim
theorem i_skipw {f_h0_tape_bytes : (Nat → Int32)} {h0_at : Int32} {h0_tape_length : Int32} {v71 : Int32} (h : I_R_skipBlanksw_0_1 f_h0_tape_bytes h0_at h0_tape_length v71) {B : Int → Int} (c : cTB f_h0_tape_bytes h0_tape_length B) : h0_at.toInt ≤ v71.toInt ∧ ∀ p, h0_at.toInt ≤ p → p < v71.toInt → (B p = 32 ∨ B p = 10) := by
  refine I_R_skipBlanksw_0_1.ind (Q_ := fun v71 => h0_at.toInt ≤ v71.toInt ∧ ∀ p, h0_at.toInt ≤ p → p < v71.toInt → (B p = 32 ∨ B p = 10)) ?_ ?_ h
  · exact ⟨Int.le_refl _, fun p h1 h2 => absurd h2 (by omega)⟩
  · intro v71 r133 z143 hp ih p0 p1 p2 p3 p4
    have k2 := c_at p2 c
    have k3 := j_skip1w p3 c
    refine ⟨by omega, fun p h1 h2 => ?_⟩
    by_cases e : p = v71.toInt
    · subst e; omega
    · exact ih.2 p h1 (by omega)
theorem j_skip2w {f_h0_tape_bytes : (Nat → Int32)} {h0_tape_length : Int32} {v71 : Int32}  (h : J_R_skipBlanksw_59_2 f_h0_tape_bytes h0_tape_length v71) {B : Int → Int} (c : cTB f_h0_tape_bytes h0_tape_length B) : ¬ (B v71.toInt = 32 ∨ B v71.toInt = 10) := by
  rcases h with p0 | ⟨r133, r147, p0, p1, p2, p3, p4, p5, p6⟩ | h
  · have b0 := c.1.2.2.2.1 _ p0
    omega
  · have k2 := c_at p2 c
    have k5 := c_at p5 c
    omega
  · exact h.elim
theorem c_skipw {h0_at : Int32} {h0_tape_length : Int32} {f_h0_tape_bytes : (Nat → Int32)} {o_u_h0_at : Int32} {o_u_h0_tokenStart : Int32} (h : S_R_skipBlanksw h0_at h0_tape_length f_h0_tape_bytes o_u_h0_at o_u_h0_tokenStart) {B : Int → Int} (c : cTB f_h0_tape_bytes h0_tape_length B) : isSk B h0_at.toInt o_u_h0_at.toInt ∧ o_u_h0_tokenStart.toInt = o_u_h0_at.toInt := by
  rcases h with ⟨v71, p0, p1, p2, e0, e1⟩ | h
  · have k0 := i_skipw p0 c
    have k2 := j_skip2w p2 c
    refine ⟨?_, by omega⟩
    rw [e0]
    exact ⟨k0.1, k0.2, k2⟩
  · exact h.elim
theorem c_more {h0_at : Int32} {h0_tape_length : Int32} {f_h0_tape_bytes : (Nat → Int32)} {o_u_h0_at : Int32} {o_u_h0_tokenStart : Int32} {o_r : Int32} (h : S_R_moreText h0_at h0_tape_length f_h0_tape_bytes o_u_h0_at o_u_h0_tokenStart o_r) {B : Int → Int} (c : cTB f_h0_tape_bytes h0_tape_length B) : isSk B h0_at.toInt o_u_h0_at.toInt ∧ o_u_h0_tokenStart.toInt = o_u_h0_at.toInt ∧ ((o_r.toInt = 1 ∧ o_u_h0_at.toInt < h0_tape_length.toInt) ∨ (o_r.toInt = 0 ∧ h0_tape_length.toInt ≤ o_u_h0_at.toInt)) := by
  rcases h with ⟨v3, v4, p0, p1, p2, p3, e0, e1, e2⟩ | ⟨v3, v4, p0, p1, p2, p3, e0, e1, e2⟩ | h
  · have k2 := c_skipw p2 c
    refine ⟨?_, by omega, by omega⟩
    rw [e0]
    exact k2.1
  · have k2 := c_skipw p2 c
    refine ⟨?_, by omega, by omega⟩
    rw [e0]
    exact k2.1
  · exact h.elim
theorem i_word {f_h0_tape_bytes : (Nat → Int32)} {h0_tape_length : Int32} {v3 : Int32} {v114 : Int32} (h : I_R_readWord_4_1 f_h0_tape_bytes h0_tape_length v3 v114) {B : Int → Int} (c : cTB f_h0_tape_bytes h0_tape_length B) : v3.toInt ≤ v114.toInt ∧ ∀ p, v3.toInt ≤ p → p < v114.toInt → (97 ≤ B p ∧ B p ≤ 122) := by
  refine I_R_readWord_4_1.ind (Q_ := fun v114 => v3.toInt ≤ v114.toInt ∧ ∀ p, v3.toInt ≤ p → p < v114.toInt → (97 ≤ B p ∧ B p ≤ 122)) ?_ ?_ h
  · exact ⟨Int.le_refl _, fun p h1 h2 => absurd h2 (by omega)⟩
  · intro v114 r226 r229 z233 hp ih p0 p1 p2 p3 p4 p5 p6
    have k2 := c_at p2 c
    have k4 := c_isLetter p4
    refine ⟨by omega, fun p h1 h2 => ?_⟩
    by_cases e : p = v114.toInt
    · subst e; omega
    · exact ih.2 p h1 (by omega)
theorem j_word1 {f_h0_tape_bytes : (Nat → Int32)} {h0_tape_length : Int32} {v114 : Int32}  (h : J_R_readWord_48_2 f_h0_tape_bytes h0_tape_length v114) {B : Int → Int} (c : cTB f_h0_tape_bytes h0_tape_length B) : ¬ (97 ≤ B v114.toInt ∧ B v114.toInt ≤ 122) := by
  rcases h with p0 | ⟨r226, r229, p0, p1, p2, p3, p4, p5⟩ | h
  · have b0 := c.1.2.2.2.1 _ p0
    omega
  · have k2 := c_at p2 c
    have k4 := c_isLetter p4
    omega
  · exact h.elim
theorem j_word2 {h0_tokenEnd : Int32} {v114 : Int32} {v4 : Int32}  (h : J_R_readWord_70_4 h0_tokenEnd v114 v4)  : v114.toInt = v4.toInt ∨ v4.toInt = h0_tokenEnd.toInt := by
  rcases h with p0 | ⟨p0, p1⟩ | h
  · omega
  · omega
  · exact h.elim
theorem j_word3 {h0_fault : Int32} {h0_place : Int32} {h0_tokenEnd : Int32} {v114 : Int32} {v4 : Int32} {v205 : Int32} {v206 : Int32} (h : J_R_readWord_79_3 h0_fault h0_place h0_tokenEnd v114 v4 v205 v206)  : (((v114.toInt = v4.toInt ∨ v4.toInt = h0_tokenEnd.toInt) ∧ ((¬ h0_fault.toInt = 0 ∧ v205.toInt = h0_fault.toInt ∧ v206.toInt = h0_place.toInt) ∨ (h0_fault.toInt = 0 ∧ v205.toInt = 1 ∧ v206.toInt = v4.toInt))) ∨ (¬ (v114.toInt = v4.toInt ∨ v4.toInt = h0_tokenEnd.toInt) ∧ v205.toInt = h0_fault.toInt ∧ v206.toInt = h0_place.toInt)) := by
  rcases h with ⟨v218, v219, p0, p1, p2, p3, e0, e1⟩ | ⟨p0, p1, e0, e1⟩ | h
  · have k0 := j_word2 p0
    have i1_ : (1 : Int32).toInt = 1 := by decide
    have k3 := c_fail p3
    have e1_ : (1 : Int32).toInt = 1 := by decide
    omega
  · have e1_ : (1 : Int32).toInt = 1 := by decide
    omega
  · exact h.elim
theorem c_word {h0_at : Int32} {h0_tokenEnd : Int32} {h0_fault : Int32} {h0_place : Int32} {h0_tape_length : Int32} {f_h0_tape_bytes : (Nat → Int32)} {o_u_h0_at : Int32} {o_u_h0_tokenStart : Int32} {o_u_h0_tokenEnd : Int32} {o_u_h0_fault : Int32} {o_u_h0_place : Int32} (h : S_R_readWord h0_at h0_tokenEnd h0_fault h0_place h0_tape_length f_h0_tape_bytes o_u_h0_at o_u_h0_tokenStart o_u_h0_tokenEnd o_u_h0_fault o_u_h0_place) {B : Int → Int} (c : cTB f_h0_tape_bytes h0_tape_length B) : isSk B h0_at.toInt o_u_h0_tokenStart.toInt ∧ isWd B o_u_h0_tokenStart.toInt o_u_h0_at.toInt ∧ o_u_h0_tokenEnd.toInt = o_u_h0_at.toInt ∧ (((o_u_h0_at.toInt = o_u_h0_tokenStart.toInt ∨ o_u_h0_tokenStart.toInt = h0_tokenEnd.toInt) ∧ ((¬ h0_fault.toInt = 0 ∧ o_u_h0_fault.toInt = h0_fault.toInt ∧ o_u_h0_place.toInt = h0_place.toInt) ∨ (h0_fault.toInt = 0 ∧ o_u_h0_fault.toInt = 1 ∧ o_u_h0_place.toInt = o_u_h0_tokenStart.toInt))) ∨ (¬ (o_u_h0_at.toInt = o_u_h0_tokenStart.toInt ∨ o_u_h0_tokenStart.toInt = h0_tokenEnd.toInt) ∧ o_u_h0_fault.toInt = h0_fault.toInt ∧ o_u_h0_place.toInt = h0_place.toInt)) := by
  rcases h with ⟨v3, v4, v114, v205, v206, p0, p1, p2, p3, p4, p5, p6, p7, e0, e1, e2, e3, e4⟩ | h
  · have k2 := c_skip p2 c
    have k3 := i_word p3 c
    have k5 := j_word1 p5 c
    have k6 := j_word3 p6
    refine ⟨?_, ?_, by omega, by omega⟩
    · rw [e1, k2.2]; exact k2.1
    · rw [e1, e0, k2.2]; exact ⟨k3.1, k3.2, k5⟩
  · exact h.elim
theorem num_f {F P te t a F1 P1 F2 P2 F3 P3 : Int} {Q4 Q6 : Prop} (k2 : (t = te ∧ ((¬ F = 0 ∧ F1 = F ∧ P1 = P) ∨ (F = 0 ∧ F1 = 1 ∧ P1 = t))) ∨ (¬ t = te ∧ F1 = F ∧ P1 = P)) (k4 : (Q4 ∧ ((¬ F1 = 0 ∧ F2 = F1 ∧ P2 = P1) ∨ (F1 = 0 ∧ F2 = 1 ∧ P2 = a))) ∨ (¬ Q4 ∧ F2 = F1 ∧ P2 = P1)) (k6 : (Q6 ∧ ((¬ F2 = 0 ∧ F3 = F2 ∧ P3 = P2) ∨ (F2 = 0 ∧ F3 = 2 ∧ P3 = t))) ∨ (¬ Q6 ∧ F3 = F2 ∧ P3 = P2)) : (¬ F = 0 ∧ F3 = F ∧ P3 = P) ∨ (F = 0 ∧ ((t = te ∧ F3 = 1 ∧ P3 = t) ∨ (¬ t = te ∧ Q4 ∧ F3 = 1 ∧ P3 = a) ∨ (¬ t = te ∧ ¬ Q4 ∧ Q6 ∧ F3 = 2 ∧ P3 = t) ∨ (¬ t = te ∧ ¬ Q4 ∧ ¬ Q6 ∧ F3 = 0 ∧ P3 = P))) := by
  by_cases hF : F = 0
  · refine .inr ⟨hF, ?_⟩
    rcases k2 with ⟨a1, a2⟩ | ⟨a1, a2, a3⟩
    · have f1 : F1 = 1 ∧ P1 = t := by omega
      have f2 : F2 = 1 ∧ P2 = t := by rcases k4 with ⟨_, b⟩ | ⟨_, b1, b2⟩ <;> omega
      have f3 : F3 = 1 ∧ P3 = t := by rcases k6 with ⟨_, b⟩ | ⟨_, b1, b2⟩ <;> omega
      exact .inl ⟨a1, f3.1, f3.2⟩
    · rcases k4 with ⟨b1, b2⟩ | ⟨b1, b2, b3⟩
      · have f2 : F2 = 1 ∧ P2 = a := by omega
        have f3 : F3 = 1 ∧ P3 = a := by rcases k6 with ⟨_, b⟩ | ⟨_, b1, b2⟩ <;> omega
        exact .inr (.inl ⟨a1, b1, f3.1, f3.2⟩)
      · rcases k6 with ⟨c1, c2⟩ | ⟨c1, c2, c3⟩
        · exact .inr (.inr (.inl ⟨a1, b1, c1, by omega, by omega⟩))
        · exact .inr (.inr (.inr ⟨a1, b1, c1, by omega, by omega⟩))
  · have f1 : F1 = F ∧ P1 = P := by rcases k2 with ⟨_, b⟩ | ⟨_, b1, b2⟩ <;> omega
    have f2 : F2 = F ∧ P2 = P := by rcases k4 with ⟨_, b⟩ | ⟨_, b1, b2⟩ <;> omega
    exact .inl ⟨hF, by rcases k6 with ⟨_, b⟩ | ⟨_, b1, b2⟩ <;> omega, by rcases k6 with ⟨_, b⟩ | ⟨_, b1, b2⟩ <;> omega⟩
