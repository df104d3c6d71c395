def pOwn (f : Nat → Int32) : Prop := ∀ k : Int, 0 ≤ k → k < 95 → gG f k = if chZ 7 (k + 1) = 32 then 0 else chZ 7 (k + 1) - 96
theorem pOwn.at {f : Nat → Int32} (h : pOwn f) {n : Nat} (hn : n < 18) {j : Int} (h0 : 0 ≤ j) (h1 : j ≤ wln n) : (j = wln n ∧ gG f (wst n + j) = 0) ∨ (j < wln n ∧ gG f (wst n + j) = chZ 7 (wst n + 1 + j) - 96 ∧ 1 ≤ gG f (wst n + j)) := by
  have w := w_tab n hn
  have q := h (wst n + j) (by omega) (by omega)
  rw [show wst n + j + 1 = wst n + 1 + j by omega] at q
  by_cases e : j = wln n
  · subst e
    rw [if_pos w.2.2.2.2.2] at q
    exact .inl ⟨rfl, q⟩
  · have l := w_let' hn h0 (by omega)
    rw [if_neg (by omega)] at q
    exact .inr ⟨by omega, q, by omega⟩
theorem i_o12 {f_h0_ownLetters : (Nat → Int32)} {f_h0_tape : (Nat → Int32)} {h0_at : Int32} {h0_from : Int32} {v4809 : Int32} {v5841 : Int32} (h : I_M_own_12_2 f_h0_ownLetters f_h0_tape h0_at h0_from v4809 v5841) {B : Int → Int} {sz_ : Int32} (c : rTB f_h0_tape sz_ B) (ho : pOwn f_h0_ownLetters) {n_ : Nat} (hn : n_ < 18) (hk : v4809.toInt = wst n_) (hf : 0 ≤ h0_from.toInt ∧ h0_from.toInt ≤ h0_at.toInt ∧ h0_at.toInt ≤ sz_.toInt) : 0 ≤ v5841.toInt ∧ v5841.toInt ≤ wln n_ ∧ h0_from.toInt + v5841.toInt ≤ h0_at.toInt ∧ ∀ j : Int, 0 ≤ j → j < v5841.toInt → B (h0_from.toInt + j) = chZ 7 (wst n_ + 1 + j) := by
  refine I_M_own_12_2.ind (Q_ := fun v5841 => 0 ≤ v5841.toInt ∧ v5841.toInt ≤ wln n_ ∧ h0_from.toInt + v5841.toInt ≤ h0_at.toInt ∧ ∀ j : Int, 0 ≤ j → j < v5841.toInt → B (h0_from.toInt + j) = chZ 7 (wst n_ + 1 + j)) ?_ ?_ h
  · have e0_ : (0 : Int32).toInt = 0 := by decide
    have w := w_tab n_ hn
    exact ⟨by omega, by omega, by omega, fun j h1 h2 => absurd h2 (by omega)⟩
  · intro v5841 z6021 z6024 z6183 z6187 z6190 z6193 z6196 z6199 z6203 hp ih p0 p1 p2 p3 p4 p5 p6 p7 p8 p9 p10 p11 p12
    rcases ho.at hn ih.1 ih.2.1 with o | o
    · skip
      have gz6024 : gG f_h0_ownLetters z6021.toInt = gG f_h0_ownLetters (wst n_ + v5841.toInt) := congrArg _ (by omega)
      exfalso; omega
    · skip
      have gz6024 : gG f_h0_ownLetters z6021.toInt = gG f_h0_ownLetters (wst n_ + v5841.toInt) := congrArg _ (by omega)
      have gz6190 := c.2 z6187.toInt (by omega) (by omega)
      have bz6190 : B z6187.toInt = B (h0_from.toInt + v5841.toInt) := congrArg B (by omega)
      have gz6199 : gG f_h0_ownLetters z6196.toInt = gG f_h0_ownLetters (wst n_ + v5841.toInt) := congrArg _ (by omega)
      refine ⟨by omega, by omega, by omega, fun j h1 h2 => ?_⟩
      by_cases e : j = v5841.toInt
      · rw [e]; omega
      · exact ih.2.2.2 j h1 (by omega)
theorem i_o93_4 {f_h0_ownLetters : (Nat → Int32)} {v4809 : Int32} {v6086 : Int32} (h : I_M_own_93_4 f_h0_ownLetters v4809 v6086) (ho : pOwn f_h0_ownLetters) {n_ : Nat} (hn : n_ < 18) (hk : v4809.toInt = wst n_) : wst n_ ≤ v6086.toInt ∧ v6086.toInt ≤ wst n_ + wln n_ := by
  refine I_M_own_93_4.ind (Q_ := fun v6086 => wst n_ ≤ v6086.toInt ∧ v6086.toInt ≤ wst n_ + wln n_) ?_ ?_ h
  · have w := w_tab n_ hn
    omega
  · intro v6086 z6107 z6116 hp ih p0 p1 p2
    rcases ho.at hn (j := v6086.toInt - wst n_) (by omega) (by omega) with o | o
    · rw [show wst n_ + (v6086.toInt - wst n_) = v6086.toInt by omega] at o; exfalso; omega
    · omega
theorem i_o93_5 {f_h0_ownLetters : (Nat → Int32)} {v4809 : Int32} {v6149 : Int32} (h : I_M_own_93_5 f_h0_ownLetters v4809 v6149) (ho : pOwn f_h0_ownLetters) {n_ : Nat} (hn : n_ < 18) (hk : v4809.toInt = wst n_) : wst n_ ≤ v6149.toInt ∧ v6149.toInt ≤ wst n_ + wln n_ := by
  refine I_M_own_93_5.ind (Q_ := fun v6149 => wst n_ ≤ v6149.toInt ∧ v6149.toInt ≤ wst n_ + wln n_) ?_ ?_ h
  · have w := w_tab n_ hn
    omega
  · intro v6149 z6170 z6179 hp ih p0 p1 p2
    rcases ho.at hn (j := v6149.toInt - wst n_) (by omega) (by omega) with o | o
    · rw [show wst n_ + (v6149.toInt - wst n_) = v6149.toInt by omega] at o; exfalso; omega
    · omega
/-- no n-th word: what the search among its letters ended at -/
theorem ow_no {B : Int → Int} {a b i : Int} {n : Nat} {own : Nat → Int32} (ho : pOwn own) (hn : n < 18) (h : 0 ≤ i ∧ i ≤ wln n) (q : (gG own (wst n + i) ≠ 0 ∧ (b ≤ a + i ∨ ¬ B (a + i) - 96 = gG own (wst n + i))) ∨ (gG own (wst n + i) = 0 ∧ ¬ a + i = b)) : ¬ OW B a b n := by
  intro w
  have w1 := w.1
  rcases ho.at hn h.1 h.2 with o | o
  · rcases q with q | q
    · exact q.1 o.2
    · omega
  · have w2 := w.2 i h.1 o.1
    rcases q with q | q
    · rcases q.2 with r | r
      · omega
      · omega
    · omega
theorem j_o67 {f_h0_ownLetters : (Nat → Int32)} {f_h0_tape : (Nat → Int32)} {h0_at : Int32} {h0_from : Int32} {v4809 : Int32} {v5841 : Int32} {z6024 : Int32}  (h : J_M_own_67_3 f_h0_ownLetters f_h0_tape h0_at h0_from v4809 v5841 z6024) {B : Int → Int} {sz_ : Int32} (c : rTB f_h0_tape sz_ B) (hf : 0 ≤ h0_from.toInt + v5841.toInt ∧ h0_at.toInt ≤ sz_.toInt) : z6024.toInt = 0 ∨ h0_at.toInt ≤ h0_from.toInt + v5841.toInt ∨ ¬ (B (h0_from.toInt + v5841.toInt) - 96 = gG f_h0_ownLetters (v4809.toInt + v5841.toInt)) := by
  rcases h with p0 | ⟨z6183, p0, p1, p2⟩ | ⟨z6183, z6187, z6190, z6193, z6196, z6199, p0, p1, p2, p3, p4, p5, p6, p7, p8, p9⟩ | h
  · omega
  · omega
  · have g1 := c.2 z6187.toInt (by omega) (by omega)
    have g2 : B z6187.toInt = B (h0_from.toInt + v5841.toInt) := congrArg B (by omega)
    have g3 : gG f_h0_ownLetters z6196.toInt = gG f_h0_ownLetters (v4809.toInt + v5841.toInt) := congrArg _ (by omega)
    omega
  · exact h.elim
theorem i_o4 {f_h0_ownLetters : (Nat → Int32)} {f_h0_tape : (Nat → Int32)} {h0_at : Int32} {h0_from : Int32} {v4809 : Int32} {v4810 : Int32} (h : I_M_own_4_1 f_h0_ownLetters f_h0_tape h0_at h0_from v4809 v4810) {B : Int → Int} {sz_ : Int32} (c : rTB f_h0_tape sz_ B) (ho : pOwn f_h0_ownLetters) (hf : 0 ≤ h0_from.toInt ∧ h0_from.toInt ≤ h0_at.toInt ∧ h0_at.toInt ≤ sz_.toInt) : ∃ n_ : Nat, n_ < 19 ∧ v4809.toInt = wst n_ ∧ v4810.toInt = n_ ∧ ∀ k, k < n_ → ¬ OW B h0_from.toInt h0_at.toInt k := by
  refine I_M_own_4_1.ind (Q_ := fun v4809 v4810 => ∃ n_ : Nat, n_ < 19 ∧ v4809.toInt = wst n_ ∧ v4810.toInt = n_ ∧ ∀ k, k < n_ → ¬ OW B h0_from.toInt h0_at.toInt k) ?_ ?_ ?_ h
  · have e0_ : (0 : Int32).toInt = 0 := by decide
    exact ⟨0, by decide, by rw [e0_, w_0.1], by rw [e0_]; rfl, fun k h => absurd h (by omega)⟩
  · intro v4809 v4810 v5841 z6021 z6024 z6053 z6056 v6086 z6107 z6111 z6114 hp ih p0 p1 p2 p3 p4 p5 p6 p7 p8 p9 p10 p11 p12 p13 p14
    obtain ⟨n_, hn1, hk, hc, hw⟩ := ih
    have w18 := w_0.2.2
    have hn : n_ < 18 := by
      rcases (show n_ < 18 ∨ n_ = 18 by omega) with q | q
      · exact q
      · rw [q] at hk; omega
    have ki := i_o12 p1 c ho hn hk hf
    have kj := j_o67 p5 c ⟨by omega, hf.2.2⟩
    have g1 : gG f_h0_ownLetters z6021.toInt = gG f_h0_ownLetters (wst n_ + v5841.toInt) := congrArg _ (by omega)
    have g2 : gG f_h0_ownLetters z6053.toInt = gG f_h0_ownLetters (wst n_ + v5841.toInt) := congrArg _ (by omega)
    rw [hk] at kj
    have w := w_tab n_ hn
    have kv := i_o93_4 p9 ho hn hk
    have hv : v6086.toInt = wst n_ + wln n_ := by
      rcases ho.at hn (j := v6086.toInt - wst n_) (by omega) (by omega) with o | o
      · omega
      · rw [show wst n_ + (v6086.toInt - wst n_) = v6086.toInt by omega] at o; omega
    have hq := za p14 hc (show (1 : Int32).toInt = 1 by decide) (by omega)
    have nb : ¬ OW B h0_from.toInt h0_at.toInt n_ := ow_no ho hn ⟨ki.1, ki.2.1⟩ (.inl ⟨by omega, by omega⟩)
    refine ⟨n_ + 1, by omega, by omega, by omega, fun k hk2 => ?_⟩
    rcases (show k < n_ ∨ k = n_ by omega) with r | r
    · exact hw k r
    · rw [r]; exact nb
  · intro v4809 v4810 v5841 z6021 z6024 z6053 z6056 z6119 v6149 z6170 z6174 z6177 hp ih p0 p1 p2 p3 p4 p5 p6 p7 p8 p9 p10 p11 p12 p13 p14 p15 p16
    obtain ⟨n_, hn1, hk, hc, hw⟩ := ih
    have w18 := w_0.2.2
    have hn : n_ < 18 := by
      rcases (show n_ < 18 ∨ n_ = 18 by omega) with q | q
      · exact q
      · rw [q] at hk; omega
    have ki := i_o12 p1 c ho hn hk hf
    have kj := j_o67 p5 c ⟨by omega, hf.2.2⟩
    have g1 : gG f_h0_ownLetters z6021.toInt = gG f_h0_ownLetters (wst n_ + v5841.toInt) := congrArg _ (by omega)
    have g2 : gG f_h0_ownLetters z6053.toInt = gG f_h0_ownLetters (wst n_ + v5841.toInt) := congrArg _ (by omega)
    rw [hk] at kj
    have w := w_tab n_ hn
    have kv := i_o93_5 p11 ho hn hk
    have hv : v6149.toInt = wst n_ + wln n_ := by
      rcases ho.at hn (j := v6149.toInt - wst n_) (by omega) (by omega) with o | o
      · omega
      · rw [show wst n_ + (v6149.toInt - wst n_) = v6149.toInt by omega] at o; omega
    have hq := za p16 hc (show (1 : Int32).toInt = 1 by decide) (by omega)
    have nb : ¬ OW B h0_from.toInt h0_at.toInt n_ := ow_no ho hn ⟨ki.1, ki.2.1⟩ (.inr ⟨by omega, by omega⟩)
    refine ⟨n_ + 1, by omega, by omega, by omega, fun k hk2 => ?_⟩
    rcases (show k < n_ ∨ k = n_ by omega) with r | r
    · exact hw k r
    · rw [r]; exact nb
/-- what own() tells of the bytes from a up to b -/
def OWR (B : Int → Int) (a b r : Int) : Prop := (∃ n : Nat, n < 18 ∧ r = (n : Int) ∧ OW B a b n) ∨ (r = -1 ∧ ∀ n, n < 18 → ¬ OW B a b n)
theorem m_own {h0_at : Int32} {h0_from : Int32} {f_h0_ownLetters : (Nat → Int32)} {f_h0_tape : (Nat → Int32)} {o_r : Int32} (h : S_M_own h0_at h0_from f_h0_ownLetters f_h0_tape o_r) {B : Int → Int} {sz_ : Int32} (c : rTB f_h0_tape sz_ B) (ho : pOwn f_h0_ownLetters) (hf : 0 ≤ h0_from.toInt ∧ h0_from.toInt ≤ h0_at.toInt ∧ h0_at.toInt ≤ sz_.toInt) : OWR B h0_from.toInt h0_at.toInt o_r.toInt := by
  unfold OWR
  rcases h with ⟨v4809, v4810, p0, p1, p2, e0⟩ | ⟨v4809, v4810, v5841, z6021, z6024, z6053, z6056, z6119, p0, p1, p2, p3, p4, p5, p6, p7, p8, p9, p10, p11, p12, e0⟩ | h
  · obtain ⟨n_, hn1, hk, hc, hw⟩ := i_o4 p0 c ho hf
    have w18 := w_0.2.2
    refine .inr ⟨e0, fun k hk2 => hw k ?_⟩
    rcases (show n_ < 18 ∨ n_ = 18 by omega) with q | q
    · have w1 := w_tab n_ q; omega
    · omega
  · obtain ⟨n_, hn1, hk, hc, hw⟩ := i_o4 p0 c ho hf
    have w18 := w_0.2.2
    have hn : n_ < 18 := by
      rcases (show n_ < 18 ∨ n_ = 18 by omega) with q | q
      · exact q
      · rw [q] at hk; omega
    have ki := i_o12 p3 c ho hn hk hf
    have kj := j_o67 p7 c ⟨by omega, hf.2.2⟩
    have g1 : gG f_h0_ownLetters z6021.toInt = gG f_h0_ownLetters (wst n_ + v5841.toInt) := congrArg _ (by omega)
    have g2 : gG f_h0_ownLetters z6053.toInt = gG f_h0_ownLetters (wst n_ + v5841.toInt) := congrArg _ (by omega)
    rw [hk] at kj
    refine .inl ⟨n_, hn, by omega, ?_⟩
    have hi : v5841.toInt = wln n_ := by
      rcases ho.at hn ki.1 ki.2.1 with o | o
      · exact o.1
      · omega
    exact ⟨by omega, fun j h1 h2 => ki.2.2.2 j h1 (by omega)⟩
  · exact h.elim
theorem OW.uq {B : Int → Int} {a b : Int} {n k : Nat} (h : OW B a b n) (g : OW B a b k) (hn : n < 18) (hk : k < 18) : n = k := by
  have t : ∀ n, n < 18 → ∀ k, k < 18 → wln n = wln k → (∀ j : Nat, j < 6 → (j : Int) < wln n → chZ 7 (wst n + 1 + (j : Int)) = chZ 7 (wst k + 1 + (j : Int))) → n = k := by decide +kernel
  have e : wln n = wln k := by have := h.1; have := g.1; omega
  exact t n hn k hk e (fun j _ h2 => (h.2 j (by omega) h2).symm.trans (g.2 j (by omega) (by omega)))
