def sp_in (v lo hi : Int32) : Int32 := if v < lo then 0 else if hi < v then 0 else 1
theorem sp_in_a {v lo hi : Int32} (h : v < lo) : sp_in v lo hi = 0 := if_pos h
theorem sp_in_b {v lo hi : Int32} (h : hi < v) : sp_in v lo hi = 0 := by
  rw [sp_in]; split
  · rfl
  · rfl
theorem sp_in_c {v lo hi : Int32} (h : ¬ v < lo) (h2 : ¬ hi < v) : sp_in v lo hi = 1 := by rw [sp_in, if_neg h, if_neg h2]
theorem sp_in_1 {v lo hi : Int32} (h : ¬ sp_in v lo hi = 0) : ¬ v < lo ∧ ¬ hi < v := ⟨fun q => h (sp_in_a q), fun q => h (sp_in_b q)⟩
theorem sp_in_0 {v lo hi : Int32} (h : sp_in v lo hi = 0) : v < lo ∨ hi < v := by
  by_cases q : v < lo
  · exact Or.inl q
  · by_cases q2 : hi < v
    · exact Or.inr q2
    · rw [sp_in_c q q2] at h; exact absurd h (by decide)
theorem sp_in_05 {v : Int32} (h : ¬ sp_in v 0 5 = 0) : vp_in v 6 := by
  obtain ⟨h1, h2⟩ := sp_in_1 h
  have a1 : ¬ v.toInt < 0 := fun q => h1 ((zc_lt rfl (by decide)).mpr q)
  have a2 : ¬ 5 < v.toInt := fun q => h2 ((zc_lt (by decide) rfl).mpr q)
  exact vp_in_iff.mpr ⟨by omega, by omega⟩
theorem sp_has_x {n : Int32} (h : ¬ n.toInt = 7) (h2 : sp_in n 0 6 = 0) : sp_has n = -1 := by
  rcases sp_in_0 h2 with q | q
  · exact sp_has_b ((zc_lt rfl (by decide)).mp q)
  · have a : 6 < n.toInt := (zc_lt (by decide) rfl).mp q
    exact sp_has_d (by omega)
theorem sp_has_y {n : Int32} (h : ¬ n.toInt = 7) (h2 : ¬ sp_in n 0 6 = 0) : sp_has n = 0 := by
  obtain ⟨h1, h2⟩ := sp_in_1 h2
  exact sp_has_c (fun q => h1 ((zc_lt rfl (by decide)).mpr q)) (by have : ¬ 6 < n.toInt := fun q => h2 ((zc_lt (by decide) rfl).mpr q); omega)
theorem sp_status_x {n : Int32} (h2 : sp_in n 0 5 = 0) : sp_status n = -1 := by
  rcases sp_in_0 h2 with q | q
  · exact sp_status_a ((zc_lt rfl (by decide)).mp q)
  · exact sp_status_c ((zc_lt (by decide) rfl).mp q)
theorem sp_status_y {n : Int32} (h2 : ¬ sp_in n 0 5 = 0) : sp_status n = 0 := by
  obtain ⟨h1, h2⟩ := sp_in_1 h2
  exact sp_status_b (fun q => h1 ((zc_lt rfl (by decide)).mpr q)) (by have : ¬ 5 < n.toInt := fun q => h2 ((zc_lt (by decide) rfl).mpr q); omega)
theorem dX9_refuses_0 : decode cX9_refuses 0 = .ok (.aload_n 0, 1) := by decide +kernel
theorem dX9_refuses_1 : decode cX9_refuses 1 = .ok (.getfield 42, 3) := by decide +kernel
theorem dX9_refuses_4 : decode cX9_refuses 4 = .ok (.iload_n 1, 1) := by decide +kernel
theorem dX9_refuses_5 : decode cX9_refuses 5 = .ok (.dup2, 1) := by decide +kernel
theorem dX9_refuses_6 : decode cX9_refuses 6 = .ok (.iaload, 1) := by decide +kernel
theorem dX9_refuses_7 : decode cX9_refuses 7 = .ok (.iconst 1, 1) := by decide +kernel
theorem dX9_refuses_8 : decode cX9_refuses 8 = .ok (.iadd, 1) := by decide +kernel
theorem dX9_refuses_9 : decode cX9_refuses 9 = .ok (.iastore, 1) := by decide +kernel
theorem dX9_refuses_10 : decode cX9_refuses 10 = .ok (.iconst (-1), 1) := by decide +kernel
theorem dX9_refuses_11 : decode cX9_refuses 11 = .ok (.ireturn, 1) := by decide +kernel
set_option maxHeartbeats 4000000 in
set_option maxRecDepth 100000 in
theorem kX9_refuses0 (l : Launch) (g : zL) (h0 : Nat) (m_told : Nat) (m_read : Nat) (m_now : Nat) (m_readNow : Nat) (m_kept : Nat) (m_tape : Nat) (m_refused : Nat) (m_ownLetters : Nat) (m_flats : Nat) (m_corner : Nat) (m_wayX : Nat) (m_wayY : Nat) (m_normal : Nat) (m_low : Nat) (m_high : Nat) (m_clear : Nat) (m_ways : Nat) (m_canBe : Nat) (m_lain : Nat) (m_fewestBy : Nat) (m_sortOf : Nat) (m_seenFlange : Nat) (m_seenLength : Nat) (f : Nat → Int32) : zCi l g yX9_refuses cX9_refuses 2 (some .int) { frames := 0, cells := 0, slots := 0, locals := 0 } [.ref h0, .int 0] [(h0, .inr (9, [.ref m_told, .ref m_read, .ref m_now, .ref m_readNow, .ref m_kept, .int 0, .int 1, .int 0, .ref m_tape, .int 0, .ref m_refused, .int 0, .int (-1), .int 0, .int 0, .int 0, .int 0, .int (-1), .ref m_ownLetters, .ref m_flats, .int 0, .ref m_corner, .ref m_wayX, .ref m_wayY, .ref m_normal, .ref m_low, .ref m_high, .ref m_clear, .ref m_ways, .ref m_canBe, .ref m_lain, .int 0, .ref m_fewestBy, .ref m_sortOf, .int 0, .ref m_seenFlange, .ref m_seenLength])), (m_refused, .inl (g.2.1.1, 6, .inl f))] (fun (r : Int32) (u : (Nat → Int32)) => r = (-1)) (fun (u : (Nat → Int32)) => [(h0, .inr (9, [.ref m_told, .ref m_read, .ref m_now, .ref m_readNow, .ref m_kept, .int 0, .int 1, .int 0, .ref m_tape, .int 0, .ref m_refused, .int 0, .int (-1), .int 0, .int 0, .int 0, .int 0, .int (-1), .ref m_ownLetters, .ref m_flats, .int 0, .ref m_corner, .ref m_wayX, .ref m_wayY, .ref m_normal, .ref m_low, .ref m_high, .ref m_clear, .ref m_ways, .ref m_canBe, .ref m_lain, .int 0, .ref m_fewestBy, .ref m_sortOf, .int 0, .ref m_seenFlange, .ref m_seenLength])), (m_refused, .inl (g.2.1.1, 6, .inl u))]) := by
  refine zCi.mk (by decide) (Nat.le_of_ble_eq_true rfl) ?_
  intro p e s m below meth c A hE hP hD hS ls hl
  obtain ⟨hx, hb, hr, hml, hown, hG, hlocks, hnm, hX, hA⟩ := hE
  have hown : s.vm.findClass RX9 = some m.cls := hown
  have hl : lv_has ls 2 [(0, .ref h0), (1, .int 0)] := hl
  refine lv_aload_n hx hb dX9_refuses_0 rfl (lv_at hl 0 rfl) ?_
  refine va_get (D := g.1) (ci := 9) (v := .ref m_refused) (C := RX9) (T := TX9) (N := 37) hx hb hG iX9 hown hX.1 hP 0 rfl rfl 10 (by decide) (hG _ g1427) (fun _ h9 => h9) rfl dX9_refuses_1 ?_
  refine lv_iload_n hx hb dX9_refuses_4 rfl (lv_at hl 1 rfl) ?_
  refine lv_dup2_11 hx hb dX9_refuses_5 rfl rfl ?_
  refine va_iald hx hb hX.1 hP 1 0 rfl rfl (vp_in_iff.mpr (by decide)) dX9_refuses_6 ?_
  refine lv_iconst (v := 1) hx hb dX9_refuses_7 (by decide) ?_
  refine lv_iadd hx hb dX9_refuses_8 ?_
  refine va_iast hx hb hX.1 hP hD hS 1 0 rfl rfl (vp_in_iff.mpr (by decide)) dX9_refuses_9 (fun H locs hP hD hS => ?_)
  have hP : va_P g.1 vwCl [(h0, .inr (9, [.ref m_told, .ref m_read, .ref m_now, .ref m_readNow, .ref m_kept, .int 0, .int 1, .int 0, .ref m_tape, .int 0, .ref m_refused, .int 0, .int (-1), .int 0, .int 0, .int 0, .int 0, .int (-1), .ref m_ownLetters, .ref m_flats, .int 0, .ref m_corner, .ref m_wayX, .ref m_wayY, .ref m_normal, .ref m_low, .ref m_high, .ref m_clear, .ref m_ways, .ref m_canBe, .ref m_lain, .int 0, .ref m_fewestBy, .ref m_sortOf, .int 0, .ref m_seenFlange, .ref m_seenLength])), (m_refused, .inl (g.2.1.1, 6, .inl (upd f (0 : Int32).toNatClampNeg ((f (0 : Int32).toNatClampNeg) + 1))))] H := hP
  have hD : va_D A [(h0, .inr (9, [.ref m_told, .ref m_read, .ref m_now, .ref m_readNow, .ref m_kept, .int 0, .int 1, .int 0, .ref m_tape, .int 0, .ref m_refused, .int 0, .int (-1), .int 0, .int 0, .int 0, .int 0, .int (-1), .ref m_ownLetters, .ref m_flats, .int 0, .ref m_corner, .ref m_wayX, .ref m_wayY, .ref m_normal, .ref m_low, .ref m_high, .ref m_clear, .ref m_ways, .ref m_canBe, .ref m_lain, .int 0, .ref m_fewestBy, .ref m_sortOf, .int 0, .ref m_seenFlange, .ref m_seenLength])), (m_refused, .inl (g.2.1.1, 6, .inl (upd f (0 : Int32).toNatClampNeg ((f (0 : Int32).toNatClampNeg) + 1))))] := hD
  refine lv_iconst (v := (-1)) hx hb dX9_refuses_10 (by decide) ?_
  exact zri (rm := { frames := 0, cells := 0, slots := 0, locals := 0 }) (v := (-1)) (upd f (0 : Int32).toNatClampNeg ((f (0 : Int32).toNatClampNeg) + 1)) hx hb hr hlocks (Nat.le_of_ble_eq_true rfl) (Nat.le_of_ble_eq_true rfl) (rfl) hP hD hS dX9_refuses_11
theorem dX9_isRefused_0 : decode cX9_isRefused 0 = .ok (.aload_n 0, 1) := by decide +kernel
theorem dX9_isRefused_1 : decode cX9_isRefused 1 = .ok (.getfield 42, 3) := by decide +kernel
theorem dX9_isRefused_4 : decode cX9_isRefused 4 = .ok (.iload_n 1, 1) := by decide +kernel
theorem dX9_isRefused_5 : decode cX9_isRefused 5 = .ok (.dup2, 1) := by decide +kernel
theorem dX9_isRefused_6 : decode cX9_isRefused 6 = .ok (.iaload, 1) := by decide +kernel
theorem dX9_isRefused_7 : decode cX9_isRefused 7 = .ok (.iconst 1, 1) := by decide +kernel
theorem dX9_isRefused_8 : decode cX9_isRefused 8 = .ok (.iadd, 1) := by decide +kernel
theorem dX9_isRefused_9 : decode cX9_isRefused 9 = .ok (.iastore, 1) := by decide +kernel
theorem dX9_isRefused_10 : decode cX9_isRefused 10 = .ok (.iconst 0, 1) := by decide +kernel
theorem dX9_isRefused_11 : decode cX9_isRefused 11 = .ok (.ireturn, 1) := by decide +kernel
set_option maxHeartbeats 4000000 in
set_option maxRecDepth 100000 in
theorem kX9_isRefused0 (l : Launch) (g : zL) (h0 : Nat) (m_told : Nat) (m_read : Nat) (m_now : Nat) (m_readNow : Nat) (m_kept : Nat) (m_tape : Nat) (m_refused : Nat) (m_ownLetters : Nat) (m_flats : Nat) (m_corner : Nat) (m_wayX : Nat) (m_wayY : Nat) (m_normal : Nat) (m_low : Nat) (m_high : Nat) (m_clear : Nat) (m_ways : Nat) (m_canBe : Nat) (m_lain : Nat) (m_fewestBy : Nat) (m_sortOf : Nat) (m_seenFlange : Nat) (m_seenLength : Nat) (f : Nat → Int32) : zCi l g yX9_isRefused cX9_isRefused 2 (some .boolean) { frames := 0, cells := 0, slots := 0, locals := 0 } [.ref h0, .int 0] [(h0, .inr (9, [.ref m_told, .ref m_read, .ref m_now, .ref m_readNow, .ref m_kept, .int 0, .int 1, .int 0, .ref m_tape, .int 0, .ref m_refused, .int 0, .int (-1), .int 0, .int 0, .int 0, .int 0, .int (-1), .ref m_ownLetters, .ref m_flats, .int 0, .ref m_corner, .ref m_wayX, .ref m_wayY, .ref m_normal, .ref m_low, .ref m_high, .ref m_clear, .ref m_ways, .ref m_canBe, .ref m_lain, .int 0, .ref m_fewestBy, .ref m_sortOf, .int 0, .ref m_seenFlange, .ref m_seenLength])), (m_refused, .inl (g.2.1.1, 6, .inl f))] (fun (r : Int32) (u : (Nat → Int32)) => r = 0) (fun (u : (Nat → Int32)) => [(h0, .inr (9, [.ref m_told, .ref m_read, .ref m_now, .ref m_readNow, .ref m_kept, .int 0, .int 1, .int 0, .ref m_tape, .int 0, .ref m_refused, .int 0, .int (-1), .int 0, .int 0, .int 0, .int 0, .int (-1), .ref m_ownLetters, .ref m_flats, .int 0, .ref m_corner, .ref m_wayX, .ref m_wayY, .ref m_normal, .ref m_low, .ref m_high, .ref m_clear, .ref m_ways, .ref m_canBe, .ref m_lain, .int 0, .ref m_fewestBy, .ref m_sortOf, .int 0, .ref m_seenFlange, .ref m_seenLength])), (m_refused, .inl (g.2.1.1, 6, .inl u))]) := by
  refine zCi.mk (by decide) (Nat.le_of_ble_eq_true rfl) ?_
  intro p e s m below meth c A hE hP hD hS ls hl
  obtain ⟨hx, hb, hr, hml, hown, hG, hlocks, hnm, hX, hA⟩ := hE
  have hown : s.vm.findClass RX9 = some m.cls := hown
  have hl : lv_has ls 2 [(0, .ref h0), (1, .int 0)] := hl
  refine lv_aload_n hx hb dX9_isRefused_0 rfl (lv_at hl 0 rfl) ?_
  refine va_get (D := g.1) (ci := 9) (v := .ref m_refused) (C := RX9) (T := TX9) (N := 37) hx hb hG iX9 hown hX.1 hP 0 rfl rfl 10 (by decide) (hG _ g1427) (fun _ h9 => h9) rfl dX9_isRefused_1 ?_
  refine lv_iload_n hx hb dX9_isRefused_4 rfl (lv_at hl 1 rfl) ?_
  refine lv_dup2_11 hx hb dX9_isRefused_5 rfl rfl ?_
  refine va_iald hx hb hX.1 hP 1 0 rfl rfl (vp_in_iff.mpr (by decide)) dX9_isRefused_6 ?_
  refine lv_iconst (v := 1) hx hb dX9_isRefused_7 (by decide) ?_
  refine lv_iadd hx hb dX9_isRefused_8 ?_
  refine va_iast hx hb hX.1 hP hD hS 1 0 rfl rfl (vp_in_iff.mpr (by decide)) dX9_isRefused_9 (fun H locs hP hD hS => ?_)
  have hP : va_P g.1 vwCl [(h0, .inr (9, [.ref m_told, .ref m_read, .ref m_now, .ref m_readNow, .ref m_kept, .int 0, .int 1, .int 0, .ref m_tape, .int 0, .ref m_refused, .int 0, .int (-1), .int 0, .int 0, .int 0, .int 0, .int (-1), .ref m_ownLetters, .ref m_flats, .int 0, .ref m_corner, .ref m_wayX, .ref m_wayY, .ref m_normal, .ref m_low, .ref m_high, .ref m_clear, .ref m_ways, .ref m_canBe, .ref m_lain, .int 0, .ref m_fewestBy, .ref m_sortOf, .int 0, .ref m_seenFlange, .ref m_seenLength])), (m_refused, .inl (g.2.1.1, 6, .inl (upd f (0 : Int32).toNatClampNeg ((f (0 : Int32).toNatClampNeg) + 1))))] H := hP
  have hD : va_D A [(h0, .inr (9, [.ref m_told, .ref m_read, .ref m_now, .ref m_readNow, .ref m_kept, .int 0, .int 1, .int 0, .ref m_tape, .int 0, .ref m_refused, .int 0, .int (-1), .int 0, .int 0, .int 0, .int 0, .int (-1), .ref m_ownLetters, .ref m_flats, .int 0, .ref m_corner, .ref m_wayX, .ref m_wayY, .ref m_normal, .ref m_low, .ref m_high, .ref m_clear, .ref m_ways, .ref m_canBe, .ref m_lain, .int 0, .ref m_fewestBy, .ref m_sortOf, .int 0, .ref m_seenFlange, .ref m_seenLength])), (m_refused, .inl (g.2.1.1, 6, .inl (upd f (0 : Int32).toNatClampNeg ((f (0 : Int32).toNatClampNeg) + 1))))] := hD
  refine lv_iconst (v := 0) hx hb dX9_isRefused_10 (by decide) ?_
  exact zrz (rm := { frames := 0, cells := 0, slots := 0, locals := 0 }) (v := 0) (upd f (0 : Int32).toNatClampNeg ((f (0 : Int32).toNatClampNeg) + 1)) hx hb hr hlocks (rfl) (Nat.le_of_ble_eq_true rfl) (Nat.le_of_ble_eq_true rfl) (rfl) hP hD hS dX9_isRefused_11
set_option maxHeartbeats 4000000 in
set_option maxRecDepth 100000 in
theorem kX9_refuses1 (l : Launch) (g : zL) (h0 : Nat) (m_told : Nat) (m_read : Nat) (m_now : Nat) (m_readNow : Nat) (m_kept : Nat) (m_tape : Nat) (m_refused : Nat) (m_ownLetters : Nat) (m_flats : Nat) (m_corner : Nat) (m_wayX : Nat) (m_wayY : Nat) (m_normal : Nat) (m_low : Nat) (m_high : Nat) (m_clear : Nat) (m_ways : Nat) (m_canBe : Nat) (m_lain : Nat) (m_fewestBy : Nat) (m_sortOf : Nat) (m_seenFlange : Nat) (m_seenLength : Nat) (f : Nat → Int32) : zCi l g yX9_refuses cX9_refuses 2 (some .int) { frames := 0, cells := 0, slots := 0, locals := 0 } [.ref h0, .int 1] [(h0, .inr (9, [.ref m_told, .ref m_read, .ref m_now, .ref m_readNow, .ref m_kept, .int 0, .int 1, .int 0, .ref m_tape, .int 0, .ref m_refused, .int 0, .int (-1), .int 0, .int 0, .int 0, .int 0, .int (-1), .ref m_ownLetters, .ref m_flats, .int 0, .ref m_corner, .ref m_wayX, .ref m_wayY, .ref m_normal, .ref m_low, .ref m_high, .ref m_clear, .ref m_ways, .ref m_canBe, .ref m_lain, .int 0, .ref m_fewestBy, .ref m_sortOf, .int 0, .ref m_seenFlange, .ref m_seenLength])), (m_refused, .inl (g.2.1.1, 6, .inl f))] (fun (r : Int32) (u : (Nat → Int32)) => r = (-1)) (fun (u : (Nat → Int32)) => [(h0, .inr (9, [.ref m_told, .ref m_read, .ref m_now, .ref m_readNow, .ref m_kept, .int 0, .int 1, .int 0, .ref m_tape, .int 0, .ref m_refused, .int 0, .int (-1), .int 0, .int 0, .int 0, .int 0, .int (-1), .ref m_ownLetters, .ref m_flats, .int 0, .ref m_corner, .ref m_wayX, .ref m_wayY, .ref m_normal, .ref m_low, .ref m_high, .ref m_clear, .ref m_ways, .ref m_canBe, .ref m_lain, .int 0, .ref m_fewestBy, .ref m_sortOf, .int 0, .ref m_seenFlange, .ref m_seenLength])), (m_refused, .inl (g.2.1.1, 6, .inl u))]) := by
  refine zCi.mk (by decide) (Nat.le_of_ble_eq_true rfl) ?_
  intro p e s m below meth c A hE hP hD hS ls hl
  obtain ⟨hx, hb, hr, hml, hown, hG, hlocks, hnm, hX, hA⟩ := hE
  have hown : s.vm.findClass RX9 = some m.cls := hown
  have hl : lv_has ls 2 [(0, .ref h0), (1, .int 1)] := hl
  refine lv_aload_n hx hb dX9_refuses_0 rfl (lv_at hl 0 rfl) ?_
  refine va_get (D := g.1) (ci := 9) (v := .ref m_refused) (C := RX9) (T := TX9) (N := 37) hx hb hG iX9 hown hX.1 hP 0 rfl rfl 10 (by decide) (hG _ g1427) (fun _ h9 => h9) rfl dX9_refuses_1 ?_
  refine lv_iload_n hx hb dX9_refuses_4 rfl (lv_at hl 1 rfl) ?_
  refine lv_dup2_11 hx hb dX9_refuses_5 rfl rfl ?_
  refine va_iald hx hb hX.1 hP 1 0 rfl rfl (vp_in_iff.mpr (by decide)) dX9_refuses_6 ?_
  refine lv_iconst (v := 1) hx hb dX9_refuses_7 (by decide) ?_
  refine lv_iadd hx hb dX9_refuses_8 ?_
  refine va_iast hx hb hX.1 hP hD hS 1 0 rfl rfl (vp_in_iff.mpr (by decide)) dX9_refuses_9 (fun H locs hP hD hS => ?_)
  have hP : va_P g.1 vwCl [(h0, .inr (9, [.ref m_told, .ref m_read, .ref m_now, .ref m_readNow, .ref m_kept, .int 0, .int 1, .int 0, .ref m_tape, .int 0, .ref m_refused, .int 0, .int (-1), .int 0, .int 0, .int 0, .int 0, .int (-1), .ref m_ownLetters, .ref m_flats, .int 0, .ref m_corner, .ref m_wayX, .ref m_wayY, .ref m_normal, .ref m_low, .ref m_high, .ref m_clear, .ref m_ways, .ref m_canBe, .ref m_lain, .int 0, .ref m_fewestBy, .ref m_sortOf, .int 0, .ref m_seenFlange, .ref m_seenLength])), (m_refused, .inl (g.2.1.1, 6, .inl (upd f (1 : Int32).toNatClampNeg ((f (1 : Int32).toNatClampNeg) + 1))))] H := hP
  have hD : va_D A [(h0, .inr (9, [.ref m_told, .ref m_read, .ref m_now, .ref m_readNow, .ref m_kept, .int 0, .int 1, .int 0, .ref m_tape, .int 0, .ref m_refused, .int 0, .int (-1), .int 0, .int 0, .int 0, .int 0, .int (-1), .ref m_ownLetters, .ref m_flats, .int 0, .ref m_corner, .ref m_wayX, .ref m_wayY, .ref m_normal, .ref m_low, .ref m_high, .ref m_clear, .ref m_ways, .ref m_canBe, .ref m_lain, .int 0, .ref m_fewestBy, .ref m_sortOf, .int 0, .ref m_seenFlange, .ref m_seenLength])), (m_refused, .inl (g.2.1.1, 6, .inl (upd f (1 : Int32).toNatClampNeg ((f (1 : Int32).toNatClampNeg) + 1))))] := hD
  refine lv_iconst (v := (-1)) hx hb dX9_refuses_10 (by decide) ?_
  exact zri (rm := { frames := 0, cells := 0, slots := 0, locals := 0 }) (v := (-1)) (upd f (1 : Int32).toNatClampNeg ((f (1 : Int32).toNatClampNeg) + 1)) hx hb hr hlocks (Nat.le_of_ble_eq_true rfl) (Nat.le_of_ble_eq_true rfl) (rfl) hP hD hS dX9_refuses_11
set_option maxHeartbeats 4000000 in
set_option maxRecDepth 100000 in
theorem kX9_isRefused1 (l : Launch) (g : zL) (h0 : Nat) (m_told : Nat) (m_read : Nat) (m_now : Nat) (m_readNow : Nat) (m_kept : Nat) (m_tape : Nat) (m_refused : Nat) (m_ownLetters : Nat) (m_flats : Nat) (m_corner : Nat) (m_wayX : Nat) (m_wayY : Nat) (m_normal : Nat) (m_low : Nat) (m_high : Nat) (m_clear : Nat) (m_ways : Nat) (m_canBe : Nat) (m_lain : Nat) (m_fewestBy : Nat) (m_sortOf : Nat) (m_seenFlange : Nat) (m_seenLength : Nat) (f : Nat → Int32) : zCi l g yX9_isRefused cX9_isRefused 2 (some .boolean) { frames := 0, cells := 0, slots := 0, locals := 0 } [.ref h0, .int 1] [(h0, .inr (9, [.ref m_told, .ref m_read, .ref m_now, .ref m_readNow, .ref m_kept, .int 0, .int 1, .int 0, .ref m_tape, .int 0, .ref m_refused, .int 0, .int (-1), .int 0, .int 0, .int 0, .int 0, .int (-1), .ref m_ownLetters, .ref m_flats, .int 0, .ref m_corner, .ref m_wayX, .ref m_wayY, .ref m_normal, .ref m_low, .ref m_high, .ref m_clear, .ref m_ways, .ref m_canBe, .ref m_lain, .int 0, .ref m_fewestBy, .ref m_sortOf, .int 0, .ref m_seenFlange, .ref m_seenLength])), (m_refused, .inl (g.2.1.1, 6, .inl f))] (fun (r : Int32) (u : (Nat → Int32)) => r = 0) (fun (u : (Nat → Int32)) => [(h0, .inr (9, [.ref m_told, .ref m_read, .ref m_now, .ref m_readNow, .ref m_kept, .int 0, .int 1, .int 0, .ref m_tape, .int 0, .ref m_refused, .int 0, .int (-1), .int 0, .int 0, .int 0, .int 0, .int (-1), .ref m_ownLetters, .ref m_flats, .int 0, .ref m_corner, .ref m_wayX, .ref m_wayY, .ref m_normal, .ref m_low, .ref m_high, .ref m_clear, .ref m_ways, .ref m_canBe, .ref m_lain, .int 0, .ref m_fewestBy, .ref m_sortOf, .int 0, .ref m_seenFlange, .ref m_seenLength])), (m_refused, .inl (g.2.1.1, 6, .inl u))]) := by
  refine zCi.mk (by decide) (Nat.le_of_ble_eq_true rfl) ?_
  intro p e s m below meth c A hE hP hD hS ls hl
  obtain ⟨hx, hb, hr, hml, hown, hG, hlocks, hnm, hX, hA⟩ := hE
  have hown : s.vm.findClass RX9 = some m.cls := hown
  have hl : lv_has ls 2 [(0, .ref h0), (1, .int 1)] := hl
  refine lv_aload_n hx hb dX9_isRefused_0 rfl (lv_at hl 0 rfl) ?_
  refine va_get (D := g.1) (ci := 9) (v := .ref m_refused) (C := RX9) (T := TX9) (N := 37) hx hb hG iX9 hown hX.1 hP 0 rfl rfl 10 (by decide) (hG _ g1427) (fun _ h9 => h9) rfl dX9_isRefused_1 ?_
  refine lv_iload_n hx hb dX9_isRefused_4 rfl (lv_at hl 1 rfl) ?_
  refine lv_dup2_11 hx hb dX9_isRefused_5 rfl rfl ?_
  refine va_iald hx hb hX.1 hP 1 0 rfl rfl (vp_in_iff.mpr (by decide)) dX9_isRefused_6 ?_
  refine lv_iconst (v := 1) hx hb dX9_isRefused_7 (by decide) ?_
  refine lv_iadd hx hb dX9_isRefused_8 ?_
  refine va_iast hx hb hX.1 hP hD hS 1 0 rfl rfl (vp_in_iff.mpr (by decide)) dX9_isRefused_9 (fun H locs hP hD hS => ?_)
  have hP : va_P g.1 vwCl [(h0, .inr (9, [.ref m_told, .ref m_read, .ref m_now, .ref m_readNow, .ref m_kept, .int 0, .int 1, .int 0, .ref m_tape, .int 0, .ref m_refused, .int 0, .int (-1), .int 0, .int 0, .int 0, .int 0, .int (-1), .ref m_ownLetters, .ref m_flats, .int 0, .ref m_corner, .ref m_wayX, .ref m_wayY, .ref m_normal, .ref m_low, .ref m_high, .ref m_clear, .ref m_ways, .ref m_canBe, .ref m_lain, .int 0, .ref m_fewestBy, .ref m_sortOf, .int 0, .ref m_seenFlange, .ref m_seenLength])), (m_refused, .inl (g.2.1.1, 6, .inl (upd f (1 : Int32).toNatClampNeg ((f (1 : Int32).toNatClampNeg) + 1))))] H := hP
  have hD : va_D A [(h0, .inr (9, [.ref m_told, .ref m_read, .ref m_now, .ref m_readNow, .ref m_kept, .int 0, .int 1, .int 0, .ref m_tape, .int 0, .ref m_refused, .int 0, .int (-1), .int 0, .int 0, .int 0, .int 0, .int (-1), .ref m_ownLetters, .ref m_flats, .int 0, .ref m_corner, .ref m_wayX, .ref m_wayY, .ref m_normal, .ref m_low, .ref m_high, .ref m_clear, .ref m_ways, .ref m_canBe, .ref m_lain, .int 0, .ref m_fewestBy, .ref m_sortOf, .int 0, .ref m_seenFlange, .ref m_seenLength])), (m_refused, .inl (g.2.1.1, 6, .inl (upd f (1 : Int32).toNatClampNeg ((f (1 : Int32).toNatClampNeg) + 1))))] := hD
  refine lv_iconst (v := 0) hx hb dX9_isRefused_10 (by decide) ?_
  exact zrz (rm := { frames := 0, cells := 0, slots := 0, locals := 0 }) (v := 0) (upd f (1 : Int32).toNatClampNeg ((f (1 : Int32).toNatClampNeg) + 1)) hx hb hr hlocks (rfl) (Nat.le_of_ble_eq_true rfl) (Nat.le_of_ble_eq_true rfl) (rfl) hP hD hS dX9_isRefused_11
set_option maxHeartbeats 4000000 in
set_option maxRecDepth 100000 in
theorem kX9_refuses2 (l : Launch) (g : zL) (h0 : Nat) (m_told : Nat) (m_read : Nat) (m_now : Nat) (m_readNow : Nat) (m_kept : Nat) (m_tape : Nat) (m_refused : Nat) (m_ownLetters : Nat) (m_flats : Nat) (m_corner : Nat) (m_wayX : Nat) (m_wayY : Nat) (m_normal : Nat) (m_low : Nat) (m_high : Nat) (m_clear : Nat) (m_ways : Nat) (m_canBe : Nat) (m_lain : Nat) (m_fewestBy : Nat) (m_sortOf : Nat) (m_seenFlange : Nat) (m_seenLength : Nat) (f : Nat → Int32) : zCi l g yX9_refuses cX9_refuses 2 (some .int) { frames := 0, cells := 0, slots := 0, locals := 0 } [.ref h0, .int 2] [(h0, .inr (9, [.ref m_told, .ref m_read, .ref m_now, .ref m_readNow, .ref m_kept, .int 0, .int 1, .int 0, .ref m_tape, .int 0, .ref m_refused, .int 0, .int (-1), .int 0, .int 0, .int 0, .int 0, .int (-1), .ref m_ownLetters, .ref m_flats, .int 0, .ref m_corner, .ref m_wayX, .ref m_wayY, .ref m_normal, .ref m_low, .ref m_high, .ref m_clear, .ref m_ways, .ref m_canBe, .ref m_lain, .int 0, .ref m_fewestBy, .ref m_sortOf, .int 0, .ref m_seenFlange, .ref m_seenLength])), (m_refused, .inl (g.2.1.1, 6, .inl f))] (fun (r : Int32) (u : (Nat → Int32)) => r = (-1)) (fun (u : (Nat → Int32)) => [(h0, .inr (9, [.ref m_told, .ref m_read, .ref m_now, .ref m_readNow, .ref m_kept, .int 0, .int 1, .int 0, .ref m_tape, .int 0, .ref m_refused, .int 0, .int (-1), .int 0, .int 0, .int 0, .int 0, .int (-1), .ref m_ownLetters, .ref m_flats, .int 0, .ref m_corner, .ref m_wayX, .ref m_wayY, .ref m_normal, .ref m_low, .ref m_high, .ref m_clear, .ref m_ways, .ref m_canBe, .ref m_lain, .int 0, .ref m_fewestBy, .ref m_sortOf, .int 0, .ref m_seenFlange, .ref m_seenLength])), (m_refused, .inl (g.2.1.1, 6, .inl u))]) := by
  refine zCi.mk (by decide) (Nat.le_of_ble_eq_true rfl) ?_
  intro p e s m below meth c A hE hP hD hS ls hl
  obtain ⟨hx, hb, hr, hml, hown, hG, hlocks, hnm, hX, hA⟩ := hE
  have hown : s.vm.findClass RX9 = some m.cls := hown
  have hl : lv_has ls 2 [(0, .ref h0), (1, .int 2)] := hl
  refine lv_aload_n hx hb dX9_refuses_0 rfl (lv_at hl 0 rfl) ?_
  refine va_get (D := g.1) (ci := 9) (v := .ref m_refused) (C := RX9) (T := TX9) (N := 37) hx hb hG iX9 hown hX.1 hP 0 rfl rfl 10 (by decide) (hG _ g1427) (fun _ h9 => h9) rfl dX9_refuses_1 ?_
  refine lv_iload_n hx hb dX9_refuses_4 rfl (lv_at hl 1 rfl) ?_
  refine lv_dup2_11 hx hb dX9_refuses_5 rfl rfl ?_
  refine va_iald hx hb hX.1 hP 1 0 rfl rfl (vp_in_iff.mpr (by decide)) dX9_refuses_6 ?_
  refine lv_iconst (v := 1) hx hb dX9_refuses_7 (by decide) ?_
  refine lv_iadd hx hb dX9_refuses_8 ?_
  refine va_iast hx hb hX.1 hP hD hS 1 0 rfl rfl (vp_in_iff.mpr (by decide)) dX9_refuses_9 (fun H locs hP hD hS => ?_)
  have hP : va_P g.1 vwCl [(h0, .inr (9, [.ref m_told, .ref m_read, .ref m_now, .ref m_readNow, .ref m_kept, .int 0, .int 1, .int 0, .ref m_tape, .int 0, .ref m_refused, .int 0, .int (-1), .int 0, .int 0, .int 0, .int 0, .int (-1), .ref m_ownLetters, .ref m_flats, .int 0, .ref m_corner, .ref m_wayX, .ref m_wayY, .ref m_normal, .ref m_low, .ref m_high, .ref m_clear, .ref m_ways, .ref m_canBe, .ref m_lain, .int 0, .ref m_fewestBy, .ref m_sortOf, .int 0, .ref m_seenFlange, .ref m_seenLength])), (m_refused, .inl (g.2.1.1, 6, .inl (upd f (2 : Int32).toNatClampNeg ((f (2 : Int32).toNatClampNeg) + 1))))] H := hP
  have hD : va_D A [(h0, .inr (9, [.ref m_told, .ref m_read, .ref m_now, .ref m_readNow, .ref m_kept, .int 0, .int 1, .int 0, .ref m_tape, .int 0, .ref m_refused, .int 0, .int (-1), .int 0, .int 0, .int 0, .int 0, .int (-1), .ref m_ownLetters, .ref m_flats, .int 0, .ref m_corner, .ref m_wayX, .ref m_wayY, .ref m_normal, .ref m_low, .ref m_high, .ref m_clear, .ref m_ways, .ref m_canBe, .ref m_lain, .int 0, .ref m_fewestBy, .ref m_sortOf, .int 0, .ref m_seenFlange, .ref m_seenLength])), (m_refused, .inl (g.2.1.1, 6, .inl (upd f (2 : Int32).toNatClampNeg ((f (2 : Int32).toNatClampNeg) + 1))))] := hD
  refine lv_iconst (v := (-1)) hx hb dX9_refuses_10 (by decide) ?_
  exact zri (rm := { frames := 0, cells := 0, slots := 0, locals := 0 }) (v := (-1)) (upd f (2 : Int32).toNatClampNeg ((f (2 : Int32).toNatClampNeg) + 1)) hx hb hr hlocks (Nat.le_of_ble_eq_true rfl) (Nat.le_of_ble_eq_true rfl) (rfl) hP hD hS dX9_refuses_11
set_option maxHeartbeats 4000000 in
set_option maxRecDepth 100000 in
theorem kX9_isRefused2 (l : Launch) (g : zL) (h0 : Nat) (m_told : Nat) (m_read : Nat) (m_now : Nat) (m_readNow : Nat) (m_kept : Nat) (m_tape : Nat) (m_refused : Nat) (m_ownLetters : Nat) (m_flats : Nat) (m_corner : Nat) (m_wayX : Nat) (m_wayY : Nat) (m_normal : Nat) (m_low : Nat) (m_high : Nat) (m_clear : Nat) (m_ways : Nat) (m_canBe : Nat) (m_lain : Nat) (m_fewestBy : Nat) (m_sortOf : Nat) (m_seenFlange : Nat) (m_seenLength : Nat) (f : Nat → Int32) : zCi l g yX9_isRefused cX9_isRefused 2 (some .boolean) { frames := 0, cells := 0, slots := 0, locals := 0 } [.ref h0, .int 2] [(h0, .inr (9, [.ref m_told, .ref m_read, .ref m_now, .ref m_readNow, .ref m_kept, .int 0, .int 1, .int 0, .ref m_tape, .int 0, .ref m_refused, .int 0, .int (-1), .int 0, .int 0, .int 0, .int 0, .int (-1), .ref m_ownLetters, .ref m_flats, .int 0, .ref m_corner, .ref m_wayX, .ref m_wayY, .ref m_normal, .ref m_low, .ref m_high, .ref m_clear, .ref m_ways, .ref m_canBe, .ref m_lain, .int 0, .ref m_fewestBy, .ref m_sortOf, .int 0, .ref m_seenFlange, .ref m_seenLength])), (m_refused, .inl (g.2.1.1, 6, .inl f))] (fun (r : Int32) (u : (Nat → Int32)) => r = 0) (fun (u : (Nat → Int32)) => [(h0, .inr (9, [.ref m_told, .ref m_read, .ref m_now, .ref m_readNow, .ref m_kept, .int 0, .int 1, .int 0, .ref m_tape, .int 0, .ref m_refused, .int 0, .int (-1), .int 0, .int 0, .int 0, .int 0, .int (-1), .ref m_ownLetters, .ref m_flats, .int 0, .ref m_corner, .ref m_wayX, .ref m_wayY, .ref m_normal, .ref m_low, .ref m_high, .ref m_clear, .ref m_ways, .ref m_canBe, .ref m_lain, .int 0, .ref m_fewestBy, .ref m_sortOf, .int 0, .ref m_seenFlange, .ref m_seenLength])), (m_refused, .inl (g.2.1.1, 6, .inl u))]) := by
  refine zCi.mk (by decide) (Nat.le_of_ble_eq_true rfl) ?_
  intro p e s m below meth c A hE hP hD hS ls hl
  obtain ⟨hx, hb, hr, hml, hown, hG, hlocks, hnm, hX, hA⟩ := hE
  have hown : s.vm.findClass RX9 = some m.cls := hown
  have hl : lv_has ls 2 [(0, .ref h0), (1, .int 2)] := hl
  refine lv_aload_n hx hb dX9_isRefused_0 rfl (lv_at hl 0 rfl) ?_
  refine va_get (D := g.1) (ci := 9) (v := .ref m_refused) (C := RX9) (T := TX9) (N := 37) hx hb hG iX9 hown hX.1 hP 0 rfl rfl 10 (by decide) (hG _ g1427) (fun _ h9 => h9) rfl dX9_isRefused_1 ?_
  refine lv_iload_n hx hb dX9_isRefused_4 rfl (lv_at hl 1 rfl) ?_
  refine lv_dup2_11 hx hb dX9_isRefused_5 rfl rfl ?_
  refine va_iald hx hb hX.1 hP 1 0 rfl rfl (vp_in_iff.mpr (by decide)) dX9_isRefused_6 ?_
  refine lv_iconst (v := 1) hx hb dX9_isRefused_7 (by decide) ?_
  refine lv_iadd hx hb dX9_isRefused_8 ?_
  refine va_iast hx hb hX.1 hP hD hS 1 0 rfl rfl (vp_in_iff.mpr (by decide)) dX9_isRefused_9 (fun H locs hP hD hS => ?_)
  have hP : va_P g.1 vwCl [(h0, .inr (9, [.ref m_told, .ref m_read, .ref m_now, .ref m_readNow, .ref m_kept, .int 0, .int 1, .int 0, .ref m_tape, .int 0, .ref m_refused, .int 0, .int (-1), .int 0, .int 0, .int 0, .int 0, .int (-1), .ref m_ownLetters, .ref m_flats, .int 0, .ref m_corner, .ref m_wayX, .ref m_wayY, .ref m_normal, .ref m_low, .ref m_high, .ref m_clear, .ref m_ways, .ref m_canBe, .ref m_lain, .int 0, .ref m_fewestBy, .ref m_sortOf, .int 0, .ref m_seenFlange, .ref m_seenLength])), (m_refused, .inl (g.2.1.1, 6, .inl (upd f (2 : Int32).toNatClampNeg ((f (2 : Int32).toNatClampNeg) + 1))))] H := hP
  have hD : va_D A [(h0, .inr (9, [.ref m_told, .ref m_read, .ref m_now, .ref m_readNow, .ref m_kept, .int 0, .int 1, .int 0, .ref m_tape, .int 0, .ref m_refused, .int 0, .int (-1), .int 0, .int 0, .int 0, .int 0, .int (-1), .ref m_ownLetters, .ref m_flats, .int 0, .ref m_corner, .ref m_wayX, .ref m_wayY, .ref m_normal, .ref m_low, .ref m_high, .ref m_clear, .ref m_ways, .ref m_canBe, .ref m_lain, .int 0, .ref m_fewestBy, .ref m_sortOf, .int 0, .ref m_seenFlange, .ref m_seenLength])), (m_refused, .inl (g.2.1.1, 6, .inl (upd f (2 : Int32).toNatClampNeg ((f (2 : Int32).toNatClampNeg) + 1))))] := hD
  refine lv_iconst (v := 0) hx hb dX9_isRefused_10 (by decide) ?_
  exact zrz (rm := { frames := 0, cells := 0, slots := 0, locals := 0 }) (v := 0) (upd f (2 : Int32).toNatClampNeg ((f (2 : Int32).toNatClampNeg) + 1)) hx hb hr hlocks (rfl) (Nat.le_of_ble_eq_true rfl) (Nat.le_of_ble_eq_true rfl) (rfl) hP hD hS dX9_isRefused_11
set_option maxHeartbeats 4000000 in
set_option maxRecDepth 100000 in
theorem kX9_refuses3 (l : Launch) (g : zL) (h0 : Nat) (m_told : Nat) (m_read : Nat) (m_now : Nat) (m_readNow : Nat) (m_kept : Nat) (m_tape : Nat) (m_refused : Nat) (m_ownLetters : Nat) (m_flats : Nat) (m_corner : Nat) (m_wayX : Nat) (m_wayY : Nat) (m_normal : Nat) (m_low : Nat) (m_high : Nat) (m_clear : Nat) (m_ways : Nat) (m_canBe : Nat) (m_lain : Nat) (m_fewestBy : Nat) (m_sortOf : Nat) (m_seenFlange : Nat) (m_seenLength : Nat) (f : Nat → Int32) : zCi l g yX9_refuses cX9_refuses 2 (some .int) { frames := 0, cells := 0, slots := 0, locals := 0 } [.ref h0, .int 3] [(h0, .inr (9, [.ref m_told, .ref m_read, .ref m_now, .ref m_readNow, .ref m_kept, .int 0, .int 1, .int 0, .ref m_tape, .int 0, .ref m_refused, .int 0, .int (-1), .int 0, .int 0, .int 0, .int 0, .int (-1), .ref m_ownLetters, .ref m_flats, .int 0, .ref m_corner, .ref m_wayX, .ref m_wayY, .ref m_normal, .ref m_low, .ref m_high, .ref m_clear, .ref m_ways, .ref m_canBe, .ref m_lain, .int 0, .ref m_fewestBy, .ref m_sortOf, .int 0, .ref m_seenFlange, .ref m_seenLength])), (m_refused, .inl (g.2.1.1, 6, .inl f))] (fun (r : Int32) (u : (Nat → Int32)) => r = (-1)) (fun (u : (Nat → Int32)) => [(h0, .inr (9, [.ref m_told, .ref m_read, .ref m_now, .ref m_readNow, .ref m_kept, .int 0, .int 1, .int 0, .ref m_tape, .int 0, .ref m_refused, .int 0, .int (-1), .int 0, .int 0, .int 0, .int 0, .int (-1), .ref m_ownLetters, .ref m_flats, .int 0, .ref m_corner, .ref m_wayX, .ref m_wayY, .ref m_normal, .ref m_low, .ref m_high, .ref m_clear, .ref m_ways, .ref m_canBe, .ref m_lain, .int 0, .ref m_fewestBy, .ref m_sortOf, .int 0, .ref m_seenFlange, .ref m_seenLength])), (m_refused, .inl (g.2.1.1, 6, .inl u))]) := by
  refine zCi.mk (by decide) (Nat.le_of_ble_eq_true rfl) ?_
  intro p e s m below meth c A hE hP hD hS ls hl
  obtain ⟨hx, hb, hr, hml, hown, hG, hlocks, hnm, hX, hA⟩ := hE
  have hown : s.vm.findClass RX9 = some m.cls := hown
  have hl : lv_has ls 2 [(0, .ref h0), (1, .int 3)] := hl
  refine lv_aload_n hx hb dX9_refuses_0 rfl (lv_at hl 0 rfl) ?_
  refine va_get (D := g.1) (ci := 9) (v := .ref m_refused) (C := RX9) (T := TX9) (N := 37) hx hb hG iX9 hown hX.1 hP 0 rfl rfl 10 (by decide) (hG _ g1427) (fun _ h9 => h9) rfl dX9_refuses_1 ?_
  refine lv_iload_n hx hb dX9_refuses_4 rfl (lv_at hl 1 rfl) ?_
  refine lv_dup2_11 hx hb dX9_refuses_5 rfl rfl ?_
  refine va_iald hx hb hX.1 hP 1 0 rfl rfl (vp_in_iff.mpr (by decide)) dX9_refuses_6 ?_
  refine lv_iconst (v := 1) hx hb dX9_refuses_7 (by decide) ?_
  refine lv_iadd hx hb dX9_refuses_8 ?_
  refine va_iast hx hb hX.1 hP hD hS 1 0 rfl rfl (vp_in_iff.mpr (by decide)) dX9_refuses_9 (fun H locs hP hD hS => ?_)
  have hP : va_P g.1 vwCl [(h0, .inr (9, [.ref m_told, .ref m_read, .ref m_now, .ref m_readNow, .ref m_kept, .int 0, .int 1, .int 0, .ref m_tape, .int 0, .ref m_refused, .int 0, .int (-1), .int 0, .int 0, .int 0, .int 0, .int (-1), .ref m_ownLetters, .ref m_flats, .int 0, .ref m_corner, .ref m_wayX, .ref m_wayY, .ref m_normal, .ref m_low, .ref m_high, .ref m_clear, .ref m_ways, .ref m_canBe, .ref m_lain, .int 0, .ref m_fewestBy, .ref m_sortOf, .int 0, .ref m_seenFlange, .ref m_seenLength])), (m_refused, .inl (g.2.1.1, 6, .inl (upd f (3 : Int32).toNatClampNeg ((f (3 : Int32).toNatClampNeg) + 1))))] H := hP
  have hD : va_D A [(h0, .inr (9, [.ref m_told, .ref m_read, .ref m_now, .ref m_readNow, .ref m_kept, .int 0, .int 1, .int 0, .ref m_tape, .int 0, .ref m_refused, .int 0, .int (-1), .int 0, .int 0, .int 0, .int 0, .int (-1), .ref m_ownLetters, .ref m_flats, .int 0, .ref m_corner, .ref m_wayX, .ref m_wayY, .ref m_normal, .ref m_low, .ref m_high, .ref m_clear, .ref m_ways, .ref m_canBe, .ref m_lain, .int 0, .ref m_fewestBy, .ref m_sortOf, .int 0, .ref m_seenFlange, .ref m_seenLength])), (m_refused, .inl (g.2.1.1, 6, .inl (upd f (3 : Int32).toNatClampNeg ((f (3 : Int32).toNatClampNeg) + 1))))] := hD
  refine lv_iconst (v := (-1)) hx hb dX9_refuses_10 (by decide) ?_
  exact zri (rm := { frames := 0, cells := 0, slots := 0, locals := 0 }) (v := (-1)) (upd f (3 : Int32).toNatClampNeg ((f (3 : Int32).toNatClampNeg) + 1)) hx hb hr hlocks (Nat.le_of_ble_eq_true rfl) (Nat.le_of_ble_eq_true rfl) (rfl) hP hD hS dX9_refuses_11
set_option maxHeartbeats 4000000 in
set_option maxRecDepth 100000 in
theorem kX9_isRefused3 (l : Launch) (g : zL) (h0 : Nat) (m_told : Nat) (m_read : Nat) (m_now : Nat) (m_readNow : Nat) (m_kept : Nat) (m_tape : Nat) (m_refused : Nat) (m_ownLetters : Nat) (m_flats : Nat) (m_corner : Nat) (m_wayX : Nat) (m_wayY : Nat) (m_normal : Nat) (m_low : Nat) (m_high : Nat) (m_clear : Nat) (m_ways : Nat) (m_canBe : Nat) (m_lain : Nat) (m_fewestBy : Nat) (m_sortOf : Nat) (m_seenFlange : Nat) (m_seenLength : Nat) (f : Nat → Int32) : zCi l g yX9_isRefused cX9_isRefused 2 (some .boolean) { frames := 0, cells := 0, slots := 0, locals := 0 } [.ref h0, .int 3] [(h0, .inr (9, [.ref m_told, .ref m_read, .ref m_now, .ref m_readNow, .ref m_kept, .int 0, .int 1, .int 0, .ref m_tape, .int 0, .ref m_refused, .int 0, .int (-1), .int 0, .int 0, .int 0, .int 0, .int (-1), .ref m_ownLetters, .ref m_flats, .int 0, .ref m_corner, .ref m_wayX, .ref m_wayY, .ref m_normal, .ref m_low, .ref m_high, .ref m_clear, .ref m_ways, .ref m_canBe, .ref m_lain, .int 0, .ref m_fewestBy, .ref m_sortOf, .int 0, .ref m_seenFlange, .ref m_seenLength])), (m_refused, .inl (g.2.1.1, 6, .inl f))] (fun (r : Int32) (u : (Nat → Int32)) => r = 0) (fun (u : (Nat → Int32)) => [(h0, .inr (9, [.ref m_told, .ref m_read, .ref m_now, .ref m_readNow, .ref m_kept, .int 0, .int 1, .int 0, .ref m_tape, .int 0, .ref m_refused, .int 0, .int (-1), .int 0, .int 0, .int 0, .int 0, .int (-1), .ref m_ownLetters, .ref m_flats, .int 0, .ref m_corner, .ref m_wayX, .ref m_wayY, .ref m_normal, .ref m_low, .ref m_high, .ref m_clear, .ref m_ways, .ref m_canBe, .ref m_lain, .int 0, .ref m_fewestBy, .ref m_sortOf, .int 0, .ref m_seenFlange, .ref m_seenLength])), (m_refused, .inl (g.2.1.1, 6, .inl u))]) := by
  refine zCi.mk (by decide) (Nat.le_of_ble_eq_true rfl) ?_
  intro p e s m below meth c A hE hP hD hS ls hl
  obtain ⟨hx, hb, hr, hml, hown, hG, hlocks, hnm, hX, hA⟩ := hE
  have hown : s.vm.findClass RX9 = some m.cls := hown
  have hl : lv_has ls 2 [(0, .ref h0), (1, .int 3)] := hl
  refine lv_aload_n hx hb dX9_isRefused_0 rfl (lv_at hl 0 rfl) ?_
  refine va_get (D := g.1) (ci := 9) (v := .ref m_refused) (C := RX9) (T := TX9) (N := 37) hx hb hG iX9 hown hX.1 hP 0 rfl rfl 10 (by decide) (hG _ g1427) (fun _ h9 => h9) rfl dX9_isRefused_1 ?_
  refine lv_iload_n hx hb dX9_isRefused_4 rfl (lv_at hl 1 rfl) ?_
  refine lv_dup2_11 hx hb dX9_isRefused_5 rfl rfl ?_
  refine va_iald hx hb hX.1 hP 1 0 rfl rfl (vp_in_iff.mpr (by decide)) dX9_isRefused_6 ?_
  refine lv_iconst (v := 1) hx hb dX9_isRefused_7 (by decide) ?_
  refine lv_iadd hx hb dX9_isRefused_8 ?_
  refine va_iast hx hb hX.1 hP hD hS 1 0 rfl rfl (vp_in_iff.mpr (by decide)) dX9_isRefused_9 (fun H locs hP hD hS => ?_)
  have hP : va_P g.1 vwCl [(h0, .inr (9, [.ref m_told, .ref m_read, .ref m_now, .ref m_readNow, .ref m_kept, .int 0, .int 1, .int 0, .ref m_tape, .int 0, .ref m_refused, .int 0, .int (-1), .int 0, .int 0, .int 0, .int 0, .int (-1), .ref m_ownLetters, .ref m_flats, .int 0, .ref m_corner, .ref m_wayX, .ref m_wayY, .ref m_normal, .ref m_low, .ref m_high, .ref m_clear, .ref m_ways, .ref m_canBe, .ref m_lain, .int 0, .ref m_fewestBy, .ref m_sortOf, .int 0, .ref m_seenFlange, .ref m_seenLength])), (m_refused, .inl (g.2.1.1, 6, .inl (upd f (3 : Int32).toNatClampNeg ((f (3 : Int32).toNatClampNeg) + 1))))] H := hP
  have hD : va_D A [(h0, .inr (9, [.ref m_told, .ref m_read, .ref m_now, .ref m_readNow, .ref m_kept, .int 0, .int 1, .int 0, .ref m_tape, .int 0, .ref m_refused, .int 0, .int (-1), .int 0, .int 0, .int 0, .int 0, .int (-1), .ref m_ownLetters, .ref m_flats, .int 0, .ref m_corner, .ref m_wayX, .ref m_wayY, .ref m_normal, .ref m_low, .ref m_high, .ref m_clear, .ref m_ways, .ref m_canBe, .ref m_lain, .int 0, .ref m_fewestBy, .ref m_sortOf, .int 0, .ref m_seenFlange, .ref m_seenLength])), (m_refused, .inl (g.2.1.1, 6, .inl (upd f (3 : Int32).toNatClampNeg ((f (3 : Int32).toNatClampNeg) + 1))))] := hD
  refine lv_iconst (v := 0) hx hb dX9_isRefused_10 (by decide) ?_
  exact zrz (rm := { frames := 0, cells := 0, slots := 0, locals := 0 }) (v := 0) (upd f (3 : Int32).toNatClampNeg ((f (3 : Int32).toNatClampNeg) + 1)) hx hb hr hlocks (rfl) (Nat.le_of_ble_eq_true rfl) (Nat.le_of_ble_eq_true rfl) (rfl) hP hD hS dX9_isRefused_11
set_option maxHeartbeats 4000000 in
set_option maxRecDepth 100000 in
theorem kX9_refuses4 (l : Launch) (g : zL) (h0 : Nat) (m_told : Nat) (m_read : Nat) (m_now : Nat) (m_readNow : Nat) (m_kept : Nat) (m_tape : Nat) (m_refused : Nat) (m_ownLetters : Nat) (m_flats : Nat) (m_corner : Nat) (m_wayX : Nat) (m_wayY : Nat) (m_normal : Nat) (m_low : Nat) (m_high : Nat) (m_clear : Nat) (m_ways : Nat) (m_canBe : Nat) (m_lain : Nat) (m_fewestBy : Nat) (m_sortOf : Nat) (m_seenFlange : Nat) (m_seenLength : Nat) (f : Nat → Int32) : zCi l g yX9_refuses cX9_refuses 2 (some .int) { frames := 0, cells := 0, slots := 0, locals := 0 } [.ref h0, .int 4] [(h0, .inr (9, [.ref m_told, .ref m_read, .ref m_now, .ref m_readNow, .ref m_kept, .int 0, .int 1, .int 0, .ref m_tape, .int 0, .ref m_refused, .int 0, .int (-1), .int 0, .int 0, .int 0, .int 0, .int (-1), .ref m_ownLetters, .ref m_flats, .int 0, .ref m_corner, .ref m_wayX, .ref m_wayY, .ref m_normal, .ref m_low, .ref m_high, .ref m_clear, .ref m_ways, .ref m_canBe, .ref m_lain, .int 0, .ref m_fewestBy, .ref m_sortOf, .int 0, .ref m_seenFlange, .ref m_seenLength])), (m_refused, .inl (g.2.1.1, 6, .inl f))] (fun (r : Int32) (u : (Nat → Int32)) => r = (-1)) (fun (u : (Nat → Int32)) => [(h0, .inr (9, [.ref m_told, .ref m_read, .ref m_now, .ref m_readNow, .ref m_kept, .int 0, .int 1, .int 0, .ref m_tape, .int 0, .ref m_refused, .int 0, .int (-1), .int 0, .int 0, .int 0, .int 0, .int (-1), .ref m_ownLetters, .ref m_flats, .int 0, .ref m_corner, .ref m_wayX, .ref m_wayY, .ref m_normal, .ref m_low, .ref m_high, .ref m_clear, .ref m_ways, .ref m_canBe, .ref m_lain, .int 0, .ref m_fewestBy, .ref m_sortOf, .int 0, .ref m_seenFlange, .ref m_seenLength])), (m_refused, .inl (g.2.1.1, 6, .inl u))]) := by
  refine zCi.mk (by decide) (Nat.le_of_ble_eq_true rfl) ?_
  intro p e s m below meth c A hE hP hD hS ls hl
  obtain ⟨hx, hb, hr, hml, hown, hG, hlocks, hnm, hX, hA⟩ := hE
  have hown : s.vm.findClass RX9 = some m.cls := hown
  have hl : lv_has ls 2 [(0, .ref h0), (1, .int 4)] := hl
  refine lv_aload_n hx hb dX9_refuses_0 rfl (lv_at hl 0 rfl) ?_
  refine va_get (D := g.1) (ci := 9) (v := .ref m_refused) (C := RX9) (T := TX9) (N := 37) hx hb hG iX9 hown hX.1 hP 0 rfl rfl 10 (by decide) (hG _ g1427) (fun _ h9 => h9) rfl dX9_refuses_1 ?_
  refine lv_iload_n hx hb dX9_refuses_4 rfl (lv_at hl 1 rfl) ?_
  refine lv_dup2_11 hx hb dX9_refuses_5 rfl rfl ?_
  refine va_iald hx hb hX.1 hP 1 0 rfl rfl (vp_in_iff.mpr (by decide)) dX9_refuses_6 ?_
  refine lv_iconst (v := 1) hx hb dX9_refuses_7 (by decide) ?_
  refine lv_iadd hx hb dX9_refuses_8 ?_
  refine va_iast hx hb hX.1 hP hD hS 1 0 rfl rfl (vp_in_iff.mpr (by decide)) dX9_refuses_9 (fun H locs hP hD hS => ?_)
  have hP : va_P g.1 vwCl [(h0, .inr (9, [.ref m_told, .ref m_read, .ref m_now, .ref m_readNow, .ref m_kept, .int 0, .int 1, .int 0, .ref m_tape, .int 0, .ref m_refused, .int 0, .int (-1), .int 0, .int 0, .int 0, .int 0, .int (-1), .ref m_ownLetters, .ref m_flats, .int 0, .ref m_corner, .ref m_wayX, .ref m_wayY, .ref m_normal, .ref m_low, .ref m_high, .ref m_clear, .ref m_ways, .ref m_canBe, .ref m_lain, .int 0, .ref m_fewestBy, .ref m_sortOf, .int 0, .ref m_seenFlange, .ref m_seenLength])), (m_refused, .inl (g.2.1.1, 6, .inl (upd f (4 : Int32).toNatClampNeg ((f (4 : Int32).toNatClampNeg) + 1))))] H := hP
  have hD : va_D A [(h0, .inr (9, [.ref m_told, .ref m_read, .ref m_now, .ref m_readNow, .ref m_kept, .int 0, .int 1, .int 0, .ref m_tape, .int 0, .ref m_refused, .int 0, .int (-1), .int 0, .int 0, .int 0, .int 0, .int (-1), .ref m_ownLetters, .ref m_flats, .int 0, .ref m_corner, .ref m_wayX, .ref m_wayY, .ref m_normal, .ref m_low, .ref m_high, .ref m_clear, .ref m_ways, .ref m_canBe, .ref m_lain, .int 0, .ref m_fewestBy, .ref m_sortOf, .int 0, .ref m_seenFlange, .ref m_seenLength])), (m_refused, .inl (g.2.1.1, 6, .inl (upd f (4 : Int32).toNatClampNeg ((f (4 : Int32).toNatClampNeg) + 1))))] := hD
  refine lv_iconst (v := (-1)) hx hb dX9_refuses_10 (by decide) ?_
  exact zri (rm := { frames := 0, cells := 0, slots := 0, locals := 0 }) (v := (-1)) (upd f (4 : Int32).toNatClampNeg ((f (4 : Int32).toNatClampNeg) + 1)) hx hb hr hlocks (Nat.le_of_ble_eq_true rfl) (Nat.le_of_ble_eq_true rfl) (rfl) hP hD hS dX9_refuses_11
set_option maxHeartbeats 4000000 in
set_option maxRecDepth 100000 in
theorem kX9_isRefused4 (l : Launch) (g : zL) (h0 : Nat) (m_told : Nat) (m_read : Nat) (m_now : Nat) (m_readNow : Nat) (m_kept : Nat) (m_tape : Nat) (m_refused : Nat) (m_ownLetters : Nat) (m_flats : Nat) (m_corner : Nat) (m_wayX : Nat) (m_wayY : Nat) (m_normal : Nat) (m_low : Nat) (m_high : Nat) (m_clear : Nat) (m_ways : Nat) (m_canBe : Nat) (m_lain : Nat) (m_fewestBy : Nat) (m_sortOf : Nat) (m_seenFlange : Nat) (m_seenLength : Nat) (f : Nat → Int32) : zCi l g yX9_isRefused cX9_isRefused 2 (some .boolean) { frames := 0, cells := 0, slots := 0, locals := 0 } [.ref h0, .int 4] [(h0, .inr (9, [.ref m_told, .ref m_read, .ref m_now, .ref m_readNow, .ref m_kept, .int 0, .int 1, .int 0, .ref m_tape, .int 0, .ref m_refused, .int 0, .int (-1), .int 0, .int 0, .int 0, .int 0, .int (-1), .ref m_ownLetters, .ref m_flats, .int 0, .ref m_corner, .ref m_wayX, .ref m_wayY, .ref m_normal, .ref m_low, .ref m_high, .ref m_clear, .ref m_ways, .ref m_canBe, .ref m_lain, .int 0, .ref m_fewestBy, .ref m_sortOf, .int 0, .ref m_seenFlange, .ref m_seenLength])), (m_refused, .inl (g.2.1.1, 6, .inl f))] (fun (r : Int32) (u : (Nat → Int32)) => r = 0) (fun (u : (Nat → Int32)) => [(h0, .inr (9, [.ref m_told, .ref m_read, .ref m_now, .ref m_readNow, .ref m_kept, .int 0, .int 1, .int 0, .ref m_tape, .int 0, .ref m_refused, .int 0, .int (-1), .int 0, .int 0, .int 0, .int 0, .int (-1), .ref m_ownLetters, .ref m_flats, .int 0, .ref m_corner, .ref m_wayX, .ref m_wayY, .ref m_normal, .ref m_low, .ref m_high, .ref m_clear, .ref m_ways, .ref m_canBe, .ref m_lain, .int 0, .ref m_fewestBy, .ref m_sortOf, .int 0, .ref m_seenFlange, .ref m_seenLength])), (m_refused, .inl (g.2.1.1, 6, .inl u))]) := by
  refine zCi.mk (by decide) (Nat.le_of_ble_eq_true rfl) ?_
  intro p e s m below meth c A hE hP hD hS ls hl
  obtain ⟨hx, hb, hr, hml, hown, hG, hlocks, hnm, hX, hA⟩ := hE
  have hown : s.vm.findClass RX9 = some m.cls := hown
  have hl : lv_has ls 2 [(0, .ref h0), (1, .int 4)] := hl
  refine lv_aload_n hx hb dX9_isRefused_0 rfl (lv_at hl 0 rfl) ?_
  refine va_get (D := g.1) (ci := 9) (v := .ref m_refused) (C := RX9) (T := TX9) (N := 37) hx hb hG iX9 hown hX.1 hP 0 rfl rfl 10 (by decide) (hG _ g1427) (fun _ h9 => h9) rfl dX9_isRefused_1 ?_
  refine lv_iload_n hx hb dX9_isRefused_4 rfl (lv_at hl 1 rfl) ?_
  refine lv_dup2_11 hx hb dX9_isRefused_5 rfl rfl ?_
  refine va_iald hx hb hX.1 hP 1 0 rfl rfl (vp_in_iff.mpr (by decide)) dX9_isRefused_6 ?_
  refine lv_iconst (v := 1) hx hb dX9_isRefused_7 (by decide) ?_
  refine lv_iadd hx hb dX9_isRefused_8 ?_
  refine va_iast hx hb hX.1 hP hD hS 1 0 rfl rfl (vp_in_iff.mpr (by decide)) dX9_isRefused_9 (fun H locs hP hD hS => ?_)
  have hP : va_P g.1 vwCl [(h0, .inr (9, [.ref m_told, .ref m_read, .ref m_now, .ref m_readNow, .ref m_kept, .int 0, .int 1, .int 0, .ref m_tape, .int 0, .ref m_refused, .int 0, .int (-1), .int 0, .int 0, .int 0, .int 0, .int (-1), .ref m_ownLetters, .ref m_flats, .int 0, .ref m_corner, .ref m_wayX, .ref m_wayY, .ref m_normal, .ref m_low, .ref m_high, .ref m_clear, .ref m_ways, .ref m_canBe, .ref m_lain, .int 0, .ref m_fewestBy, .ref m_sortOf, .int 0, .ref m_seenFlange, .ref m_seenLength])), (m_refused, .inl (g.2.1.1, 6, .inl (upd f (4 : Int32).toNatClampNeg ((f (4 : Int32).toNatClampNeg) + 1))))] H := hP
  have hD : va_D A [(h0, .inr (9, [.ref m_told, .ref m_read, .ref m_now, .ref m_readNow, .ref m_kept, .int 0, .int 1, .int 0, .ref m_tape, .int 0, .ref m_refused, .int 0, .int (-1), .int 0, .int 0, .int 0, .int 0, .int (-1), .ref m_ownLetters, .ref m_flats, .int 0, .ref m_corner, .ref m_wayX, .ref m_wayY, .ref m_normal, .ref m_low, .ref m_high, .ref m_clear, .ref m_ways, .ref m_canBe, .ref m_lain, .int 0, .ref m_fewestBy, .ref m_sortOf, .int 0, .ref m_seenFlange, .ref m_seenLength])), (m_refused, .inl (g.2.1.1, 6, .inl (upd f (4 : Int32).toNatClampNeg ((f (4 : Int32).toNatClampNeg) + 1))))] := hD
  refine lv_iconst (v := 0) hx hb dX9_isRefused_10 (by decide) ?_
  exact zrz (rm := { frames := 0, cells := 0, slots := 0, locals := 0 }) (v := 0) (upd f (4 : Int32).toNatClampNeg ((f (4 : Int32).toNatClampNeg) + 1)) hx hb hr hlocks (rfl) (Nat.le_of_ble_eq_true rfl) (Nat.le_of_ble_eq_true rfl) (rfl) hP hD hS dX9_isRefused_11
set_option maxHeartbeats 4000000 in
set_option maxRecDepth 100000 in
theorem kX9_refuses5 (l : Launch) (g : zL) (h0 : Nat) (m_told : Nat) (m_read : Nat) (m_now : Nat) (m_readNow : Nat) (m_kept : Nat) (m_tape : Nat) (m_refused : Nat) (m_ownLetters : Nat) (m_flats : Nat) (m_corner : Nat) (m_wayX : Nat) (m_wayY : Nat) (m_normal : Nat) (m_low : Nat) (m_high : Nat) (m_clear : Nat) (m_ways : Nat) (m_canBe : Nat) (m_lain : Nat) (m_fewestBy : Nat) (m_sortOf : Nat) (m_seenFlange : Nat) (m_seenLength : Nat) (f : Nat → Int32) : zCi l g yX9_refuses cX9_refuses 2 (some .int) { frames := 0, cells := 0, slots := 0, locals := 0 } [.ref h0, .int 5] [(h0, .inr (9, [.ref m_told, .ref m_read, .ref m_now, .ref m_readNow, .ref m_kept, .int 0, .int 1, .int 0, .ref m_tape, .int 0, .ref m_refused, .int 0, .int (-1), .int 0, .int 0, .int 0, .int 0, .int (-1), .ref m_ownLetters, .ref m_flats, .int 0, .ref m_corner, .ref m_wayX, .ref m_wayY, .ref m_normal, .ref m_low, .ref m_high, .ref m_clear, .ref m_ways, .ref m_canBe, .ref m_lain, .int 0, .ref m_fewestBy, .ref m_sortOf, .int 0, .ref m_seenFlange, .ref m_seenLength])), (m_refused, .inl (g.2.1.1, 6, .inl f))] (fun (r : Int32) (u : (Nat → Int32)) => r = (-1)) (fun (u : (Nat → Int32)) => [(h0, .inr (9, [.ref m_told, .ref m_read, .ref m_now, .ref m_readNow, .ref m_kept, .int 0, .int 1, .int 0, .ref m_tape, .int 0, .ref m_refused, .int 0, .int (-1), .int 0, .int 0, .int 0, .int 0, .int (-1), .ref m_ownLetters, .ref m_flats, .int 0, .ref m_corner, .ref m_wayX, .ref m_wayY, .ref m_normal, .ref m_low, .ref m_high, .ref m_clear, .ref m_ways, .ref m_canBe, .ref m_lain, .int 0, .ref m_fewestBy, .ref m_sortOf, .int 0, .ref m_seenFlange, .ref m_seenLength])), (m_refused, .inl (g.2.1.1, 6, .inl u))]) := by
  refine zCi.mk (by decide) (Nat.le_of_ble_eq_true rfl) ?_
  intro p e s m below meth c A hE hP hD hS ls hl
  obtain ⟨hx, hb, hr, hml, hown, hG, hlocks, hnm, hX, hA⟩ := hE
  have hown : s.vm.findClass RX9 = some m.cls := hown
  have hl : lv_has ls 2 [(0, .ref h0), (1, .int 5)] := hl
  refine lv_aload_n hx hb dX9_refuses_0 rfl (lv_at hl 0 rfl) ?_
  refine va_get (D := g.1) (ci := 9) (v := .ref m_refused) (C := RX9) (T := TX9) (N := 37) hx hb hG iX9 hown hX.1 hP 0 rfl rfl 10 (by decide) (hG _ g1427) (fun _ h9 => h9) rfl dX9_refuses_1 ?_
  refine lv_iload_n hx hb dX9_refuses_4 rfl (lv_at hl 1 rfl) ?_
  refine lv_dup2_11 hx hb dX9_refuses_5 rfl rfl ?_
  refine va_iald hx hb hX.1 hP 1 0 rfl rfl (vp_in_iff.mpr (by decide)) dX9_refuses_6 ?_
  refine lv_iconst (v := 1) hx hb dX9_refuses_7 (by decide) ?_
  refine lv_iadd hx hb dX9_refuses_8 ?_
  refine va_iast hx hb hX.1 hP hD hS 1 0 rfl rfl (vp_in_iff.mpr (by decide)) dX9_refuses_9 (fun H locs hP hD hS => ?_)
  have hP : va_P g.1 vwCl [(h0, .inr (9, [.ref m_told, .ref m_read, .ref m_now, .ref m_readNow, .ref m_kept, .int 0, .int 1, .int 0, .ref m_tape, .int 0, .ref m_refused, .int 0, .int (-1), .int 0, .int 0, .int 0, .int 0, .int (-1), .ref m_ownLetters, .ref m_flats, .int 0, .ref m_corner, .ref m_wayX, .ref m_wayY, .ref m_normal, .ref m_low, .ref m_high, .ref m_clear, .ref m_ways, .ref m_canBe, .ref m_lain, .int 0, .ref m_fewestBy, .ref m_sortOf, .int 0, .ref m_seenFlange, .ref m_seenLength])), (m_refused, .inl (g.2.1.1, 6, .inl (upd f (5 : Int32).toNatClampNeg ((f (5 : Int32).toNatClampNeg) + 1))))] H := hP
  have hD : va_D A [(h0, .inr (9, [.ref m_told, .ref m_read, .ref m_now, .ref m_readNow, .ref m_kept, .int 0, .int 1, .int 0, .ref m_tape, .int 0, .ref m_refused, .int 0, .int (-1), .int 0, .int 0, .int 0, .int 0, .int (-1), .ref m_ownLetters, .ref m_flats, .int 0, .ref m_corner, .ref m_wayX, .ref m_wayY, .ref m_normal, .ref m_low, .ref m_high, .ref m_clear, .ref m_ways, .ref m_canBe, .ref m_lain, .int 0, .ref m_fewestBy, .ref m_sortOf, .int 0, .ref m_seenFlange, .ref m_seenLength])), (m_refused, .inl (g.2.1.1, 6, .inl (upd f (5 : Int32).toNatClampNeg ((f (5 : Int32).toNatClampNeg) + 1))))] := hD
  refine lv_iconst (v := (-1)) hx hb dX9_refuses_10 (by decide) ?_
  exact zri (rm := { frames := 0, cells := 0, slots := 0, locals := 0 }) (v := (-1)) (upd f (5 : Int32).toNatClampNeg ((f (5 : Int32).toNatClampNeg) + 1)) hx hb hr hlocks (Nat.le_of_ble_eq_true rfl) (Nat.le_of_ble_eq_true rfl) (rfl) hP hD hS dX9_refuses_11
set_option maxHeartbeats 4000000 in
set_option maxRecDepth 100000 in
theorem kX9_isRefused5 (l : Launch) (g : zL) (h0 : Nat) (m_told : Nat) (m_read : Nat) (m_now : Nat) (m_readNow : Nat) (m_kept : Nat) (m_tape : Nat) (m_refused : Nat) (m_ownLetters : Nat) (m_flats : Nat) (m_corner : Nat) (m_wayX : Nat) (m_wayY : Nat) (m_normal : Nat) (m_low : Nat) (m_high : Nat) (m_clear : Nat) (m_ways : Nat) (m_canBe : Nat) (m_lain : Nat) (m_fewestBy : Nat) (m_sortOf : Nat) (m_seenFlange : Nat) (m_seenLength : Nat) (f : Nat → Int32) : zCi l g yX9_isRefused cX9_isRefused 2 (some .boolean) { frames := 0, cells := 0, slots := 0, locals := 0 } [.ref h0, .int 5] [(h0, .inr (9, [.ref m_told, .ref m_read, .ref m_now, .ref m_readNow, .ref m_kept, .int 0, .int 1, .int 0, .ref m_tape, .int 0, .ref m_refused, .int 0, .int (-1), .int 0, .int 0, .int 0, .int 0, .int (-1), .ref m_ownLetters, .ref m_flats, .int 0, .ref m_corner, .ref m_wayX, .ref m_wayY, .ref m_normal, .ref m_low, .ref m_high, .ref m_clear, .ref m_ways, .ref m_canBe, .ref m_lain, .int 0, .ref m_fewestBy, .ref m_sortOf, .int 0, .ref m_seenFlange, .ref m_seenLength])), (m_refused, .inl (g.2.1.1, 6, .inl f))] (fun (r : Int32) (u : (Nat → Int32)) => r = 0) (fun (u : (Nat → Int32)) => [(h0, .inr (9, [.ref m_told, .ref m_read, .ref m_now, .ref m_readNow, .ref m_kept, .int 0, .int 1, .int 0, .ref m_tape, .int 0, .ref m_refused, .int 0, .int (-1), .int 0, .int 0, .int 0, .int 0, .int (-1), .ref m_ownLetters, .ref m_flats, .int 0, .ref m_corner, .ref m_wayX, .ref m_wayY, .ref m_normal, .ref m_low, .ref m_high, .ref m_clear, .ref m_ways, .ref m_canBe, .ref m_lain, .int 0, .ref m_fewestBy, .ref m_sortOf, .int 0, .ref m_seenFlange, .ref m_seenLength])), (m_refused, .inl (g.2.1.1, 6, .inl u))]) := by
  refine zCi.mk (by decide) (Nat.le_of_ble_eq_true rfl) ?_
  intro p e s m below meth c A hE hP hD hS ls hl
  obtain ⟨hx, hb, hr, hml, hown, hG, hlocks, hnm, hX, hA⟩ := hE
  have hown : s.vm.findClass RX9 = some m.cls := hown
  have hl : lv_has ls 2 [(0, .ref h0), (1, .int 5)] := hl
  refine lv_aload_n hx hb dX9_isRefused_0 rfl (lv_at hl 0 rfl) ?_
  refine va_get (D := g.1) (ci := 9) (v := .ref m_refused) (C := RX9) (T := TX9) (N := 37) hx hb hG iX9 hown hX.1 hP 0 rfl rfl 10 (by decide) (hG _ g1427) (fun _ h9 => h9) rfl dX9_isRefused_1 ?_
  refine lv_iload_n hx hb dX9_isRefused_4 rfl (lv_at hl 1 rfl) ?_
  refine lv_dup2_11 hx hb dX9_isRefused_5 rfl rfl ?_
  refine va_iald hx hb hX.1 hP 1 0 rfl rfl (vp_in_iff.mpr (by decide)) dX9_isRefused_6 ?_
  refine lv_iconst (v := 1) hx hb dX9_isRefused_7 (by decide) ?_
  refine lv_iadd hx hb dX9_isRefused_8 ?_
  refine va_iast hx hb hX.1 hP hD hS 1 0 rfl rfl (vp_in_iff.mpr (by decide)) dX9_isRefused_9 (fun H locs hP hD hS => ?_)
  have hP : va_P g.1 vwCl [(h0, .inr (9, [.ref m_told, .ref m_read, .ref m_now, .ref m_readNow, .ref m_kept, .int 0, .int 1, .int 0, .ref m_tape, .int 0, .ref m_refused, .int 0, .int (-1), .int 0, .int 0, .int 0, .int 0, .int (-1), .ref m_ownLetters, .ref m_flats, .int 0, .ref m_corner, .ref m_wayX, .ref m_wayY, .ref m_normal, .ref m_low, .ref m_high, .ref m_clear, .ref m_ways, .ref m_canBe, .ref m_lain, .int 0, .ref m_fewestBy, .ref m_sortOf, .int 0, .ref m_seenFlange, .ref m_seenLength])), (m_refused, .inl (g.2.1.1, 6, .inl (upd f (5 : Int32).toNatClampNeg ((f (5 : Int32).toNatClampNeg) + 1))))] H := hP
  have hD : va_D A [(h0, .inr (9, [.ref m_told, .ref m_read, .ref m_now, .ref m_readNow, .ref m_kept, .int 0, .int 1, .int 0, .ref m_tape, .int 0, .ref m_refused, .int 0, .int (-1), .int 0, .int 0, .int 0, .int 0, .int (-1), .ref m_ownLetters, .ref m_flats, .int 0, .ref m_corner, .ref m_wayX, .ref m_wayY, .ref m_normal, .ref m_low, .ref m_high, .ref m_clear, .ref m_ways, .ref m_canBe, .ref m_lain, .int 0, .ref m_fewestBy, .ref m_sortOf, .int 0, .ref m_seenFlange, .ref m_seenLength])), (m_refused, .inl (g.2.1.1, 6, .inl (upd f (5 : Int32).toNatClampNeg ((f (5 : Int32).toNatClampNeg) + 1))))] := hD
  refine lv_iconst (v := 0) hx hb dX9_isRefused_10 (by decide) ?_
  exact zrz (rm := { frames := 0, cells := 0, slots := 0, locals := 0 }) (v := 0) (upd f (5 : Int32).toNatClampNeg ((f (5 : Int32).toNatClampNeg) + 1)) hx hb hr hlocks (rfl) (Nat.le_of_ble_eq_true rfl) (Nat.le_of_ble_eq_true rfl) (rfl) hP hD hS dX9_isRefused_11
theorem dX9_isIn_0 : decode cX9_isIn 0 = .ok (.iload_n 0, 1) := by decide +kernel
theorem dX9_isIn_1 : decode cX9_isIn 1 = .ok (.iload_n 1, 1) := by decide +kernel
theorem dX9_isIn_2 : decode cX9_isIn 2 = .ok (.if_icmp .lt 12, 3) := by decide +kernel
theorem dX9_isIn_14 : decode cX9_isIn 14 = .ok (.iconst 0, 1) := by decide +kernel
theorem dX9_isIn_15 : decode cX9_isIn 15 = .ok (.ireturn, 1) := by decide +kernel
theorem dX9_isIn_5 : decode cX9_isIn 5 = .ok (.iload_n 0, 1) := by decide +kernel
theorem dX9_isIn_6 : decode cX9_isIn 6 = .ok (.iload_n 2, 1) := by decide +kernel
theorem dX9_isIn_7 : decode cX9_isIn 7 = .ok (.if_icmp .gt 7, 3) := by decide +kernel
set_option maxHeartbeats 4000000 in
set_option maxRecDepth 100000 in
theorem kX9_isIne0 (l : Launch) (g : zL) (x : Int32) : zCi l g yX9_isIn cX9_isIn 3 (some .boolean) { frames := 0, cells := 0, slots := 0, locals := 0 } [.int x, .int 0, .int (-1)] [] (fun (r : Int32) (u : Unit) => r = 0) (fun (u : Unit) => []) := by
  refine zCi.mk (by decide) (Nat.le_of_ble_eq_true rfl) ?_
  intro p e s m below meth c A hE hP hD hS ls hl
  obtain ⟨hx, hb, hr, hml, hown, hG, hlocks, hnm, hX, hA⟩ := hE
  have hown : s.vm.findClass RX9 = some m.cls := hown
  have hl : lv_has ls 3 [(0, .int x), (1, .int 0), (2, .int (-1))] := hl
  refine lv_iload_n hx hb dX9_isIn_0 rfl (lv_at hl 0 rfl) ?_
  refine lv_iload_n hx hb dX9_isIn_1 rfl (lv_at hl 1 rfl) ?_
  refine lv_icmp_lt (tgt := 14) hx hb dX9_isIn_2 (by decide) (fun c2 => ?_) (fun c2 => ?_)
  · skip
    have c2i : x.toInt < 0 := (zc_lt (rfl : x.toInt = _) (show (0 : Int32).toInt = 0 from by decide)).mp c2
    refine lv_iconst (v := 0) hx hb dX9_isIn_14 (by decide) ?_
    exact zrz (rm := { frames := 0, cells := 0, slots := 0, locals := 0 }) (v := 0) () hx hb hr hlocks (rfl) (Nat.le_of_ble_eq_true rfl) (Nat.le_of_ble_eq_true rfl) (rfl) hP hD hS dX9_isIn_15
  · skip
    have c2i : ¬ x.toInt < 0 := fun q => c2 ((zc_lt (rfl : x.toInt = _) (show (0 : Int32).toInt = 0 from by decide)).mpr q)
    refine lv_iload_n hx hb dX9_isIn_5 rfl (lv_at hl 0 rfl) ?_
    refine lv_iload_n hx hb dX9_isIn_6 rfl (lv_at hl 2 rfl) ?_
    refine lv_icmp_gt (tgt := 14) hx hb dX9_isIn_7 (by decide) (fun c7 => ?_) (fun c7 => (c7 (by rw [zc_lt (show (-1 : Int32).toInt = -1 from by decide) (rfl : x.toInt = _)]; omega)).elim)
    refine lv_iconst (v := 0) hx hb dX9_isIn_14 (by decide) ?_
    exact zrz (rm := { frames := 0, cells := 0, slots := 0, locals := 0 }) (v := 0) () hx hb hr hlocks (rfl) (Nat.le_of_ble_eq_true rfl) (Nat.le_of_ble_eq_true rfl) (rfl) hP hD hS dX9_isIn_15
set_option maxHeartbeats 4000000 in
set_option maxRecDepth 100000 in
theorem kX9_isIne1 (l : Launch) (g : zL) (x : Int32) : zCi l g yX9_isIn cX9_isIn 3 (some .boolean) { frames := 0, cells := 0, slots := 0, locals := 0 } [.int x, .int 1, .int 0] [] (fun (r : Int32) (u : Unit) => r = 0) (fun (u : Unit) => []) := by
  refine zCi.mk (by decide) (Nat.le_of_ble_eq_true rfl) ?_
  intro p e s m below meth c A hE hP hD hS ls hl
  obtain ⟨hx, hb, hr, hml, hown, hG, hlocks, hnm, hX, hA⟩ := hE
  have hown : s.vm.findClass RX9 = some m.cls := hown
  have hl : lv_has ls 3 [(0, .int x), (1, .int 1), (2, .int 0)] := hl
  refine lv_iload_n hx hb dX9_isIn_0 rfl (lv_at hl 0 rfl) ?_
  refine lv_iload_n hx hb dX9_isIn_1 rfl (lv_at hl 1 rfl) ?_
  refine lv_icmp_lt (tgt := 14) hx hb dX9_isIn_2 (by decide) (fun c2 => ?_) (fun c2 => ?_)
  · skip
    have c2i : x.toInt < 1 := (zc_lt (rfl : x.toInt = _) (show (1 : Int32).toInt = 1 from by decide)).mp c2
    refine lv_iconst (v := 0) hx hb dX9_isIn_14 (by decide) ?_
    exact zrz (rm := { frames := 0, cells := 0, slots := 0, locals := 0 }) (v := 0) () hx hb hr hlocks (rfl) (Nat.le_of_ble_eq_true rfl) (Nat.le_of_ble_eq_true rfl) (rfl) hP hD hS dX9_isIn_15
  · skip
    have c2i : ¬ x.toInt < 1 := fun q => c2 ((zc_lt (rfl : x.toInt = _) (show (1 : Int32).toInt = 1 from by decide)).mpr q)
    refine lv_iload_n hx hb dX9_isIn_5 rfl (lv_at hl 0 rfl) ?_
    refine lv_iload_n hx hb dX9_isIn_6 rfl (lv_at hl 2 rfl) ?_
    refine lv_icmp_gt (tgt := 14) hx hb dX9_isIn_7 (by decide) (fun c7 => ?_) (fun c7 => (c7 (by rw [zc_lt (show (0 : Int32).toInt = 0 from by decide) (rfl : x.toInt = _)]; omega)).elim)
    refine lv_iconst (v := 0) hx hb dX9_isIn_14 (by decide) ?_
    exact zrz (rm := { frames := 0, cells := 0, slots := 0, locals := 0 }) (v := 0) () hx hb hr hlocks (rfl) (Nat.le_of_ble_eq_true rfl) (Nat.le_of_ble_eq_true rfl) (rfl) hP hD hS dX9_isIn_15
theorem dX9_isIn_10 : decode cX9_isIn 10 = .ok (.iconst 1, 1) := by decide +kernel
theorem dX9_isIn_11 : decode cX9_isIn 11 = .ok (.goto 4, 3) := by decide +kernel
set_option maxHeartbeats 4000000 in
set_option maxRecDepth 100000 in
theorem kX9_isIng (l : Launch) (g : zL) (x : Int32) (y : Int32) (z : Int32) : zCi l g yX9_isIn cX9_isIn 3 (some .boolean) { frames := 0, cells := 0, slots := 0, locals := 0 } [.int x, .int y, .int z] [] (fun (r : Int32) (u : Unit) => r = sp_in x y z) (fun (u : Unit) => []) := by
  refine zCi.mk (by decide) (Nat.le_of_ble_eq_true rfl) ?_
  intro p e s m below meth c A hE hP hD hS ls hl
  obtain ⟨hx, hb, hr, hml, hown, hG, hlocks, hnm, hX, hA⟩ := hE
  have hown : s.vm.findClass RX9 = some m.cls := hown
  have hl : lv_has ls 3 [(0, .int x), (1, .int y), (2, .int z)] := hl
  refine lv_iload_n hx hb dX9_isIn_0 rfl (lv_at hl 0 rfl) ?_
  refine lv_iload_n hx hb dX9_isIn_1 rfl (lv_at hl 1 rfl) ?_
  refine lv_icmp_lt (tgt := 14) hx hb dX9_isIn_2 (by decide) (fun c2 => ?_) (fun c2 => ?_)
  · skip
    have c2i : x.toInt < y.toInt := (zc_lt (rfl : x.toInt = _) (rfl : y.toInt = _)).mp c2
    refine lv_iconst (v := 0) hx hb dX9_isIn_14 (by decide) ?_
    exact zrz (rm := { frames := 0, cells := 0, slots := 0, locals := 0 }) (v := 0) () hx hb hr hlocks (rfl) (Nat.le_of_ble_eq_true rfl) (Nat.le_of_ble_eq_true rfl) (by first | exact (sp_in_a c2).symm | exact (sp_in_b (by assumption)).symm | exact (sp_in_c (by assumption) (by assumption)).symm) hP hD hS dX9_isIn_15
  · skip
    have c2i : ¬ x.toInt < y.toInt := fun q => c2 ((zc_lt (rfl : x.toInt = _) (rfl : y.toInt = _)).mpr q)
    refine lv_iload_n hx hb dX9_isIn_5 rfl (lv_at hl 0 rfl) ?_
    refine lv_iload_n hx hb dX9_isIn_6 rfl (lv_at hl 2 rfl) ?_
    refine lv_icmp_gt (tgt := 14) hx hb dX9_isIn_7 (by decide) (fun c7 => ?_) (fun c7 => ?_)
    · skip
      have c7i : z.toInt < x.toInt := (zc_lt (rfl : z.toInt = _) (rfl : x.toInt = _)).mp c7
      refine lv_iconst (v := 0) hx hb dX9_isIn_14 (by decide) ?_
      exact zrz (rm := { frames := 0, cells := 0, slots := 0, locals := 0 }) (v := 0) () hx hb hr hlocks (rfl) (Nat.le_of_ble_eq_true rfl) (Nat.le_of_ble_eq_true rfl) (by first | exact (sp_in_a c2).symm | exact (sp_in_b (by assumption)).symm | exact (sp_in_c (by assumption) (by assumption)).symm) hP hD hS dX9_isIn_15
    · skip
      have c7i : ¬ z.toInt < x.toInt := fun q => c7 ((zc_lt (rfl : z.toInt = _) (rfl : x.toInt = _)).mpr q)
      refine lv_iconst (v := 1) hx hb dX9_isIn_10 (by decide) ?_
      refine lv_goto (tgt := 15) hx hb dX9_isIn_11 (by decide) ?_
      exact zrz (rm := { frames := 0, cells := 0, slots := 0, locals := 0 }) (v := 1) () hx hb hr hlocks (rfl) (Nat.le_of_ble_eq_true rfl) (Nat.le_of_ble_eq_true rfl) (by first | exact (sp_in_a c2).symm | exact (sp_in_b (by assumption)).symm | exact (sp_in_c (by assumption) (by assumption)).symm) hP hD hS dX9_isIn_15
theorem dX9_flangeMany_0 : decode cX9_flangeMany 0 = .ok (.aload_n 0, 1) := by decide +kernel
theorem dX9_flangeMany_1 : decode cX9_flangeMany 1 = .ok (.getfield 32, 3) := by decide +kernel
theorem dX9_flangeMany_4 : decode cX9_flangeMany 4 = .ok (.ifCond .eq 12, 3) := by decide +kernel
theorem dX9_flangeMany_16 : decode cX9_flangeMany 16 = .ok (.iconst 0, 1) := by decide +kernel
theorem dX9_flangeMany_17 : decode cX9_flangeMany 17 = .ok (.ireturn, 1) := by decide +kernel
set_option maxHeartbeats 4000000 in
set_option maxRecDepth 100000 in
theorem kX9_flangeMany (l : Launch) (g : zL) (h0 : Nat) (m_told : Nat) (m_read : Nat) (m_now : Nat) (m_readNow : Nat) (m_kept : Nat) (m_tape : Nat) (m_refused : Nat) (m_ownLetters : Nat) (m_flats : Nat) (m_corner : Nat) (m_wayX : Nat) (m_wayY : Nat) (m_normal : Nat) (m_low : Nat) (m_high : Nat) (m_clear : Nat) (m_ways : Nat) (m_canBe : Nat) (m_lain : Nat) (m_fewestBy : Nat) (m_sortOf : Nat) (m_seenFlange : Nat) (m_seenLength : Nat) : zCi l g yX9_flangeMany cX9_flangeMany 1 (some .int) { frames := 0, cells := 0, slots := 0, locals := 0 } [.ref h0] [(h0, .inr (9, [.ref m_told, .ref m_read, .ref m_now, .ref m_readNow, .ref m_kept, .int 0, .int 1, .int 0, .ref m_tape, .int 0, .ref m_refused, .int 0, .int (-1), .int 0, .int 0, .int 0, .int 0, .int (-1), .ref m_ownLetters, .ref m_flats, .int 0, .ref m_corner, .ref m_wayX, .ref m_wayY, .ref m_normal, .ref m_low, .ref m_high, .ref m_clear, .ref m_ways, .ref m_canBe, .ref m_lain, .int 0, .ref m_fewestBy, .ref m_sortOf, .int 0, .ref m_seenFlange, .ref m_seenLength]))] (fun (r : Int32) (u : Unit) => r = 0) (fun (u : Unit) => [(h0, .inr (9, [.ref m_told, .ref m_read, .ref m_now, .ref m_readNow, .ref m_kept, .int 0, .int 1, .int 0, .ref m_tape, .int 0, .ref m_refused, .int 0, .int (-1), .int 0, .int 0, .int 0, .int 0, .int (-1), .ref m_ownLetters, .ref m_flats, .int 0, .ref m_corner, .ref m_wayX, .ref m_wayY, .ref m_normal, .ref m_low, .ref m_high, .ref m_clear, .ref m_ways, .ref m_canBe, .ref m_lain, .int 0, .ref m_fewestBy, .ref m_sortOf, .int 0, .ref m_seenFlange, .ref m_seenLength]))]) := by
  refine zCi.mk (by decide) (Nat.le_of_ble_eq_true rfl) ?_
  intro p e s m below meth c A hE hP hD hS ls hl
  obtain ⟨hx, hb, hr, hml, hown, hG, hlocks, hnm, hX, hA⟩ := hE
  have hown : s.vm.findClass RX9 = some m.cls := hown
  have hl : lv_has ls 1 [(0, .ref h0)] := hl
  refine lv_aload_n hx hb dX9_flangeMany_0 rfl (lv_at hl 0 rfl) ?_
  refine va_get (D := g.1) (ci := 9) (v := .int 0) (C := RX9) (T := TX9) (N := 37) hx hb hG iX9 hown hX.1 hP 0 rfl rfl 7 (by decide) (hG _ g1424) (fun _ h9 => h9) rfl dX9_flangeMany_1 ?_
  refine lv_if_eq (tgt := 16) hx hb dX9_flangeMany_4 (by decide) (fun c4 => ?_) (fun c4 => (c4 (by decide)).elim)
  refine lv_iconst (v := 0) hx hb dX9_flangeMany_16 (by decide) ?_
  exact zri (rm := { frames := 0, cells := 0, slots := 0, locals := 0 }) (v := 0) () hx hb hr hlocks (Nat.le_of_ble_eq_true rfl) (Nat.le_of_ble_eq_true rfl) (rfl) hP hD hS dX9_flangeMany_17
theorem dX9_bendMany_0 : decode cX9_bendMany 0 = .ok (.aload_n 0, 1) := by decide +kernel
theorem dX9_bendMany_1 : decode cX9_bendMany 1 = .ok (.getfield 32, 3) := by decide +kernel
theorem dX9_bendMany_4 : decode cX9_bendMany 4 = .ok (.ifCond .eq 14, 3) := by decide +kernel
theorem dX9_bendMany_18 : decode cX9_bendMany 18 = .ok (.iconst 0, 1) := by decide +kernel
theorem dX9_bendMany_19 : decode cX9_bendMany 19 = .ok (.ireturn, 1) := by decide +kernel
set_option maxHeartbeats 4000000 in
set_option maxRecDepth 100000 in
theorem kX9_bendMany (l : Launch) (g : zL) (h0 : Nat) (m_told : Nat) (m_read : Nat) (m_now : Nat) (m_readNow : Nat) (m_kept : Nat) (m_tape : Nat) (m_refused : Nat) (m_ownLetters : Nat) (m_flats : Nat) (m_corner : Nat) (m_wayX : Nat) (m_wayY : Nat) (m_normal : Nat) (m_low : Nat) (m_high : Nat) (m_clear : Nat) (m_ways : Nat) (m_canBe : Nat) (m_lain : Nat) (m_fewestBy : Nat) (m_sortOf : Nat) (m_seenFlange : Nat) (m_seenLength : Nat) : zCi l g yX9_bendMany cX9_bendMany 1 (some .int) { frames := 0, cells := 0, slots := 0, locals := 0 } [.ref h0] [(h0, .inr (9, [.ref m_told, .ref m_read, .ref m_now, .ref m_readNow, .ref m_kept, .int 0, .int 1, .int 0, .ref m_tape, .int 0, .ref m_refused, .int 0, .int (-1), .int 0, .int 0, .int 0, .int 0, .int (-1), .ref m_ownLetters, .ref m_flats, .int 0, .ref m_corner, .ref m_wayX, .ref m_wayY, .ref m_normal, .ref m_low, .ref m_high, .ref m_clear, .ref m_ways, .ref m_canBe, .ref m_lain, .int 0, .ref m_fewestBy, .ref m_sortOf, .int 0, .ref m_seenFlange, .ref m_seenLength]))] (fun (r : Int32) (u : Unit) => r = 0) (fun (u : Unit) => [(h0, .inr (9, [.ref m_told, .ref m_read, .ref m_now, .ref m_readNow, .ref m_kept, .int 0, .int 1, .int 0, .ref m_tape, .int 0, .ref m_refused, .int 0, .int (-1), .int 0, .int 0, .int 0, .int 0, .int (-1), .ref m_ownLetters, .ref m_flats, .int 0, .ref m_corner, .ref m_wayX, .ref m_wayY, .ref m_normal, .ref m_low, .ref m_high, .ref m_clear, .ref m_ways, .ref m_canBe, .ref m_lain, .int 0, .ref m_fewestBy, .ref m_sortOf, .int 0, .ref m_seenFlange, .ref m_seenLength]))]) := by
  refine zCi.mk (by decide) (Nat.le_of_ble_eq_true rfl) ?_
  intro p e s m below meth c A hE hP hD hS ls hl
  obtain ⟨hx, hb, hr, hml, hown, hG, hlocks, hnm, hX, hA⟩ := hE
  have hown : s.vm.findClass RX9 = some m.cls := hown
  have hl : lv_has ls 1 [(0, .ref h0)] := hl
  refine lv_aload_n hx hb dX9_bendMany_0 rfl (lv_at hl 0 rfl) ?_
  refine va_get (D := g.1) (ci := 9) (v := .int 0) (C := RX9) (T := TX9) (N := 37) hx hb hG iX9 hown hX.1 hP 0 rfl rfl 7 (by decide) (hG _ g1424) (fun _ h9 => h9) rfl dX9_bendMany_1 ?_
  refine lv_if_eq (tgt := 18) hx hb dX9_bendMany_4 (by decide) (fun c4 => ?_) (fun c4 => (c4 (by decide)).elim)
  refine lv_iconst (v := 0) hx hb dX9_bendMany_18 (by decide) ?_
  exact zri (rm := { frames := 0, cells := 0, slots := 0, locals := 0 }) (v := 0) () hx hb hr hlocks (Nat.le_of_ble_eq_true rfl) (Nat.le_of_ble_eq_true rfl) (rfl) hP hD hS dX9_bendMany_19
theorem dX9_isFlange_0 : decode cX9_isFlange 0 = .ok (.iload_n 1, 1) := by decide +kernel
theorem dX9_isFlange_1 : decode cX9_isFlange 1 = .ok (.iconst 0, 1) := by decide +kernel
theorem dX9_isFlange_2 : decode cX9_isFlange 2 = .ok (.aload_n 0, 1) := by decide +kernel
theorem dX9_isFlange_3 : decode cX9_isFlange 3 = .ok (.invokevirtual 219, 3) := by decide +kernel
theorem dX9_isFlange_6 : decode cX9_isFlange 6 = .ok (.iconst 1, 1) := by decide +kernel
theorem dX9_isFlange_7 : decode cX9_isFlange 7 = .ok (.isub, 1) := by decide +kernel
theorem dX9_isFlange_8 : decode cX9_isFlange 8 = .ok (.invokestatic 163, 3) := by decide +kernel
theorem dX9_isFlange_11 : decode cX9_isFlange 11 = .ok (.ireturn, 1) := by decide +kernel
set_option maxHeartbeats 4000000 in
set_option maxRecDepth 100000 in
theorem kX9_isFlange (l : Launch) (g : zL) (h0 : Nat) (x : Int32) (m_told : Nat) (m_read : Nat) (m_now : Nat) (m_readNow : Nat) (m_kept : Nat) (m_tape : Nat) (m_refused : Nat) (m_ownLetters : Nat) (m_flats : Nat) (m_corner : Nat) (m_wayX : Nat) (m_wayY : Nat) (m_normal : Nat) (m_low : Nat) (m_high : Nat) (m_clear : Nat) (m_ways : Nat) (m_canBe : Nat) (m_lain : Nat) (m_fewestBy : Nat) (m_sortOf : Nat) (m_seenFlange : Nat) (m_seenLength : Nat) : zCi l g yX9_isFlange cX9_isFlange 2 (some .boolean) { frames := 1, cells := 0, slots := 0, locals := 22 } [.ref h0, .int x] [(h0, .inr (9, [.ref m_told, .ref m_read, .ref m_now, .ref m_readNow, .ref m_kept, .int 0, .int 1, .int 0, .ref m_tape, .int 0, .ref m_refused, .int 0, .int (-1), .int 0, .int 0, .int 0, .int 0, .int (-1), .ref m_ownLetters, .ref m_flats, .int 0, .ref m_corner, .ref m_wayX, .ref m_wayY, .ref m_normal, .ref m_low, .ref m_high, .ref m_clear, .ref m_ways, .ref m_canBe, .ref m_lain, .int 0, .ref m_fewestBy, .ref m_sortOf, .int 0, .ref m_seenFlange, .ref m_seenLength]))] (fun (r : Int32) (u : Unit) => r = 0) (fun (u : Unit) => [(h0, .inr (9, [.ref m_told, .ref m_read, .ref m_now, .ref m_readNow, .ref m_kept, .int 0, .int 1, .int 0, .ref m_tape, .int 0, .ref m_refused, .int 0, .int (-1), .int 0, .int 0, .int 0, .int 0, .int (-1), .ref m_ownLetters, .ref m_flats, .int 0, .ref m_corner, .ref m_wayX, .ref m_wayY, .ref m_normal, .ref m_low, .ref m_high, .ref m_clear, .ref m_ways, .ref m_canBe, .ref m_lain, .int 0, .ref m_fewestBy, .ref m_sortOf, .int 0, .ref m_seenFlange, .ref m_seenLength]))]) := by
  refine zCi.mk (by decide) (Nat.le_of_ble_eq_true rfl) ?_
  intro p e s m below meth c A hE hP hD hS ls hl
  obtain ⟨hx, hb, hr, hml, hown, hG, hlocks, hnm, hX, hA⟩ := hE
  have hown : s.vm.findClass RX9 = some m.cls := hown
  have hl : lv_has ls 2 [(0, .ref h0), (1, .int x)] := hl
  refine lv_iload_n hx hb dX9_isFlange_0 rfl (lv_at hl 1 rfl) ?_
  refine lv_iconst (v := 0) hx hb dX9_isFlange_1 (by decide) ?_
  refine lv_aload_n hx hb dX9_isFlange_2 rfl (lv_at hl 0 rfl) ?_
  refine zfi (wr := []) (va_runV (As := []) (rest := [.int 0, .int x]) ⟨hx, hb, hml, hown, hG⟩ (kX9_flangeMany l g h0 m_told m_read m_now m_readNow m_kept m_tape m_refused m_ownLetters m_flats m_corner m_wayX m_wayY m_normal m_low m_high m_clear m_ways m_canBe m_lain m_fewestBy m_sortOf m_seenFlange m_seenLength _) ⟨callB_of 0 hG (zGood g1665) rfl rfl rfl (hG _ g211) (hG _ g1662) hX9_flangeMany ⟨Nat.le_of_ble_eq_true rfl, Nat.le_of_ble_eq_true rfl⟩, hG _ g1664, hG _ g148⟩ (zpreV (va_recv hX.1 hP (ci := 9) (q0 := 0) rfl rfl) hX hP hD hS hA [0] rfl (by decide)) rfl rfl hl.1 rfl (lv_room (Nat.le_of_ble_eq_true rfl)) dX9_isFlange_3 ⟨Nat.le_of_ble_eq_true rfl, Nat.le_of_ble_eq_true rfl⟩) hP hD hS hA [0] [] rfl rfl (by decide) (by decide) (fun r1 _ H locs hp hP hD hS => ?_)
  refine W.cs (cells' := 0) (slots' := 0) rfl rfl ?_
  have hq2 : r1 = 0 := hp
  subst hq2
  have hP : va_P g.1 vwCl [(h0, .inr (9, [.ref m_told, .ref m_read, .ref m_now, .ref m_readNow, .ref m_kept, .int 0, .int 1, .int 0, .ref m_tape, .int 0, .ref m_refused, .int 0, .int (-1), .int 0, .int 0, .int 0, .int 0, .int (-1), .ref m_ownLetters, .ref m_flats, .int 0, .ref m_corner, .ref m_wayX, .ref m_wayY, .ref m_normal, .ref m_low, .ref m_high, .ref m_clear, .ref m_ways, .ref m_canBe, .ref m_lain, .int 0, .ref m_fewestBy, .ref m_sortOf, .int 0, .ref m_seenFlange, .ref m_seenLength]))] H := hP
  have hD : va_D A [(h0, .inr (9, [.ref m_told, .ref m_read, .ref m_now, .ref m_readNow, .ref m_kept, .int 0, .int 1, .int 0, .ref m_tape, .int 0, .ref m_refused, .int 0, .int (-1), .int 0, .int 0, .int 0, .int 0, .int (-1), .ref m_ownLetters, .ref m_flats, .int 0, .ref m_corner, .ref m_wayX, .ref m_wayY, .ref m_normal, .ref m_low, .ref m_high, .ref m_clear, .ref m_ways, .ref m_canBe, .ref m_lain, .int 0, .ref m_fewestBy, .ref m_sortOf, .int 0, .ref m_seenFlange, .ref m_seenLength]))] := hD
  refine lv_iconst (v := 1) hx hb dX9_isFlange_6 (by decide) ?_
  refine lv_isub hx hb dX9_isFlange_7 ?_
  refine zt (z := (-1)) (by decide) ?_
  refine zfi (wr := [(h0, .inr (9, [.ref m_told, .ref m_read, .ref m_now, .ref m_readNow, .ref m_kept, .int 0, .int 1, .int 0, .ref m_tape, .int 0, .ref m_refused, .int 0, .int (-1), .int 0, .int 0, .int 0, .int 0, .int (-1), .ref m_ownLetters, .ref m_flats, .int 0, .ref m_corner, .ref m_wayX, .ref m_wayY, .ref m_normal, .ref m_low, .ref m_high, .ref m_clear, .ref m_ways, .ref m_canBe, .ref m_lain, .int 0, .ref m_fewestBy, .ref m_sortOf, .int 0, .ref m_seenFlange, .ref m_seenLength]))]) (va_runS (As := [.int x, .int 0, .int (-1)]) (rest := []) ⟨hx, hb, hml, hown, hG⟩ (kX9_isIne0 l g x _) ⟨callB_of 3 hG (zGood g1608) rfl rfl rfl (hG _ g211) (hG _ g1606) hX9_isIn ⟨Nat.le_of_ble_eq_true rfl, Nat.le_of_ble_eq_true rfl⟩, hG _ g1607⟩ (zpreS hX hP hD hS hA [] rfl (by decide)) rfl rfl hl.1 rfl (lv_room (Nat.le_of_ble_eq_true rfl)) dX9_isFlange_8 ⟨Nat.le_of_ble_eq_true rfl, Nat.le_of_ble_eq_true rfl⟩) hP hD hS hA [] [0] rfl rfl (by decide) (by decide) (fun r3 _ H locs hp hP hD hS => ?_)
  refine W.cs (cells' := 0) (slots' := 0) rfl rfl ?_
  have hq4 : r3 = 0 := hp
  subst hq4
  have hP : va_P g.1 vwCl [(h0, .inr (9, [.ref m_told, .ref m_read, .ref m_now, .ref m_readNow, .ref m_kept, .int 0, .int 1, .int 0, .ref m_tape, .int 0, .ref m_refused, .int 0, .int (-1), .int 0, .int 0, .int 0, .int 0, .int (-1), .ref m_ownLetters, .ref m_flats, .int 0, .ref m_corner, .ref m_wayX, .ref m_wayY, .ref m_normal, .ref m_low, .ref m_high, .ref m_clear, .ref m_ways, .ref m_canBe, .ref m_lain, .int 0, .ref m_fewestBy, .ref m_sortOf, .int 0, .ref m_seenFlange, .ref m_seenLength]))] H := hP
  have hD : va_D A [(h0, .inr (9, [.ref m_told, .ref m_read, .ref m_now, .ref m_readNow, .ref m_kept, .int 0, .int 1, .int 0, .ref m_tape, .int 0, .ref m_refused, .int 0, .int (-1), .int 0, .int 0, .int 0, .int 0, .int (-1), .ref m_ownLetters, .ref m_flats, .int 0, .ref m_corner, .ref m_wayX, .ref m_wayY, .ref m_normal, .ref m_low, .ref m_high, .ref m_clear, .ref m_ways, .ref m_canBe, .ref m_lain, .int 0, .ref m_fewestBy, .ref m_sortOf, .int 0, .ref m_seenFlange, .ref m_seenLength]))] := hD
  exact zrz (rm := { frames := 1, cells := 0, slots := 0, locals := 22 }) (v := 0) () hx hb hr hlocks (rfl) (Nat.le_of_ble_eq_true rfl) (Nat.le_of_ble_eq_true rfl) (rfl) hP hD hS dX9_isFlange_11
theorem dX9_isBend_0 : decode cX9_isBend 0 = .ok (.iload_n 1, 1) := by decide +kernel
theorem dX9_isBend_1 : decode cX9_isBend 1 = .ok (.iconst 1, 1) := by decide +kernel
theorem dX9_isBend_2 : decode cX9_isBend 2 = .ok (.aload_n 0, 1) := by decide +kernel
theorem dX9_isBend_3 : decode cX9_isBend 3 = .ok (.invokevirtual 216, 3) := by decide +kernel
theorem dX9_isBend_6 : decode cX9_isBend 6 = .ok (.invokestatic 163, 3) := by decide +kernel
theorem dX9_isBend_9 : decode cX9_isBend 9 = .ok (.ireturn, 1) := by decide +kernel
set_option maxHeartbeats 4000000 in
set_option maxRecDepth 100000 in
theorem kX9_isBend (l : Launch) (g : zL) (h0 : Nat) (x : Int32) (m_told : Nat) (m_read : Nat) (m_now : Nat) (m_readNow : Nat) (m_kept : Nat) (m_tape : Nat) (m_refused : Nat) (m_ownLetters : Nat) (m_flats : Nat) (m_corner : Nat) (m_wayX : Nat) (m_wayY : Nat) (m_normal : Nat) (m_low : Nat) (m_high : Nat) (m_clear : Nat) (m_ways : Nat) (m_canBe : Nat) (m_lain : Nat) (m_fewestBy : Nat) (m_sortOf : Nat) (m_seenFlange : Nat) (m_seenLength : Nat) : zCi l g yX9_isBend cX9_isBend 2 (some .boolean) { frames := 1, cells := 0, slots := 0, locals := 22 } [.ref h0, .int x] [(h0, .inr (9, [.ref m_told, .ref m_read, .ref m_now, .ref m_readNow, .ref m_kept, .int 0, .int 1, .int 0, .ref m_tape, .int 0, .ref m_refused, .int 0, .int (-1), .int 0, .int 0, .int 0, .int 0, .int (-1), .ref m_ownLetters, .ref m_flats, .int 0, .ref m_corner, .ref m_wayX, .ref m_wayY, .ref m_normal, .ref m_low, .ref m_high, .ref m_clear, .ref m_ways, .ref m_canBe, .ref m_lain, .int 0, .ref m_fewestBy, .ref m_sortOf, .int 0, .ref m_seenFlange, .ref m_seenLength]))] (fun (r : Int32) (u : Unit) => r = 0) (fun (u : Unit) => [(h0, .inr (9, [.ref m_told, .ref m_read, .ref m_now, .ref m_readNow, .ref m_kept, .int 0, .int 1, .int 0, .ref m_tape, .int 0, .ref m_refused, .int 0, .int (-1), .int 0, .int 0, .int 0, .int 0, .int (-1), .ref m_ownLetters, .ref m_flats, .int 0, .ref m_corner, .ref m_wayX, .ref m_wayY, .ref m_normal, .ref m_low, .ref m_high, .ref m_clear, .ref m_ways, .ref m_canBe, .ref m_lain, .int 0, .ref m_fewestBy, .ref m_sortOf, .int 0, .ref m_seenFlange, .ref m_seenLength]))]) := by
  refine zCi.mk (by decide) (Nat.le_of_ble_eq_true rfl) ?_
  intro p e s m below meth c A hE hP hD hS ls hl
  obtain ⟨hx, hb, hr, hml, hown, hG, hlocks, hnm, hX, hA⟩ := hE
  have hown : s.vm.findClass RX9 = some m.cls := hown
  have hl : lv_has ls 2 [(0, .ref h0), (1, .int x)] := hl
  refine lv_iload_n hx hb dX9_isBend_0 rfl (lv_at hl 1 rfl) ?_
  refine lv_iconst (v := 1) hx hb dX9_isBend_1 (by decide) ?_
  refine lv_aload_n hx hb dX9_isBend_2 rfl (lv_at hl 0 rfl) ?_
  refine zfi (wr := []) (va_runV (As := []) (rest := [.int 1, .int x]) ⟨hx, hb, hml, hown, hG⟩ (kX9_bendMany l g h0 m_told m_read m_now m_readNow m_kept m_tape m_refused m_ownLetters m_flats m_corner m_wayX m_wayY m_normal m_low m_high m_clear m_ways m_canBe m_lain m_fewestBy m_sortOf m_seenFlange m_seenLength _) ⟨callB_of 0 hG (zGood g1677) rfl rfl rfl (hG _ g211) (hG _ g1674) hX9_bendMany ⟨Nat.le_of_ble_eq_true rfl, Nat.le_of_ble_eq_true rfl⟩, hG _ g1676, hG _ g150⟩ (zpreV (va_recv hX.1 hP (ci := 9) (q0 := 0) rfl rfl) hX hP hD hS hA [0] rfl (by decide)) rfl rfl hl.1 rfl (lv_room (Nat.le_of_ble_eq_true rfl)) dX9_isBend_3 ⟨Nat.le_of_ble_eq_true rfl, Nat.le_of_ble_eq_true rfl⟩) hP hD hS hA [0] [] rfl rfl (by decide) (by decide) (fun r1 _ H locs hp hP hD hS => ?_)
  refine W.cs (cells' := 0) (slots' := 0) rfl rfl ?_
  have hq2 : r1 = 0 := hp
  subst hq2
  have hP : va_P g.1 vwCl [(h0, .inr (9, [.ref m_told, .ref m_read, .ref m_now, .ref m_readNow, .ref m_kept, .int 0, .int 1, .int 0, .ref m_tape, .int 0, .ref m_refused, .int 0, .int (-1), .int 0, .int 0, .int 0, .int 0, .int (-1), .ref m_ownLetters, .ref m_flats, .int 0, .ref m_corner, .ref m_wayX, .ref m_wayY, .ref m_normal, .ref m_low, .ref m_high, .ref m_clear, .ref m_ways, .ref m_canBe, .ref m_lain, .int 0, .ref m_fewestBy, .ref m_sortOf, .int 0, .ref m_seenFlange, .ref m_seenLength]))] H := hP
  have hD : va_D A [(h0, .inr (9, [.ref m_told, .ref m_read, .ref m_now, .ref m_readNow, .ref m_kept, .int 0, .int 1, .int 0, .ref m_tape, .int 0, .ref m_refused, .int 0, .int (-1), .int 0, .int 0, .int 0, .int 0, .int (-1), .ref m_ownLetters, .ref m_flats, .int 0, .ref m_corner, .ref m_wayX, .ref m_wayY, .ref m_normal, .ref m_low, .ref m_high, .ref m_clear, .ref m_ways, .ref m_canBe, .ref m_lain, .int 0, .ref m_fewestBy, .ref m_sortOf, .int 0, .ref m_seenFlange, .ref m_seenLength]))] := hD
  refine zfi (wr := [(h0, .inr (9, [.ref m_told, .ref m_read, .ref m_now, .ref m_readNow, .ref m_kept, .int 0, .int 1, .int 0, .ref m_tape, .int 0, .ref m_refused, .int 0, .int (-1), .int 0, .int 0, .int 0, .int 0, .int (-1), .ref m_ownLetters, .ref m_flats, .int 0, .ref m_corner, .ref m_wayX, .ref m_wayY, .ref m_normal, .ref m_low, .ref m_high, .ref m_clear, .ref m_ways, .ref m_canBe, .ref m_lain, .int 0, .ref m_fewestBy, .ref m_sortOf, .int 0, .ref m_seenFlange, .ref m_seenLength]))]) (va_runS (As := [.int x, .int 1, .int 0]) (rest := []) ⟨hx, hb, hml, hown, hG⟩ (kX9_isIne1 l g x _) ⟨callB_of 3 hG (zGood g1608) rfl rfl rfl (hG _ g211) (hG _ g1606) hX9_isIn ⟨Nat.le_of_ble_eq_true rfl, Nat.le_of_ble_eq_true rfl⟩, hG _ g1607⟩ (zpreS hX hP hD hS hA [] rfl (by decide)) rfl rfl hl.1 rfl (lv_room (Nat.le_of_ble_eq_true rfl)) dX9_isBend_6 ⟨Nat.le_of_ble_eq_true rfl, Nat.le_of_ble_eq_true rfl⟩) hP hD hS hA [] [0] rfl rfl (by decide) (by decide) (fun r3 _ H locs hp hP hD hS => ?_)
  refine W.cs (cells' := 0) (slots' := 0) rfl rfl ?_
  have hq4 : r3 = 0 := hp
  subst hq4
  have hP : va_P g.1 vwCl [(h0, .inr (9, [.ref m_told, .ref m_read, .ref m_now, .ref m_readNow, .ref m_kept, .int 0, .int 1, .int 0, .ref m_tape, .int 0, .ref m_refused, .int 0, .int (-1), .int 0, .int 0, .int 0, .int 0, .int (-1), .ref m_ownLetters, .ref m_flats, .int 0, .ref m_corner, .ref m_wayX, .ref m_wayY, .ref m_normal, .ref m_low, .ref m_high, .ref m_clear, .ref m_ways, .ref m_canBe, .ref m_lain, .int 0, .ref m_fewestBy, .ref m_sortOf, .int 0, .ref m_seenFlange, .ref m_seenLength]))] H := hP
  have hD : va_D A [(h0, .inr (9, [.ref m_told, .ref m_read, .ref m_now, .ref m_readNow, .ref m_kept, .int 0, .int 1, .int 0, .ref m_tape, .int 0, .ref m_refused, .int 0, .int (-1), .int 0, .int 0, .int 0, .int 0, .int (-1), .ref m_ownLetters, .ref m_flats, .int 0, .ref m_corner, .ref m_wayX, .ref m_wayY, .ref m_normal, .ref m_low, .ref m_high, .ref m_clear, .ref m_ways, .ref m_canBe, .ref m_lain, .int 0, .ref m_fewestBy, .ref m_sortOf, .int 0, .ref m_seenFlange, .ref m_seenLength]))] := hD
  exact zrz (rm := { frames := 1, cells := 0, slots := 0, locals := 22 }) (v := 0) () hx hb hr hlocks (rfl) (Nat.le_of_ble_eq_true rfl) (Nat.le_of_ble_eq_true rfl) (rfl) hP hD hS dX9_isBend_9
theorem dX9_isState_0 : decode cX9_isState 0 = .ok (.aload_n 0, 1) := by decide +kernel
theorem dX9_isState_1 : decode cX9_isState 1 = .ok (.getfield 32, 3) := by decide +kernel
theorem dX9_isState_4 : decode cX9_isState 4 = .ok (.ifCond .eq 19, 3) := by decide +kernel
theorem dX9_isState_23 : decode cX9_isState 23 = .ok (.iconst 0, 1) := by decide +kernel
theorem dX9_isState_24 : decode cX9_isState 24 = .ok (.ireturn, 1) := by decide +kernel
set_option maxHeartbeats 4000000 in
set_option maxRecDepth 100000 in
theorem kX9_isState (l : Launch) (g : zL) (h0 : Nat) (x : Int32) (m_told : Nat) (m_read : Nat) (m_now : Nat) (m_readNow : Nat) (m_kept : Nat) (m_tape : Nat) (m_refused : Nat) (m_ownLetters : Nat) (m_flats : Nat) (m_corner : Nat) (m_wayX : Nat) (m_wayY : Nat) (m_normal : Nat) (m_low : Nat) (m_high : Nat) (m_clear : Nat) (m_ways : Nat) (m_canBe : Nat) (m_lain : Nat) (m_fewestBy : Nat) (m_sortOf : Nat) (m_seenFlange : Nat) (m_seenLength : Nat) : zCi l g yX9_isState cX9_isState 2 (some .boolean) { frames := 0, cells := 0, slots := 0, locals := 0 } [.ref h0, .int x] [(h0, .inr (9, [.ref m_told, .ref m_read, .ref m_now, .ref m_readNow, .ref m_kept, .int 0, .int 1, .int 0, .ref m_tape, .int 0, .ref m_refused, .int 0, .int (-1), .int 0, .int 0, .int 0, .int 0, .int (-1), .ref m_ownLetters, .ref m_flats, .int 0, .ref m_corner, .ref m_wayX, .ref m_wayY, .ref m_normal, .ref m_low, .ref m_high, .ref m_clear, .ref m_ways, .ref m_canBe, .ref m_lain, .int 0, .ref m_fewestBy, .ref m_sortOf, .int 0, .ref m_seenFlange, .ref m_seenLength]))] (fun (r : Int32) (u : Unit) => r = 0) (fun (u : Unit) => [(h0, .inr (9, [.ref m_told, .ref m_read, .ref m_now, .ref m_readNow, .ref m_kept, .int 0, .int 1, .int 0, .ref m_tape, .int 0, .ref m_refused, .int 0, .int (-1), .int 0, .int 0, .int 0, .int 0, .int (-1), .ref m_ownLetters, .ref m_flats, .int 0, .ref m_corner, .ref m_wayX, .ref m_wayY, .ref m_normal, .ref m_low, .ref m_high, .ref m_clear, .ref m_ways, .ref m_canBe, .ref m_lain, .int 0, .ref m_fewestBy, .ref m_sortOf, .int 0, .ref m_seenFlange, .ref m_seenLength]))]) := by
  refine zCi.mk (by decide) (Nat.le_of_ble_eq_true rfl) ?_
  intro p e s m below meth c A hE hP hD hS ls hl
  obtain ⟨hx, hb, hr, hml, hown, hG, hlocks, hnm, hX, hA⟩ := hE
  have hown : s.vm.findClass RX9 = some m.cls := hown
  have hl : lv_has ls 2 [(0, .ref h0), (1, .int x)] := hl
  refine lv_aload_n hx hb dX9_isState_0 rfl (lv_at hl 0 rfl) ?_
  refine va_get (D := g.1) (ci := 9) (v := .int 0) (C := RX9) (T := TX9) (N := 37) hx hb hG iX9 hown hX.1 hP 0 rfl rfl 7 (by decide) (hG _ g1424) (fun _ h9 => h9) rfl dX9_isState_1 ?_
  refine lv_if_eq (tgt := 23) hx hb dX9_isState_4 (by decide) (fun c4 => ?_) (fun c4 => (c4 (by decide)).elim)
  refine lv_iconst (v := 0) hx hb dX9_isState_23 (by decide) ?_
  exact zrz (rm := { frames := 0, cells := 0, slots := 0, locals := 0 }) (v := 0) () hx hb hr hlocks (rfl) (Nat.le_of_ble_eq_true rfl) (Nat.le_of_ble_eq_true rfl) (rfl) hP hD hS dX9_isState_24
theorem dX9_isPiece_0 : decode cX9_isPiece 0 = .ok (.aload_n 0, 1) := by decide +kernel
theorem dX9_isPiece_1 : decode cX9_isPiece 1 = .ok (.iload_n 1, 1) := by decide +kernel
theorem dX9_isPiece_2 : decode cX9_isPiece 2 = .ok (.invokevirtual 229, 3) := by decide +kernel
theorem dX9_isPiece_5 : decode cX9_isPiece 5 = .ok (.ifCond .eq 9, 3) := by decide +kernel
theorem dX9_isPiece_14 : decode cX9_isPiece 14 = .ok (.aload_n 0, 1) := by decide +kernel
theorem dX9_isPiece_15 : decode cX9_isPiece 15 = .ok (.iload_n 1, 1) := by decide +kernel
theorem dX9_isPiece_16 : decode cX9_isPiece 16 = .ok (.bipush 8, 2) := by decide +kernel
theorem dX9_isPiece_18 : decode cX9_isPiece 18 = .ok (.isub, 1) := by decide +kernel
theorem dX9_isPiece_19 : decode cX9_isPiece 19 = .ok (.invokevirtual 235, 3) := by decide +kernel
theorem dX9_isPiece_22 : decode cX9_isPiece 22 = .ok (.ifCond .eq 7, 3) := by decide +kernel
theorem dX9_isPiece_29 : decode cX9_isPiece 29 = .ok (.iconst 0, 1) := by decide +kernel
theorem dX9_isPiece_30 : decode cX9_isPiece 30 = .ok (.ireturn, 1) := by decide +kernel
set_option maxHeartbeats 4000000 in
set_option maxRecDepth 100000 in
theorem kX9_isPiece (l : Launch) (g : zL) (h0 : Nat) (x : Int32) (m_told : Nat) (m_read : Nat) (m_now : Nat) (m_readNow : Nat) (m_kept : Nat) (m_tape : Nat) (m_refused : Nat) (m_ownLetters : Nat) (m_flats : Nat) (m_corner : Nat) (m_wayX : Nat) (m_wayY : Nat) (m_normal : Nat) (m_low : Nat) (m_high : Nat) (m_clear : Nat) (m_ways : Nat) (m_canBe : Nat) (m_lain : Nat) (m_fewestBy : Nat) (m_sortOf : Nat) (m_seenFlange : Nat) (m_seenLength : Nat) : zCi l g yX9_isPiece cX9_isPiece 2 (some .boolean) { frames := 2, cells := 0, slots := 0, locals := 43 } [.ref h0, .int x] [(h0, .inr (9, [.ref m_told, .ref m_read, .ref m_now, .ref m_readNow, .ref m_kept, .int 0, .int 1, .int 0, .ref m_tape, .int 0, .ref m_refused, .int 0, .int (-1), .int 0, .int 0, .int 0, .int 0, .int (-1), .ref m_ownLetters, .ref m_flats, .int 0, .ref m_corner, .ref m_wayX, .ref m_wayY, .ref m_normal, .ref m_low, .ref m_high, .ref m_clear, .ref m_ways, .ref m_canBe, .ref m_lain, .int 0, .ref m_fewestBy, .ref m_sortOf, .int 0, .ref m_seenFlange, .ref m_seenLength]))] (fun (r : Int32) (u : Unit) => r = 0) (fun (u : Unit) => [(h0, .inr (9, [.ref m_told, .ref m_read, .ref m_now, .ref m_readNow, .ref m_kept, .int 0, .int 1, .int 0, .ref m_tape, .int 0, .ref m_refused, .int 0, .int (-1), .int 0, .int 0, .int 0, .int 0, .int (-1), .ref m_ownLetters, .ref m_flats, .int 0, .ref m_corner, .ref m_wayX, .ref m_wayY, .ref m_normal, .ref m_low, .ref m_high, .ref m_clear, .ref m_ways, .ref m_canBe, .ref m_lain, .int 0, .ref m_fewestBy, .ref m_sortOf, .int 0, .ref m_seenFlange, .ref m_seenLength]))]) := by
  refine zCi.mk (by decide) (Nat.le_of_ble_eq_true rfl) ?_
  intro p e s m below meth c A hE hP hD hS ls hl
  obtain ⟨hx, hb, hr, hml, hown, hG, hlocks, hnm, hX, hA⟩ := hE
  have hown : s.vm.findClass RX9 = some m.cls := hown
  have hl : lv_has ls 2 [(0, .ref h0), (1, .int x)] := hl
  refine lv_aload_n hx hb dX9_isPiece_0 rfl (lv_at hl 0 rfl) ?_
  refine lv_iload_n hx hb dX9_isPiece_1 rfl (lv_at hl 1 rfl) ?_
  refine zfi (wr := []) (va_runV (As := [.int x]) (rest := []) ⟨hx, hb, hml, hown, hG⟩ (kX9_isFlange l g h0 x m_told m_read m_now m_readNow m_kept m_tape m_refused m_ownLetters m_flats m_corner m_wayX m_wayY m_normal m_low m_high m_clear m_ways m_canBe m_lain m_fewestBy m_sortOf m_seenFlange m_seenLength _) ⟨callB_of 1 hG (zGood g1661) rfl rfl rfl (hG _ g211) (hG _ g1658) hX9_isFlange ⟨Nat.le_of_ble_eq_true rfl, Nat.le_of_ble_eq_true rfl⟩, hG _ g1660, hG _ g147⟩ (zpreV (va_recv hX.1 hP (ci := 9) (q0 := 0) rfl rfl) hX hP hD hS hA [0] rfl (by decide)) rfl rfl hl.1 rfl (lv_room (Nat.le_of_ble_eq_true rfl)) dX9_isPiece_2 ⟨Nat.le_of_ble_eq_true rfl, Nat.le_of_ble_eq_true rfl⟩) hP hD hS hA [0] [] rfl rfl (by decide) (by decide) (fun r1 _ H locs hp hP hD hS => ?_)
  refine W.cs (cells' := 0) (slots' := 0) rfl rfl ?_
  have hq2 : r1 = 0 := hp
  subst hq2
  have hP : va_P g.1 vwCl [(h0, .inr (9, [.ref m_told, .ref m_read, .ref m_now, .ref m_readNow, .ref m_kept, .int 0, .int 1, .int 0, .ref m_tape, .int 0, .ref m_refused, .int 0, .int (-1), .int 0, .int 0, .int 0, .int 0, .int (-1), .ref m_ownLetters, .ref m_flats, .int 0, .ref m_corner, .ref m_wayX, .ref m_wayY, .ref m_normal, .ref m_low, .ref m_high, .ref m_clear, .ref m_ways, .ref m_canBe, .ref m_lain, .int 0, .ref m_fewestBy, .ref m_sortOf, .int 0, .ref m_seenFlange, .ref m_seenLength]))] H := hP
  have hD : va_D A [(h0, .inr (9, [.ref m_told, .ref m_read, .ref m_now, .ref m_readNow, .ref m_kept, .int 0, .int 1, .int 0, .ref m_tape, .int 0, .ref m_refused, .int 0, .int (-1), .int 0, .int 0, .int 0, .int 0, .int (-1), .ref m_ownLetters, .ref m_flats, .int 0, .ref m_corner, .ref m_wayX, .ref m_wayY, .ref m_normal, .ref m_low, .ref m_high, .ref m_clear, .ref m_ways, .ref m_canBe, .ref m_lain, .int 0, .ref m_fewestBy, .ref m_sortOf, .int 0, .ref m_seenFlange, .ref m_seenLength]))] := hD
  refine lv_if_eq (tgt := 14) hx hb dX9_isPiece_5 (by decide) (fun c5 => ?_) (fun c5 => (c5 (by decide)).elim)
  refine lv_aload_n hx hb dX9_isPiece_14 rfl (lv_at hl 0 rfl) ?_
  refine lv_iload_n hx hb dX9_isPiece_15 rfl (lv_at hl 1 rfl) ?_
  refine lv_bipush (v := 8) hx hb dX9_isPiece_16 (by decide) ?_
  refine lv_isub hx hb dX9_isPiece_18 ?_
  refine zfi (wr := []) (va_runV (As := [.int (x - 8)]) (rest := []) ⟨hx, hb, hml, hown, hG⟩ (kX9_isBend l g h0 (x - 8) m_told m_read m_now m_readNow m_kept m_tape m_refused m_ownLetters m_flats m_corner m_wayX m_wayY m_normal m_low m_high m_clear m_ways m_canBe m_lain m_fewestBy m_sortOf m_seenFlange m_seenLength _) ⟨callB_of 1 hG (zGood g1673) rfl rfl rfl (hG _ g211) (hG _ g1670) hX9_isBend ⟨Nat.le_of_ble_eq_true rfl, Nat.le_of_ble_eq_true rfl⟩, hG _ g1672, hG _ g149⟩ (zpreV (va_recv hX.1 hP (ci := 9) (q0 := 0) rfl rfl) hX hP hD hS hA [0] rfl (by decide)) rfl rfl hl.1 rfl (lv_room (Nat.le_of_ble_eq_true rfl)) dX9_isPiece_19 ⟨Nat.le_of_ble_eq_true rfl, Nat.le_of_ble_eq_true rfl⟩) hP hD hS hA [0] [] rfl rfl (by decide) (by decide) (fun r3 _ H locs hp hP hD hS => ?_)
  refine W.cs (cells' := 0) (slots' := 0) rfl rfl ?_
  have hq4 : r3 = 0 := hp
  subst hq4
  have hP : va_P g.1 vwCl [(h0, .inr (9, [.ref m_told, .ref m_read, .ref m_now, .ref m_readNow, .ref m_kept, .int 0, .int 1, .int 0, .ref m_tape, .int 0, .ref m_refused, .int 0, .int (-1), .int 0, .int 0, .int 0, .int 0, .int (-1), .ref m_ownLetters, .ref m_flats, .int 0, .ref m_corner, .ref m_wayX, .ref m_wayY, .ref m_normal, .ref m_low, .ref m_high, .ref m_clear, .ref m_ways, .ref m_canBe, .ref m_lain, .int 0, .ref m_fewestBy, .ref m_sortOf, .int 0, .ref m_seenFlange, .ref m_seenLength]))] H := hP
  have hD : va_D A [(h0, .inr (9, [.ref m_told, .ref m_read, .ref m_now, .ref m_readNow, .ref m_kept, .int 0, .int 1, .int 0, .ref m_tape, .int 0, .ref m_refused, .int 0, .int (-1), .int 0, .int 0, .int 0, .int 0, .int (-1), .ref m_ownLetters, .ref m_flats, .int 0, .ref m_corner, .ref m_wayX, .ref m_wayY, .ref m_normal, .ref m_low, .ref m_high, .ref m_clear, .ref m_ways, .ref m_canBe, .ref m_lain, .int 0, .ref m_fewestBy, .ref m_sortOf, .int 0, .ref m_seenFlange, .ref m_seenLength]))] := hD
  refine lv_if_eq (tgt := 29) hx hb dX9_isPiece_22 (by decide) (fun c22 => ?_) (fun c22 => (c22 (by decide)).elim)
  refine lv_iconst (v := 0) hx hb dX9_isPiece_29 (by decide) ?_
  exact zrz (rm := { frames := 2, cells := 0, slots := 0, locals := 43 }) (v := 0) () hx hb hr hlocks (rfl) (Nat.le_of_ble_eq_true rfl) (Nat.le_of_ble_eq_true rfl) (rfl) hP hD hS dX9_isPiece_30
theorem dX9_lays_0 : decode cX9_lays 0 = .ok (.iconst 0, 1) := by decide +kernel
theorem dX9_lays_1 : decode cX9_lays 1 = .ok (.istore_n 2, 1) := by decide +kernel
theorem dX9_lays_2 : decode cX9_lays 2 = .ok (.iload_n 2, 1) := by decide +kernel
theorem dX9_lays_3 : decode cX9_lays 3 = .ok (.iconst 4, 1) := by decide +kernel
theorem dX9_lays_4 : decode cX9_lays 4 = .ok (.if_icmp .ge 33, 3) := by decide +kernel
theorem dX9_lays_7 : decode cX9_lays 7 = .ok (.aload_n 0, 1) := by decide +kernel
theorem dX9_lays_8 : decode cX9_lays 8 = .ok (.getfield 36, 3) := by decide +kernel
theorem dX9_lays_11 : decode cX9_lays 11 = .ok (.aload_n 0, 1) := by decide +kernel
theorem dX9_lays_12 : decode cX9_lays 12 = .ok (.getfield 39, 3) := by decide +kernel
theorem dX9_lays_15 : decode cX9_lays 15 = .ok (.iload_n 2, 1) := by decide +kernel
theorem dX9_lays_16 : decode cX9_lays 16 = .ok (.iadd, 1) := by decide +kernel
theorem dX9_lays_17 : decode cX9_lays 17 = .ok (.iload_n 1, 1) := by decide +kernel
theorem dX9_lays_18 : decode cX9_lays 18 = .ok (.bipush 24, 2) := by decide +kernel
theorem dX9_lays_20 : decode cX9_lays 20 = .ok (.bipush 8, 2) := by decide +kernel
theorem dX9_lays_22 : decode cX9_lays 22 = .ok (.iload_n 2, 1) := by decide +kernel
theorem dX9_lays_23 : decode cX9_lays 23 = .ok (.imul, 1) := by decide +kernel
theorem dX9_lays_24 : decode cX9_lays 24 = .ok (.isub, 1) := by decide +kernel
theorem dX9_lays_25 : decode cX9_lays 25 = .ok (.ishr, 1) := by decide +kernel
theorem dX9_lays_26 : decode cX9_lays 26 = .ok (.sipush 255, 3) := by decide +kernel
theorem dX9_lays_29 : decode cX9_lays 29 = .ok (.iand, 1) := by decide +kernel
theorem dX9_lays_30 : decode cX9_lays 30 = .ok (.iastore, 1) := by decide +kernel
theorem dX9_lays_31 : decode cX9_lays 31 = .ok (.iinc 2 1, 3) := by decide +kernel
theorem dX9_lays_34 : decode cX9_lays 34 = .ok (.goto (-32), 3) := by decide +kernel
theorem dX9_lays_37 : decode cX9_lays 37 = .ok (.aload_n 0, 1) := by decide +kernel
theorem dX9_lays_38 : decode cX9_lays 38 = .ok (.dup, 1) := by decide +kernel
theorem dX9_lays_39 : decode cX9_lays 39 = .ok (.getfield 39, 3) := by decide +kernel
theorem dX9_lays_42 : decode cX9_lays 42 = .ok (.iconst 4, 1) := by decide +kernel
theorem dX9_lays_43 : decode cX9_lays 43 = .ok (.iadd, 1) := by decide +kernel
theorem dX9_lays_44 : decode cX9_lays 44 = .ok (.putfield 39, 3) := by decide +kernel
theorem dX9_lays_47 : decode cX9_lays 47 = .ok (.return_, 1) := by decide +kernel
set_option maxHeartbeats 4000000 in
set_option maxRecDepth 100000 in
theorem kX9_lays0 (l : Launch) (g : zL) (h0 : Nat) (x : Int32) (m_told : Nat) (m_read : Nat) (m_now : Nat) (m_readNow : Nat) (m_kept : Nat) (m_tape : Nat) (m_refused : Nat) (m_ownLetters : Nat) (m_flats : Nat) (m_corner : Nat) (m_wayX : Nat) (m_wayY : Nat) (m_normal : Nat) (m_low : Nat) (m_high : Nat) (m_clear : Nat) (m_ways : Nat) (m_canBe : Nat) (m_lain : Nat) (m_fewestBy : Nat) (m_sortOf : Nat) (m_seenFlange : Nat) (m_seenLength : Nat) (f : Nat → Int32) : zCv l g yX9_lays cX9_lays 3 none { frames := 0, cells := 0, slots := 0, locals := 0 } [.ref h0, .int x] [(h0, .inr (9, [.ref m_told, .ref m_read, .ref m_now, .ref m_readNow, .ref m_kept, .int 0, .int 1, .int 0, .ref m_tape, .int 0, .ref m_refused, .int 0, .int (-1), .int 0, .int 0, .int 0, .int 0, .int (-1), .ref m_ownLetters, .ref m_flats, .int 0, .ref m_corner, .ref m_wayX, .ref m_wayY, .ref m_normal, .ref m_low, .ref m_high, .ref m_clear, .ref m_ways, .ref m_canBe, .ref m_lain, .int 0, .ref m_fewestBy, .ref m_sortOf, .int 0, .ref m_seenFlange, .ref m_seenLength])), (m_tape, .inl (g.2.1.1, 1200, .inl f))] (fun (u : (Nat → Int32)) => True) (fun (u : (Nat → Int32)) => [(h0, .inr (9, [.ref m_told, .ref m_read, .ref m_now, .ref m_readNow, .ref m_kept, .int 0, .int 1, .int 0, .ref m_tape, .int 4, .ref m_refused, .int 0, .int (-1), .int 0, .int 0, .int 0, .int 0, .int (-1), .ref m_ownLetters, .ref m_flats, .int 0, .ref m_corner, .ref m_wayX, .ref m_wayY, .ref m_normal, .ref m_low, .ref m_high, .ref m_clear, .ref m_ways, .ref m_canBe, .ref m_lain, .int 0, .ref m_fewestBy, .ref m_sortOf, .int 0, .ref m_seenFlange, .ref m_seenLength])), (m_tape, .inl (g.2.1.1, 1200, .inl u))]) := by
  refine zCv.mk (by decide) (Nat.le_of_ble_eq_true rfl) ?_
  intro p e s m below meth c A hE hP hD hS ls hl
  obtain ⟨hx, hb, hr, hml, hown, hG, hlocks, hnm, hX, hA⟩ := hE
  have hown : s.vm.findClass RX9 = some m.cls := hown
  have hl : lv_has ls 3 [(0, .ref h0), (1, .int x)] := hl
  refine lv_iconst (v := 0) hx hb dX9_lays_0 (by decide) ?_
  refine lv_istore_n (lv' := [(2, .int 0), (0, .ref h0), (1, .int x)]) hx hb dX9_lays_1 rfl hl (by decide) rfl (fun ls hl => ?_)
  refine lv_iload_n hx hb dX9_lays_2 rfl (lv_at hl 0 rfl) ?_
  refine lv_iconst (v := 4) hx hb dX9_lays_3 (by decide) ?_
  refine lv_icmp_ge (tgt := 37) hx hb dX9_lays_4 (by decide) (fun c4 => absurd c4 (by decide)) (fun c4 => ?_)
  refine lv_aload_n hx hb dX9_lays_7 rfl (lv_at hl 1 rfl) ?_
  refine va_get (D := g.1) (ci := 9) (v := .ref m_tape) (C := RX9) (T := TX9) (N := 37) hx hb hG iX9 hown hX.1 hP 0 rfl rfl 8 (by decide) (hG _ g1425) (fun _ h9 => h9) rfl dX9_lays_8 ?_
  refine lv_aload_n hx hb dX9_lays_11 rfl (lv_at hl 1 rfl) ?_
  refine va_get (D := g.1) (ci := 9) (v := .int 0) (C := RX9) (T := TX9) (N := 37) hx hb hG iX9 hown hX.1 hP 0 rfl rfl 9 (by decide) (hG _ g1426) (fun _ h9 => h9) rfl dX9_lays_12 ?_
  refine lv_iload_n hx hb dX9_lays_15 rfl (lv_at hl 0 rfl) ?_
  refine lv_iadd hx hb dX9_lays_16 ?_
  refine zt (z := 0) (by decide) ?_
  refine lv_iload_n hx hb dX9_lays_17 rfl (lv_at hl 2 rfl) ?_
  refine lv_bipush (v := 24) hx hb dX9_lays_18 (by decide) ?_
  refine lv_bipush (v := 8) hx hb dX9_lays_20 (by decide) ?_
  refine lv_iload_n hx hb dX9_lays_22 rfl (lv_at hl 0 rfl) ?_
  refine lv_imul hx hb dX9_lays_23 ?_
  refine zt (z := 0) (by decide) ?_
  refine lv_isub hx hb dX9_lays_24 ?_
  refine zt (z := 24) (by decide) ?_
  refine lv_ishr hx hb dX9_lays_25 ?_
  refine lv_sipush (v := 255) hx hb dX9_lays_26 (by decide) ?_
  refine lv_iand hx hb dX9_lays_29 ?_
  refine va_iast hx hb hX.1 hP hD hS 1 0 rfl rfl (vp_in_iff.mpr (by decide)) dX9_lays_30 (fun H locs hP hD hS => ?_)
  obtain ⟨f1, ef1⟩ : ∃ z : Nat → Int32, z = upd f (0 : Int32).toNatClampNeg ((x >>> (24 &&& 31)) &&& 255) := ⟨_, rfl⟩
  rw [← ef1] at hP hD
  have hP : va_P g.1 vwCl [(h0, .inr (9, [.ref m_told, .ref m_read, .ref m_now, .ref m_readNow, .ref m_kept, .int 0, .int 1, .int 0, .ref m_tape, .int 0, .ref m_refused, .int 0, .int (-1), .int 0, .int 0, .int 0, .int 0, .int (-1), .ref m_ownLetters, .ref m_flats, .int 0, .ref m_corner, .ref m_wayX, .ref m_wayY, .ref m_normal, .ref m_low, .ref m_high, .ref m_clear, .ref m_ways, .ref m_canBe, .ref m_lain, .int 0, .ref m_fewestBy, .ref m_sortOf, .int 0, .ref m_seenFlange, .ref m_seenLength])), (m_tape, .inl (g.2.1.1, 1200, .inl f1))] H := hP
  have hD : va_D A [(h0, .inr (9, [.ref m_told, .ref m_read, .ref m_now, .ref m_readNow, .ref m_kept, .int 0, .int 1, .int 0, .ref m_tape, .int 0, .ref m_refused, .int 0, .int (-1), .int 0, .int 0, .int 0, .int 0, .int (-1), .ref m_ownLetters, .ref m_flats, .int 0, .ref m_corner, .ref m_wayX, .ref m_wayY, .ref m_normal, .ref m_low, .ref m_high, .ref m_clear, .ref m_ways, .ref m_canBe, .ref m_lain, .int 0, .ref m_fewestBy, .ref m_sortOf, .int 0, .ref m_seenFlange, .ref m_seenLength])), (m_tape, .inl (g.2.1.1, 1200, .inl f1))] := hD
  refine lv_iinc (v := 1) (lv' := [(2, .int 1), (0, .ref h0), (1, .int x)]) hx hb dX9_lays_31 hl (k := 0) rfl (by decide) (by decide) rfl (fun ls hl => ?_)
  refine lv_goto (tgt := 2) hx hb dX9_lays_34 (by decide) ?_
  refine lv_iload_n hx hb dX9_lays_2 rfl (lv_at hl 0 rfl) ?_
  refine lv_iconst (v := 4) hx hb dX9_lays_3 (by decide) ?_
  refine lv_icmp_ge (tgt := 37) hx hb dX9_lays_4 (by decide) (fun c4 => absurd c4 (by decide)) (fun c4 => ?_)
  refine lv_aload_n hx hb dX9_lays_7 rfl (lv_at hl 1 rfl) ?_
  refine va_get (D := g.1) (ci := 9) (v := .ref m_tape) (C := RX9) (T := TX9) (N := 37) hx hb hG iX9 hown hX.1 hP 0 rfl rfl 8 (by decide) (hG _ g1425) (fun _ h9 => h9) rfl dX9_lays_8 ?_
  refine lv_aload_n hx hb dX9_lays_11 rfl (lv_at hl 1 rfl) ?_
  refine va_get (D := g.1) (ci := 9) (v := .int 0) (C := RX9) (T := TX9) (N := 37) hx hb hG iX9 hown hX.1 hP 0 rfl rfl 9 (by decide) (hG _ g1426) (fun _ h9 => h9) rfl dX9_lays_12 ?_
  refine lv_iload_n hx hb dX9_lays_15 rfl (lv_at hl 0 rfl) ?_
  refine lv_iadd hx hb dX9_lays_16 ?_
  refine zt (z := 1) (by decide) ?_
  refine lv_iload_n hx hb dX9_lays_17 rfl (lv_at hl 2 rfl) ?_
  refine lv_bipush (v := 24) hx hb dX9_lays_18 (by decide) ?_
  refine lv_bipush (v := 8) hx hb dX9_lays_20 (by decide) ?_
  refine lv_iload_n hx hb dX9_lays_22 rfl (lv_at hl 0 rfl) ?_
  refine lv_imul hx hb dX9_lays_23 ?_
  refine zt (z := 8) (by decide) ?_
  refine lv_isub hx hb dX9_lays_24 ?_
  refine zt (z := 16) (by decide) ?_
  refine lv_ishr hx hb dX9_lays_25 ?_
  refine lv_sipush (v := 255) hx hb dX9_lays_26 (by decide) ?_
  refine lv_iand hx hb dX9_lays_29 ?_
  refine va_iast hx hb hX.1 hP hD hS 1 0 rfl rfl (vp_in_iff.mpr (by decide)) dX9_lays_30 (fun H locs hP hD hS => ?_)
  obtain ⟨f2, ef2⟩ : ∃ z : Nat → Int32, z = upd f1 (1 : Int32).toNatClampNeg ((x >>> (16 &&& 31)) &&& 255) := ⟨_, rfl⟩
  rw [← ef2] at hP hD
  have hP : va_P g.1 vwCl [(h0, .inr (9, [.ref m_told, .ref m_read, .ref m_now, .ref m_readNow, .ref m_kept, .int 0, .int 1, .int 0, .ref m_tape, .int 0, .ref m_refused, .int 0, .int (-1), .int 0, .int 0, .int 0, .int 0, .int (-1), .ref m_ownLetters, .ref m_flats, .int 0, .ref m_corner, .ref m_wayX, .ref m_wayY, .ref m_normal, .ref m_low, .ref m_high, .ref m_clear, .ref m_ways, .ref m_canBe, .ref m_lain, .int 0, .ref m_fewestBy, .ref m_sortOf, .int 0, .ref m_seenFlange, .ref m_seenLength])), (m_tape, .inl (g.2.1.1, 1200, .inl f2))] H := hP
  have hD : va_D A [(h0, .inr (9, [.ref m_told, .ref m_read, .ref m_now, .ref m_readNow, .ref m_kept, .int 0, .int 1, .int 0, .ref m_tape, .int 0, .ref m_refused, .int 0, .int (-1), .int 0, .int 0, .int 0, .int 0, .int (-1), .ref m_ownLetters, .ref m_flats, .int 0, .ref m_corner, .ref m_wayX, .ref m_wayY, .ref m_normal, .ref m_low, .ref m_high, .ref m_clear, .ref m_ways, .ref m_canBe, .ref m_lain, .int 0, .ref m_fewestBy, .ref m_sortOf, .int 0, .ref m_seenFlange, .ref m_seenLength])), (m_tape, .inl (g.2.1.1, 1200, .inl f2))] := hD
  refine lv_iinc (v := 2) (lv' := [(2, .int 2), (0, .ref h0), (1, .int x)]) hx hb dX9_lays_31 hl (k := 0) rfl (by decide) (by decide) rfl (fun ls hl => ?_)
  refine lv_goto (tgt := 2) hx hb dX9_lays_34 (by decide) ?_
  refine lv_iload_n hx hb dX9_lays_2 rfl (lv_at hl 0 rfl) ?_
  refine lv_iconst (v := 4) hx hb dX9_lays_3 (by decide) ?_
  refine lv_icmp_ge (tgt := 37) hx hb dX9_lays_4 (by decide) (fun c4 => absurd c4 (by decide)) (fun c4 => ?_)
  refine lv_aload_n hx hb dX9_lays_7 rfl (lv_at hl 1 rfl) ?_
  refine va_get (D := g.1) (ci := 9) (v := .ref m_tape) (C := RX9) (T := TX9) (N := 37) hx hb hG iX9 hown hX.1 hP 0 rfl rfl 8 (by decide) (hG _ g1425) (fun _ h9 => h9) rfl dX9_lays_8 ?_
  refine lv_aload_n hx hb dX9_lays_11 rfl (lv_at hl 1 rfl) ?_
  refine va_get (D := g.1) (ci := 9) (v := .int 0) (C := RX9) (T := TX9) (N := 37) hx hb hG iX9 hown hX.1 hP 0 rfl rfl 9 (by decide) (hG _ g1426) (fun _ h9 => h9) rfl dX9_lays_12 ?_
  refine lv_iload_n hx hb dX9_lays_15 rfl (lv_at hl 0 rfl) ?_
  refine lv_iadd hx hb dX9_lays_16 ?_
  refine zt (z := 2) (by decide) ?_
  refine lv_iload_n hx hb dX9_lays_17 rfl (lv_at hl 2 rfl) ?_
  refine lv_bipush (v := 24) hx hb dX9_lays_18 (by decide) ?_
  refine lv_bipush (v := 8) hx hb dX9_lays_20 (by decide) ?_
  refine lv_iload_n hx hb dX9_lays_22 rfl (lv_at hl 0 rfl) ?_
  refine lv_imul hx hb dX9_lays_23 ?_
  refine zt (z := 16) (by decide) ?_
  refine lv_isub hx hb dX9_lays_24 ?_
  refine zt (z := 8) (by decide) ?_
  refine lv_ishr hx hb dX9_lays_25 ?_
  refine lv_sipush (v := 255) hx hb dX9_lays_26 (by decide) ?_
  refine lv_iand hx hb dX9_lays_29 ?_
  refine va_iast hx hb hX.1 hP hD hS 1 0 rfl rfl (vp_in_iff.mpr (by decide)) dX9_lays_30 (fun H locs hP hD hS => ?_)
  obtain ⟨f3, ef3⟩ : ∃ z : Nat → Int32, z = upd f2 (2 : Int32).toNatClampNeg ((x >>> (8 &&& 31)) &&& 255) := ⟨_, rfl⟩
  rw [← ef3] at hP hD
  have hP : va_P g.1 vwCl [(h0, .inr (9, [.ref m_told, .ref m_read, .ref m_now, .ref m_readNow, .ref m_kept, .int 0, .int 1, .int 0, .ref m_tape, .int 0, .ref m_refused, .int 0, .int (-1), .int 0, .int 0, .int 0, .int 0, .int (-1), .ref m_ownLetters, .ref m_flats, .int 0, .ref m_corner, .ref m_wayX, .ref m_wayY, .ref m_normal, .ref m_low, .ref m_high, .ref m_clear, .ref m_ways, .ref m_canBe, .ref m_lain, .int 0, .ref m_fewestBy, .ref m_sortOf, .int 0, .ref m_seenFlange, .ref m_seenLength])), (m_tape, .inl (g.2.1.1, 1200, .inl f3))] H := hP
  have hD : va_D A [(h0, .inr (9, [.ref m_told, .ref m_read, .ref m_now, .ref m_readNow, .ref m_kept, .int 0, .int 1, .int 0, .ref m_tape, .int 0, .ref m_refused, .int 0, .int (-1), .int 0, .int 0, .int 0, .int 0, .int (-1), .ref m_ownLetters, .ref m_flats, .int 0, .ref m_corner, .ref m_wayX, .ref m_wayY, .ref m_normal, .ref m_low, .ref m_high, .ref m_clear, .ref m_ways, .ref m_canBe, .ref m_lain, .int 0, .ref m_fewestBy, .ref m_sortOf, .int 0, .ref m_seenFlange, .ref m_seenLength])), (m_tape, .inl (g.2.1.1, 1200, .inl f3))] := hD
  refine lv_iinc (v := 3) (lv' := [(2, .int 3), (0, .ref h0), (1, .int x)]) hx hb dX9_lays_31 hl (k := 0) rfl (by decide) (by decide) rfl (fun ls hl => ?_)
  refine lv_goto (tgt := 2) hx hb dX9_lays_34 (by decide) ?_
  refine lv_iload_n hx hb dX9_lays_2 rfl (lv_at hl 0 rfl) ?_
  refine lv_iconst (v := 4) hx hb dX9_lays_3 (by decide) ?_
  refine lv_icmp_ge (tgt := 37) hx hb dX9_lays_4 (by decide) (fun c4 => absurd c4 (by decide)) (fun c4 => ?_)
  refine lv_aload_n hx hb dX9_lays_7 rfl (lv_at hl 1 rfl) ?_
  refine va_get (D := g.1) (ci := 9) (v := .ref m_tape) (C := RX9) (T := TX9) (N := 37) hx hb hG iX9 hown hX.1 hP 0 rfl rfl 8 (by decide) (hG _ g1425) (fun _ h9 => h9) rfl dX9_lays_8 ?_
  refine lv_aload_n hx hb dX9_lays_11 rfl (lv_at hl 1 rfl) ?_
  refine va_get (D := g.1) (ci := 9) (v := .int 0) (C := RX9) (T := TX9) (N := 37) hx hb hG iX9 hown hX.1 hP 0 rfl rfl 9 (by decide) (hG _ g1426) (fun _ h9 => h9) rfl dX9_lays_12 ?_
  refine lv_iload_n hx hb dX9_lays_15 rfl (lv_at hl 0 rfl) ?_
  refine lv_iadd hx hb dX9_lays_16 ?_
  refine zt (z := 3) (by decide) ?_
  refine lv_iload_n hx hb dX9_lays_17 rfl (lv_at hl 2 rfl) ?_
  refine lv_bipush (v := 24) hx hb dX9_lays_18 (by decide) ?_
  refine lv_bipush (v := 8) hx hb dX9_lays_20 (by decide) ?_
  refine lv_iload_n hx hb dX9_lays_22 rfl (lv_at hl 0 rfl) ?_
  refine lv_imul hx hb dX9_lays_23 ?_
  refine zt (z := 24) (by decide) ?_
  refine lv_isub hx hb dX9_lays_24 ?_
  refine zt (z := 0) (by decide) ?_
  refine lv_ishr hx hb dX9_lays_25 ?_
  refine lv_sipush (v := 255) hx hb dX9_lays_26 (by decide) ?_
  refine lv_iand hx hb dX9_lays_29 ?_
  refine va_iast hx hb hX.1 hP hD hS 1 0 rfl rfl (vp_in_iff.mpr (by decide)) dX9_lays_30 (fun H locs hP hD hS => ?_)
  obtain ⟨f4, ef4⟩ : ∃ z : Nat → Int32, z = upd f3 (3 : Int32).toNatClampNeg ((x >>> (0 &&& 31)) &&& 255) := ⟨_, rfl⟩
  rw [← ef4] at hP hD
  have hP : va_P g.1 vwCl [(h0, .inr (9, [.ref m_told, .ref m_read, .ref m_now, .ref m_readNow, .ref m_kept, .int 0, .int 1, .int 0, .ref m_tape, .int 0, .ref m_refused, .int 0, .int (-1), .int 0, .int 0, .int 0, .int 0, .int (-1), .ref m_ownLetters, .ref m_flats, .int 0, .ref m_corner, .ref m_wayX, .ref m_wayY, .ref m_normal, .ref m_low, .ref m_high, .ref m_clear, .ref m_ways, .ref m_canBe, .ref m_lain, .int 0, .ref m_fewestBy, .ref m_sortOf, .int 0, .ref m_seenFlange, .ref m_seenLength])), (m_tape, .inl (g.2.1.1, 1200, .inl f4))] H := hP
  have hD : va_D A [(h0, .inr (9, [.ref m_told, .ref m_read, .ref m_now, .ref m_readNow, .ref m_kept, .int 0, .int 1, .int 0, .ref m_tape, .int 0, .ref m_refused, .int 0, .int (-1), .int 0, .int 0, .int 0, .int 0, .int (-1), .ref m_ownLetters, .ref m_flats, .int 0, .ref m_corner, .ref m_wayX, .ref m_wayY, .ref m_normal, .ref m_low, .ref m_high, .ref m_clear, .ref m_ways, .ref m_canBe, .ref m_lain, .int 0, .ref m_fewestBy, .ref m_sortOf, .int 0, .ref m_seenFlange, .ref m_seenLength])), (m_tape, .inl (g.2.1.1, 1200, .inl f4))] := hD
  refine lv_iinc (v := 4) (lv' := [(2, .int 4), (0, .ref h0), (1, .int x)]) hx hb dX9_lays_31 hl (k := 0) rfl (by decide) (by decide) rfl (fun ls hl => ?_)
  refine lv_goto (tgt := 2) hx hb dX9_lays_34 (by decide) ?_
  refine lv_iload_n hx hb dX9_lays_2 rfl (lv_at hl 0 rfl) ?_
  refine lv_iconst (v := 4) hx hb dX9_lays_3 (by decide) ?_
  refine lv_icmp_ge (tgt := 37) hx hb dX9_lays_4 (by decide) (fun c4 => ?_) (fun c4 => (c4 (by decide)).elim)
  refine lv_aload_n hx hb dX9_lays_37 rfl (lv_at hl 1 rfl) ?_
  refine lv_dup hx hb dX9_lays_38 rfl ?_
  refine va_get (D := g.1) (ci := 9) (v := .int 0) (C := RX9) (T := TX9) (N := 37) hx hb hG iX9 hown hX.1 hP 0 rfl rfl 9 (by decide) (hG _ g1426) (fun _ h9 => h9) rfl dX9_lays_39 ?_
  refine lv_iconst (v := 4) hx hb dX9_lays_42 (by decide) ?_
  refine lv_iadd hx hb dX9_lays_43 ?_
  refine zt (z := 4) (by decide) ?_
  refine va_put (D := g.1) (ci := 9) (v := .int 4) (ty := .int) (C := RX9) (T := TX9) (N := 37) hx hb hG iX9 tyX9 tyX9_ok nmX9 hown hX.1 hP hD hS 0 rfl rfl 9 (by decide) (hG _ g1426) (fun _ h9 => h9) rfl (by decide +kernel) rfl rfl (Nat.le_of_ble_eq_true rfl) dX9_lays_44 (fun H locs hP hD hS => ?_)
  have hP : va_P g.1 vwCl [(h0, .inr (9, [.ref m_told, .ref m_read, .ref m_now, .ref m_readNow, .ref m_kept, .int 0, .int 1, .int 0, .ref m_tape, .int 4, .ref m_refused, .int 0, .int (-1), .int 0, .int 0, .int 0, .int 0, .int (-1), .ref m_ownLetters, .ref m_flats, .int 0, .ref m_corner, .ref m_wayX, .ref m_wayY, .ref m_normal, .ref m_low, .ref m_high, .ref m_clear, .ref m_ways, .ref m_canBe, .ref m_lain, .int 0, .ref m_fewestBy, .ref m_sortOf, .int 0, .ref m_seenFlange, .ref m_seenLength])), (m_tape, .inl (g.2.1.1, 1200, .inl f4))] H := hP
  have hD : va_D A [(h0, .inr (9, [.ref m_told, .ref m_read, .ref m_now, .ref m_readNow, .ref m_kept, .int 0, .int 1, .int 0, .ref m_tape, .int 4, .ref m_refused, .int 0, .int (-1), .int 0, .int 0, .int 0, .int 0, .int (-1), .ref m_ownLetters, .ref m_flats, .int 0, .ref m_corner, .ref m_wayX, .ref m_wayY, .ref m_normal, .ref m_low, .ref m_high, .ref m_clear, .ref m_ways, .ref m_canBe, .ref m_lain, .int 0, .ref m_fewestBy, .ref m_sortOf, .int 0, .ref m_seenFlange, .ref m_seenLength])), (m_tape, .inl (g.2.1.1, 1200, .inl f4))] := hD
  exact zrv (rm := { frames := 0, cells := 0, slots := 0, locals := 0 }) f4 hx hb hr hlocks (Nat.le_of_ble_eq_true rfl) (Nat.le_of_ble_eq_true rfl) (trivial) hP hD hS dX9_lays_47
set_option maxHeartbeats 4000000 in
set_option maxRecDepth 100000 in
theorem kX9_lays4 (l : Launch) (g : zL) (h0 : Nat) (x : Int32) (m_told : Nat) (m_read : Nat) (m_now : Nat) (m_readNow : Nat) (m_kept : Nat) (m_tape : Nat) (m_refused : Nat) (m_ownLetters : Nat) (m_flats : Nat) (m_corner : Nat) (m_wayX : Nat) (m_wayY : Nat) (m_normal : Nat) (m_low : Nat) (m_high : Nat) (m_clear : Nat) (m_ways : Nat) (m_canBe : Nat) (m_lain : Nat) (m_fewestBy : Nat) (m_sortOf : Nat) (m_seenFlange : Nat) (m_seenLength : Nat) (f : Nat → Int32) : zCv l g yX9_lays cX9_lays 3 none { frames := 0, cells := 0, slots := 0, locals := 0 } [.ref h0, .int x] [(h0, .inr (9, [.ref m_told, .ref m_read, .ref m_now, .ref m_readNow, .ref m_kept, .int 0, .int 1, .int 0, .ref m_tape, .int 4, .ref m_refused, .int 0, .int (-1), .int 0, .int 0, .int 0, .int 0, .int (-1), .ref m_ownLetters, .ref m_flats, .int 0, .ref m_corner, .ref m_wayX, .ref m_wayY, .ref m_normal, .ref m_low, .ref m_high, .ref m_clear, .ref m_ways, .ref m_canBe, .ref m_lain, .int 0, .ref m_fewestBy, .ref m_sortOf, .int 0, .ref m_seenFlange, .ref m_seenLength])), (m_tape, .inl (g.2.1.1, 1200, .inl f))] (fun (u : (Nat → Int32)) => True) (fun (u : (Nat → Int32)) => [(h0, .inr (9, [.ref m_told, .ref m_read, .ref m_now, .ref m_readNow, .ref m_kept, .int 0, .int 1, .int 0, .ref m_tape, .int 8, .ref m_refused, .int 0, .int (-1), .int 0, .int 0, .int 0, .int 0, .int (-1), .ref m_ownLetters, .ref m_flats, .int 0, .ref m_corner, .ref m_wayX, .ref m_wayY, .ref m_normal, .ref m_low, .ref m_high, .ref m_clear, .ref m_ways, .ref m_canBe, .ref m_lain, .int 0, .ref m_fewestBy, .ref m_sortOf, .int 0, .ref m_seenFlange, .ref m_seenLength])), (m_tape, .inl (g.2.1.1, 1200, .inl u))]) := by
  refine zCv.mk (by decide) (Nat.le_of_ble_eq_true rfl) ?_
  intro p e s m below meth c A hE hP hD hS ls hl
  obtain ⟨hx, hb, hr, hml, hown, hG, hlocks, hnm, hX, hA⟩ := hE
  have hown : s.vm.findClass RX9 = some m.cls := hown
  have hl : lv_has ls 3 [(0, .ref h0), (1, .int x)] := hl
  refine lv_iconst (v := 0) hx hb dX9_lays_0 (by decide) ?_
  refine lv_istore_n (lv' := [(2, .int 0), (0, .ref h0), (1, .int x)]) hx hb dX9_lays_1 rfl hl (by decide) rfl (fun ls hl => ?_)
  refine lv_iload_n hx hb dX9_lays_2 rfl (lv_at hl 0 rfl) ?_
  refine lv_iconst (v := 4) hx hb dX9_lays_3 (by decide) ?_
  refine lv_icmp_ge (tgt := 37) hx hb dX9_lays_4 (by decide) (fun c4 => absurd c4 (by decide)) (fun c4 => ?_)
  refine lv_aload_n hx hb dX9_lays_7 rfl (lv_at hl 1 rfl) ?_
  refine va_get (D := g.1) (ci := 9) (v := .ref m_tape) (C := RX9) (T := TX9) (N := 37) hx hb hG iX9 hown hX.1 hP 0 rfl rfl 8 (by decide) (hG _ g1425) (fun _ h9 => h9) rfl dX9_lays_8 ?_
  refine lv_aload_n hx hb dX9_lays_11 rfl (lv_at hl 1 rfl) ?_
  refine va_get (D := g.1) (ci := 9) (v := .int 4) (C := RX9) (T := TX9) (N := 37) hx hb hG iX9 hown hX.1 hP 0 rfl rfl 9 (by decide) (hG _ g1426) (fun _ h9 => h9) rfl dX9_lays_12 ?_
  refine lv_iload_n hx hb dX9_lays_15 rfl (lv_at hl 0 rfl) ?_
  refine lv_iadd hx hb dX9_lays_16 ?_
  refine zt (z := 4) (by decide) ?_
  refine lv_iload_n hx hb dX9_lays_17 rfl (lv_at hl 2 rfl) ?_
  refine lv_bipush (v := 24) hx hb dX9_lays_18 (by decide) ?_
  refine lv_bipush (v := 8) hx hb dX9_lays_20 (by decide) ?_
  refine lv_iload_n hx hb dX9_lays_22 rfl (lv_at hl 0 rfl) ?_
  refine lv_imul hx hb dX9_lays_23 ?_
  refine zt (z := 0) (by decide) ?_
  refine lv_isub hx hb dX9_lays_24 ?_
  refine zt (z := 24) (by decide) ?_
  refine lv_ishr hx hb dX9_lays_25 ?_
  refine lv_sipush (v := 255) hx hb dX9_lays_26 (by decide) ?_
  refine lv_iand hx hb dX9_lays_29 ?_
  refine va_iast hx hb hX.1 hP hD hS 1 0 rfl rfl (vp_in_iff.mpr (by decide)) dX9_lays_30 (fun H locs hP hD hS => ?_)
  obtain ⟨f1, ef1⟩ : ∃ z : Nat → Int32, z = upd f (4 : Int32).toNatClampNeg ((x >>> (24 &&& 31)) &&& 255) := ⟨_, rfl⟩
  rw [← ef1] at hP hD
  have hP : va_P g.1 vwCl [(h0, .inr (9, [.ref m_told, .ref m_read, .ref m_now, .ref m_readNow, .ref m_kept, .int 0, .int 1, .int 0, .ref m_tape, .int 4, .ref m_refused, .int 0, .int (-1), .int 0, .int 0, .int 0, .int 0, .int (-1), .ref m_ownLetters, .ref m_flats, .int 0, .ref m_corner, .ref m_wayX, .ref m_wayY, .ref m_normal, .ref m_low, .ref m_high, .ref m_clear, .ref m_ways, .ref m_canBe, .ref m_lain, .int 0, .ref m_fewestBy, .ref m_sortOf, .int 0, .ref m_seenFlange, .ref m_seenLength])), (m_tape, .inl (g.2.1.1, 1200, .inl f1))] H := hP
  have hD : va_D A [(h0, .inr (9, [.ref m_told, .ref m_read, .ref m_now, .ref m_readNow, .ref m_kept, .int 0, .int 1, .int 0, .ref m_tape, .int 4, .ref m_refused, .int 0, .int (-1), .int 0, .int 0, .int 0, .int 0, .int (-1), .ref m_ownLetters, .ref m_flats, .int 0, .ref m_corner, .ref m_wayX, .ref m_wayY, .ref m_normal, .ref m_low, .ref m_high, .ref m_clear, .ref m_ways, .ref m_canBe, .ref m_lain, .int 0, .ref m_fewestBy, .ref m_sortOf, .int 0, .ref m_seenFlange, .ref m_seenLength])), (m_tape, .inl (g.2.1.1, 1200, .inl f1))] := hD
  refine lv_iinc (v := 1) (lv' := [(2, .int 1), (0, .ref h0), (1, .int x)]) hx hb dX9_lays_31 hl (k := 0) rfl (by decide) (by decide) rfl (fun ls hl => ?_)
  refine lv_goto (tgt := 2) hx hb dX9_lays_34 (by decide) ?_
  refine lv_iload_n hx hb dX9_lays_2 rfl (lv_at hl 0 rfl) ?_
  refine lv_iconst (v := 4) hx hb dX9_lays_3 (by decide) ?_
  refine lv_icmp_ge (tgt := 37) hx hb dX9_lays_4 (by decide) (fun c4 => absurd c4 (by decide)) (fun c4 => ?_)
  refine lv_aload_n hx hb dX9_lays_7 rfl (lv_at hl 1 rfl) ?_
  refine va_get (D := g.1) (ci := 9) (v := .ref m_tape) (C := RX9) (T := TX9) (N := 37) hx hb hG iX9 hown hX.1 hP 0 rfl rfl 8 (by decide) (hG _ g1425) (fun _ h9 => h9) rfl dX9_lays_8 ?_
  refine lv_aload_n hx hb dX9_lays_11 rfl (lv_at hl 1 rfl) ?_
  refine va_get (D := g.1) (ci := 9) (v := .int 4) (C := RX9) (T := TX9) (N := 37) hx hb hG iX9 hown hX.1 hP 0 rfl rfl 9 (by decide) (hG _ g1426) (fun _ h9 => h9) rfl dX9_lays_12 ?_
  refine lv_iload_n hx hb dX9_lays_15 rfl (lv_at hl 0 rfl) ?_
  refine lv_iadd hx hb dX9_lays_16 ?_
  refine zt (z := 5) (by decide) ?_
  refine lv_iload_n hx hb dX9_lays_17 rfl (lv_at hl 2 rfl) ?_
  refine lv_bipush (v := 24) hx hb dX9_lays_18 (by decide) ?_
  refine lv_bipush (v := 8) hx hb dX9_lays_20 (by decide) ?_
  refine lv_iload_n hx hb dX9_lays_22 rfl (lv_at hl 0 rfl) ?_
  refine lv_imul hx hb dX9_lays_23 ?_
  refine zt (z := 8) (by decide) ?_
  refine lv_isub hx hb dX9_lays_24 ?_
  refine zt (z := 16) (by decide) ?_
  refine lv_ishr hx hb dX9_lays_25 ?_
  refine lv_sipush (v := 255) hx hb dX9_lays_26 (by decide) ?_
  refine lv_iand hx hb dX9_lays_29 ?_
  refine va_iast hx hb hX.1 hP hD hS 1 0 rfl rfl (vp_in_iff.mpr (by decide)) dX9_lays_30 (fun H locs hP hD hS => ?_)
  obtain ⟨f2, ef2⟩ : ∃ z : Nat → Int32, z = upd f1 (5 : Int32).toNatClampNeg ((x >>> (16 &&& 31)) &&& 255) := ⟨_, rfl⟩
  rw [← ef2] at hP hD
  have hP : va_P g.1 vwCl [(h0, .inr (9, [.ref m_told, .ref m_read, .ref m_now, .ref m_readNow, .ref m_kept, .int 0, .int 1, .int 0, .ref m_tape, .int 4, .ref m_refused, .int 0, .int (-1), .int 0, .int 0, .int 0, .int 0, .int (-1), .ref m_ownLetters, .ref m_flats, .int 0, .ref m_corner, .ref m_wayX, .ref m_wayY, .ref m_normal, .ref m_low, .ref m_high, .ref m_clear, .ref m_ways, .ref m_canBe, .ref m_lain, .int 0, .ref m_fewestBy, .ref m_sortOf, .int 0, .ref m_seenFlange, .ref m_seenLength])), (m_tape, .inl (g.2.1.1, 1200, .inl f2))] H := hP
  have hD : va_D A [(h0, .inr (9, [.ref m_told, .ref m_read, .ref m_now, .ref m_readNow, .ref m_kept, .int 0, .int 1, .int 0, .ref m_tape, .int 4, .ref m_refused, .int 0, .int (-1), .int 0, .int 0, .int 0, .int 0, .int (-1), .ref m_ownLetters, .ref m_flats, .int 0, .ref m_corner, .ref m_wayX, .ref m_wayY, .ref m_normal, .ref m_low, .ref m_high, .ref m_clear, .ref m_ways, .ref m_canBe, .ref m_lain, .int 0, .ref m_fewestBy, .ref m_sortOf, .int 0, .ref m_seenFlange, .ref m_seenLength])), (m_tape, .inl (g.2.1.1, 1200, .inl f2))] := hD
  refine lv_iinc (v := 2) (lv' := [(2, .int 2), (0, .ref h0), (1, .int x)]) hx hb dX9_lays_31 hl (k := 0) rfl (by decide) (by decide) rfl (fun ls hl => ?_)
  refine lv_goto (tgt := 2) hx hb dX9_lays_34 (by decide) ?_
  refine lv_iload_n hx hb dX9_lays_2 rfl (lv_at hl 0 rfl) ?_
  refine lv_iconst (v := 4) hx hb dX9_lays_3 (by decide) ?_
  refine lv_icmp_ge (tgt := 37) hx hb dX9_lays_4 (by decide) (fun c4 => absurd c4 (by decide)) (fun c4 => ?_)
  refine lv_aload_n hx hb dX9_lays_7 rfl (lv_at hl 1 rfl) ?_
  refine va_get (D := g.1) (ci := 9) (v := .ref m_tape) (C := RX9) (T := TX9) (N := 37) hx hb hG iX9 hown hX.1 hP 0 rfl rfl 8 (by decide) (hG _ g1425) (fun _ h9 => h9) rfl dX9_lays_8 ?_
  refine lv_aload_n hx hb dX9_lays_11 rfl (lv_at hl 1 rfl) ?_
  refine va_get (D := g.1) (ci := 9) (v := .int 4) (C := RX9) (T := TX9) (N := 37) hx hb hG iX9 hown hX.1 hP 0 rfl rfl 9 (by decide) (hG _ g1426) (fun _ h9 => h9) rfl dX9_lays_12 ?_
  refine lv_iload_n hx hb dX9_lays_15 rfl (lv_at hl 0 rfl) ?_
  refine lv_iadd hx hb dX9_lays_16 ?_
  refine zt (z := 6) (by decide) ?_
  refine lv_iload_n hx hb dX9_lays_17 rfl (lv_at hl 2 rfl) ?_
  refine lv_bipush (v := 24) hx hb dX9_lays_18 (by decide) ?_
  refine lv_bipush (v := 8) hx hb dX9_lays_20 (by decide) ?_
  refine lv_iload_n hx hb dX9_lays_22 rfl (lv_at hl 0 rfl) ?_
  refine lv_imul hx hb dX9_lays_23 ?_
  refine zt (z := 16) (by decide) ?_
  refine lv_isub hx hb dX9_lays_24 ?_
  refine zt (z := 8) (by decide) ?_
  refine lv_ishr hx hb dX9_lays_25 ?_
  refine lv_sipush (v := 255) hx hb dX9_lays_26 (by decide) ?_
  refine lv_iand hx hb dX9_lays_29 ?_
  refine va_iast hx hb hX.1 hP hD hS 1 0 rfl rfl (vp_in_iff.mpr (by decide)) dX9_lays_30 (fun H locs hP hD hS => ?_)
  obtain ⟨f3, ef3⟩ : ∃ z : Nat → Int32, z = upd f2 (6 : Int32).toNatClampNeg ((x >>> (8 &&& 31)) &&& 255) := ⟨_, rfl⟩
  rw [← ef3] at hP hD
  have hP : va_P g.1 vwCl [(h0, .inr (9, [.ref m_told, .ref m_read, .ref m_now, .ref m_readNow, .ref m_kept, .int 0, .int 1, .int 0, .ref m_tape, .int 4, .ref m_refused, .int 0, .int (-1), .int 0, .int 0, .int 0, .int 0, .int (-1), .ref m_ownLetters, .ref m_flats, .int 0, .ref m_corner, .ref m_wayX, .ref m_wayY, .ref m_normal, .ref m_low, .ref m_high, .ref m_clear, .ref m_ways, .ref m_canBe, .ref m_lain, .int 0, .ref m_fewestBy, .ref m_sortOf, .int 0, .ref m_seenFlange, .ref m_seenLength])), (m_tape, .inl (g.2.1.1, 1200, .inl f3))] H := hP
  have hD : va_D A [(h0, .inr (9, [.ref m_told, .ref m_read, .ref m_now, .ref m_readNow, .ref m_kept, .int 0, .int 1, .int 0, .ref m_tape, .int 4, .ref m_refused, .int 0, .int (-1), .int 0, .int 0, .int 0, .int 0, .int (-1), .ref m_ownLetters, .ref m_flats, .int 0, .ref m_corner, .ref m_wayX, .ref m_wayY, .ref m_normal, .ref m_low, .ref m_high, .ref m_clear, .ref m_ways, .ref m_canBe, .ref m_lain, .int 0, .ref m_fewestBy, .ref m_sortOf, .int 0, .ref m_seenFlange, .ref m_seenLength])), (m_tape, .inl (g.2.1.1, 1200, .inl f3))] := hD
  refine lv_iinc (v := 3) (lv' := [(2, .int 3), (0, .ref h0), (1, .int x)]) hx hb dX9_lays_31 hl (k := 0) rfl (by decide) (by decide) rfl (fun ls hl => ?_)
  refine lv_goto (tgt := 2) hx hb dX9_lays_34 (by decide) ?_
  refine lv_iload_n hx hb dX9_lays_2 rfl (lv_at hl 0 rfl) ?_
  refine lv_iconst (v := 4) hx hb dX9_lays_3 (by decide) ?_
  refine lv_icmp_ge (tgt := 37) hx hb dX9_lays_4 (by decide) (fun c4 => absurd c4 (by decide)) (fun c4 => ?_)
  refine lv_aload_n hx hb dX9_lays_7 rfl (lv_at hl 1 rfl) ?_
  refine va_get (D := g.1) (ci := 9) (v := .ref m_tape) (C := RX9) (T := TX9) (N := 37) hx hb hG iX9 hown hX.1 hP 0 rfl rfl 8 (by decide) (hG _ g1425) (fun _ h9 => h9) rfl dX9_lays_8 ?_
  refine lv_aload_n hx hb dX9_lays_11 rfl (lv_at hl 1 rfl) ?_
  refine va_get (D := g.1) (ci := 9) (v := .int 4) (C := RX9) (T := TX9) (N := 37) hx hb hG iX9 hown hX.1 hP 0 rfl rfl 9 (by decide) (hG _ g1426) (fun _ h9 => h9) rfl dX9_lays_12 ?_
  refine lv_iload_n hx hb dX9_lays_15 rfl (lv_at hl 0 rfl) ?_
  refine lv_iadd hx hb dX9_lays_16 ?_
  refine zt (z := 7) (by decide) ?_
  refine lv_iload_n hx hb dX9_lays_17 rfl (lv_at hl 2 rfl) ?_
  refine lv_bipush (v := 24) hx hb dX9_lays_18 (by decide) ?_
  refine lv_bipush (v := 8) hx hb dX9_lays_20 (by decide) ?_
  refine lv_iload_n hx hb dX9_lays_22 rfl (lv_at hl 0 rfl) ?_
  refine lv_imul hx hb dX9_lays_23 ?_
  refine zt (z := 24) (by decide) ?_
  refine lv_isub hx hb dX9_lays_24 ?_
  refine zt (z := 0) (by decide) ?_
  refine lv_ishr hx hb dX9_lays_25 ?_
  refine lv_sipush (v := 255) hx hb dX9_lays_26 (by decide) ?_
  refine lv_iand hx hb dX9_lays_29 ?_
  refine va_iast hx hb hX.1 hP hD hS 1 0 rfl rfl (vp_in_iff.mpr (by decide)) dX9_lays_30 (fun H locs hP hD hS => ?_)
  obtain ⟨f4, ef4⟩ : ∃ z : Nat → Int32, z = upd f3 (7 : Int32).toNatClampNeg ((x >>> (0 &&& 31)) &&& 255) := ⟨_, rfl⟩
  rw [← ef4] at hP hD
  have hP : va_P g.1 vwCl [(h0, .inr (9, [.ref m_told, .ref m_read, .ref m_now, .ref m_readNow, .ref m_kept, .int 0, .int 1, .int 0, .ref m_tape, .int 4, .ref m_refused, .int 0, .int (-1), .int 0, .int 0, .int 0, .int 0, .int (-1), .ref m_ownLetters, .ref m_flats, .int 0, .ref m_corner, .ref m_wayX, .ref m_wayY, .ref m_normal, .ref m_low, .ref m_high, .ref m_clear, .ref m_ways, .ref m_canBe, .ref m_lain, .int 0, .ref m_fewestBy, .ref m_sortOf, .int 0, .ref m_seenFlange, .ref m_seenLength])), (m_tape, .inl (g.2.1.1, 1200, .inl f4))] H := hP
  have hD : va_D A [(h0, .inr (9, [.ref m_told, .ref m_read, .ref m_now, .ref m_readNow, .ref m_kept, .int 0, .int 1, .int 0, .ref m_tape, .int 4, .ref m_refused, .int 0, .int (-1), .int 0, .int 0, .int 0, .int 0, .int (-1), .ref m_ownLetters, .ref m_flats, .int 0, .ref m_corner, .ref m_wayX, .ref m_wayY, .ref m_normal, .ref m_low, .ref m_high, .ref m_clear, .ref m_ways, .ref m_canBe, .ref m_lain, .int 0, .ref m_fewestBy, .ref m_sortOf, .int 0, .ref m_seenFlange, .ref m_seenLength])), (m_tape, .inl (g.2.1.1, 1200, .inl f4))] := hD
  refine lv_iinc (v := 4) (lv' := [(2, .int 4), (0, .ref h0), (1, .int x)]) hx hb dX9_lays_31 hl (k := 0) rfl (by decide) (by decide) rfl (fun ls hl => ?_)
  refine lv_goto (tgt := 2) hx hb dX9_lays_34 (by decide) ?_
  refine lv_iload_n hx hb dX9_lays_2 rfl (lv_at hl 0 rfl) ?_
  refine lv_iconst (v := 4) hx hb dX9_lays_3 (by decide) ?_
  refine lv_icmp_ge (tgt := 37) hx hb dX9_lays_4 (by decide) (fun c4 => ?_) (fun c4 => (c4 (by decide)).elim)
  refine lv_aload_n hx hb dX9_lays_37 rfl (lv_at hl 1 rfl) ?_
  refine lv_dup hx hb dX9_lays_38 rfl ?_
  refine va_get (D := g.1) (ci := 9) (v := .int 4) (C := RX9) (T := TX9) (N := 37) hx hb hG iX9 hown hX.1 hP 0 rfl rfl 9 (by decide) (hG _ g1426) (fun _ h9 => h9) rfl dX9_lays_39 ?_
  refine lv_iconst (v := 4) hx hb dX9_lays_42 (by decide) ?_
  refine lv_iadd hx hb dX9_lays_43 ?_
  refine zt (z := 8) (by decide) ?_
  refine va_put (D := g.1) (ci := 9) (v := .int 8) (ty := .int) (C := RX9) (T := TX9) (N := 37) hx hb hG iX9 tyX9 tyX9_ok nmX9 hown hX.1 hP hD hS 0 rfl rfl 9 (by decide) (hG _ g1426) (fun _ h9 => h9) rfl (by decide +kernel) rfl rfl (Nat.le_of_ble_eq_true rfl) dX9_lays_44 (fun H locs hP hD hS => ?_)
  have hP : va_P g.1 vwCl [(h0, .inr (9, [.ref m_told, .ref m_read, .ref m_now, .ref m_readNow, .ref m_kept, .int 0, .int 1, .int 0, .ref m_tape, .int 8, .ref m_refused, .int 0, .int (-1), .int 0, .int 0, .int 0, .int 0, .int (-1), .ref m_ownLetters, .ref m_flats, .int 0, .ref m_corner, .ref m_wayX, .ref m_wayY, .ref m_normal, .ref m_low, .ref m_high, .ref m_clear, .ref m_ways, .ref m_canBe, .ref m_lain, .int 0, .ref m_fewestBy, .ref m_sortOf, .int 0, .ref m_seenFlange, .ref m_seenLength])), (m_tape, .inl (g.2.1.1, 1200, .inl f4))] H := hP
  have hD : va_D A [(h0, .inr (9, [.ref m_told, .ref m_read, .ref m_now, .ref m_readNow, .ref m_kept, .int 0, .int 1, .int 0, .ref m_tape, .int 8, .ref m_refused, .int 0, .int (-1), .int 0, .int 0, .int 0, .int 0, .int (-1), .ref m_ownLetters, .ref m_flats, .int 0, .ref m_corner, .ref m_wayX, .ref m_wayY, .ref m_normal, .ref m_low, .ref m_high, .ref m_clear, .ref m_ways, .ref m_canBe, .ref m_lain, .int 0, .ref m_fewestBy, .ref m_sortOf, .int 0, .ref m_seenFlange, .ref m_seenLength])), (m_tape, .inl (g.2.1.1, 1200, .inl f4))] := hD
  exact zrv (rm := { frames := 0, cells := 0, slots := 0, locals := 0 }) f4 hx hb hr hlocks (Nat.le_of_ble_eq_true rfl) (Nat.le_of_ble_eq_true rfl) (trivial) hP hD hS dX9_lays_47
set_option maxHeartbeats 4000000 in
set_option maxRecDepth 100000 in
theorem kX9_lays8 (l : Launch) (g : zL) (h0 : Nat) (x : Int32) (m_told : Nat) (m_read : Nat) (m_now : Nat) (m_readNow : Nat) (m_kept : Nat) (m_tape : Nat) (m_refused : Nat) (m_ownLetters : Nat) (m_flats : Nat) (m_corner : Nat) (m_wayX : Nat) (m_wayY : Nat) (m_normal : Nat) (m_low : Nat) (m_high : Nat) (m_clear : Nat) (m_ways : Nat) (m_canBe : Nat) (m_lain : Nat) (m_fewestBy : Nat) (m_sortOf : Nat) (m_seenFlange : Nat) (m_seenLength : Nat) (f : Nat → Int32) : zCv l g yX9_lays cX9_lays 3 none { frames := 0, cells := 0, slots := 0, locals := 0 } [.ref h0, .int x] [(h0, .inr (9, [.ref m_told, .ref m_read, .ref m_now, .ref m_readNow, .ref m_kept, .int 0, .int 1, .int 0, .ref m_tape, .int 8, .ref m_refused, .int 0, .int (-1), .int 0, .int 0, .int 0, .int 0, .int (-1), .ref m_ownLetters, .ref m_flats, .int 0, .ref m_corner, .ref m_wayX, .ref m_wayY, .ref m_normal, .ref m_low, .ref m_high, .ref m_clear, .ref m_ways, .ref m_canBe, .ref m_lain, .int 0, .ref m_fewestBy, .ref m_sortOf, .int 0, .ref m_seenFlange, .ref m_seenLength])), (m_tape, .inl (g.2.1.1, 1200, .inl f))] (fun (u : (Nat → Int32)) => True) (fun (u : (Nat → Int32)) => [(h0, .inr (9, [.ref m_told, .ref m_read, .ref m_now, .ref m_readNow, .ref m_kept, .int 0, .int 1, .int 0, .ref m_tape, .int 12, .ref m_refused, .int 0, .int (-1), .int 0, .int 0, .int 0, .int 0, .int (-1), .ref m_ownLetters, .ref m_flats, .int 0, .ref m_corner, .ref m_wayX, .ref m_wayY, .ref m_normal, .ref m_low, .ref m_high, .ref m_clear, .ref m_ways, .ref m_canBe, .ref m_lain, .int 0, .ref m_fewestBy, .ref m_sortOf, .int 0, .ref m_seenFlange, .ref m_seenLength])), (m_tape, .inl (g.2.1.1, 1200, .inl u))]) := by
  refine zCv.mk (by decide) (Nat.le_of_ble_eq_true rfl) ?_
  intro p e s m below meth c A hE hP hD hS ls hl
  obtain ⟨hx, hb, hr, hml, hown, hG, hlocks, hnm, hX, hA⟩ := hE
  have hown : s.vm.findClass RX9 = some m.cls := hown
  have hl : lv_has ls 3 [(0, .ref h0), (1, .int x)] := hl
  refine lv_iconst (v := 0) hx hb dX9_lays_0 (by decide) ?_
  refine lv_istore_n (lv' := [(2, .int 0), (0, .ref h0), (1, .int x)]) hx hb dX9_lays_1 rfl hl (by decide) rfl (fun ls hl => ?_)
  refine lv_iload_n hx hb dX9_lays_2 rfl (lv_at hl 0 rfl) ?_
  refine lv_iconst (v := 4) hx hb dX9_lays_3 (by decide) ?_
  refine lv_icmp_ge (tgt := 37) hx hb dX9_lays_4 (by decide) (fun c4 => absurd c4 (by decide)) (fun c4 => ?_)
  refine lv_aload_n hx hb dX9_lays_7 rfl (lv_at hl 1 rfl) ?_
  refine va_get (D := g.1) (ci := 9) (v := .ref m_tape) (C := RX9) (T := TX9) (N := 37) hx hb hG iX9 hown hX.1 hP 0 rfl rfl 8 (by decide) (hG _ g1425) (fun _ h9 => h9) rfl dX9_lays_8 ?_
  refine lv_aload_n hx hb dX9_lays_11 rfl (lv_at hl 1 rfl) ?_
  refine va_get (D := g.1) (ci := 9) (v := .int 8) (C := RX9) (T := TX9) (N := 37) hx hb hG iX9 hown hX.1 hP 0 rfl rfl 9 (by decide) (hG _ g1426) (fun _ h9 => h9) rfl dX9_lays_12 ?_
  refine lv_iload_n hx hb dX9_lays_15 rfl (lv_at hl 0 rfl) ?_
  refine lv_iadd hx hb dX9_lays_16 ?_
  refine zt (z := 8) (by decide) ?_
  refine lv_iload_n hx hb dX9_lays_17 rfl (lv_at hl 2 rfl) ?_
  refine lv_bipush (v := 24) hx hb dX9_lays_18 (by decide) ?_
  refine lv_bipush (v := 8) hx hb dX9_lays_20 (by decide) ?_
  refine lv_iload_n hx hb dX9_lays_22 rfl (lv_at hl 0 rfl) ?_
  refine lv_imul hx hb dX9_lays_23 ?_
  refine zt (z := 0) (by decide) ?_
  refine lv_isub hx hb dX9_lays_24 ?_
  refine zt (z := 24) (by decide) ?_
  refine lv_ishr hx hb dX9_lays_25 ?_
  refine lv_sipush (v := 255) hx hb dX9_lays_26 (by decide) ?_
  refine lv_iand hx hb dX9_lays_29 ?_
  refine va_iast hx hb hX.1 hP hD hS 1 0 rfl rfl (vp_in_iff.mpr (by decide)) dX9_lays_30 (fun H locs hP hD hS => ?_)
  obtain ⟨f1, ef1⟩ : ∃ z : Nat → Int32, z = upd f (8 : Int32).toNatClampNeg ((x >>> (24 &&& 31)) &&& 255) := ⟨_, rfl⟩
  rw [← ef1] at hP hD
  have hP : va_P g.1 vwCl [(h0, .inr (9, [.ref m_told, .ref m_read, .ref m_now, .ref m_readNow, .ref m_kept, .int 0, .int 1, .int 0, .ref m_tape, .int 8, .ref m_refused, .int 0, .int (-1), .int 0, .int 0, .int 0, .int 0, .int (-1), .ref m_ownLetters, .ref m_flats, .int 0, .ref m_corner, .ref m_wayX, .ref m_wayY, .ref m_normal, .ref m_low, .ref m_high, .ref m_clear, .ref m_ways, .ref m_canBe, .ref m_lain, .int 0, .ref m_fewestBy, .ref m_sortOf, .int 0, .ref m_seenFlange, .ref m_seenLength])), (m_tape, .inl (g.2.1.1, 1200, .inl f1))] H := hP
  have hD : va_D A [(h0, .inr (9, [.ref m_told, .ref m_read, .ref m_now, .ref m_readNow, .ref m_kept, .int 0, .int 1, .int 0, .ref m_tape, .int 8, .ref m_refused, .int 0, .int (-1), .int 0, .int 0, .int 0, .int 0, .int (-1), .ref m_ownLetters, .ref m_flats, .int 0, .ref m_corner, .ref m_wayX, .ref m_wayY, .ref m_normal, .ref m_low, .ref m_high, .ref m_clear, .ref m_ways, .ref m_canBe, .ref m_lain, .int 0, .ref m_fewestBy, .ref m_sortOf, .int 0, .ref m_seenFlange, .ref m_seenLength])), (m_tape, .inl (g.2.1.1, 1200, .inl f1))] := hD
  refine lv_iinc (v := 1) (lv' := [(2, .int 1), (0, .ref h0), (1, .int x)]) hx hb dX9_lays_31 hl (k := 0) rfl (by decide) (by decide) rfl (fun ls hl => ?_)
  refine lv_goto (tgt := 2) hx hb dX9_lays_34 (by decide) ?_
  refine lv_iload_n hx hb dX9_lays_2 rfl (lv_at hl 0 rfl) ?_
  refine lv_iconst (v := 4) hx hb dX9_lays_3 (by decide) ?_
  refine lv_icmp_ge (tgt := 37) hx hb dX9_lays_4 (by decide) (fun c4 => absurd c4 (by decide)) (fun c4 => ?_)
  refine lv_aload_n hx hb dX9_lays_7 rfl (lv_at hl 1 rfl) ?_
  refine va_get (D := g.1) (ci := 9) (v := .ref m_tape) (C := RX9) (T := TX9) (N := 37) hx hb hG iX9 hown hX.1 hP 0 rfl rfl 8 (by decide) (hG _ g1425) (fun _ h9 => h9) rfl dX9_lays_8 ?_
  refine lv_aload_n hx hb dX9_lays_11 rfl (lv_at hl 1 rfl) ?_
  refine va_get (D := g.1) (ci := 9) (v := .int 8) (C := RX9) (T := TX9) (N := 37) hx hb hG iX9 hown hX.1 hP 0 rfl rfl 9 (by decide) (hG _ g1426) (fun _ h9 => h9) rfl dX9_lays_12 ?_
  refine lv_iload_n hx hb dX9_lays_15 rfl (lv_at hl 0 rfl) ?_
  refine lv_iadd hx hb dX9_lays_16 ?_
  refine zt (z := 9) (by decide) ?_
  refine lv_iload_n hx hb dX9_lays_17 rfl (lv_at hl 2 rfl) ?_
  refine lv_bipush (v := 24) hx hb dX9_lays_18 (by decide) ?_
  refine lv_bipush (v := 8) hx hb dX9_lays_20 (by decide) ?_
  refine lv_iload_n hx hb dX9_lays_22 rfl (lv_at hl 0 rfl) ?_
  refine lv_imul hx hb dX9_lays_23 ?_
  refine zt (z := 8) (by decide) ?_
  refine lv_isub hx hb dX9_lays_24 ?_
  refine zt (z := 16) (by decide) ?_
  refine lv_ishr hx hb dX9_lays_25 ?_
  refine lv_sipush (v := 255) hx hb dX9_lays_26 (by decide) ?_
  refine lv_iand hx hb dX9_lays_29 ?_
  refine va_iast hx hb hX.1 hP hD hS 1 0 rfl rfl (vp_in_iff.mpr (by decide)) dX9_lays_30 (fun H locs hP hD hS => ?_)
  obtain ⟨f2, ef2⟩ : ∃ z : Nat → Int32, z = upd f1 (9 : Int32).toNatClampNeg ((x >>> (16 &&& 31)) &&& 255) := ⟨_, rfl⟩
  rw [← ef2] at hP hD
  have hP : va_P g.1 vwCl [(h0, .inr (9, [.ref m_told, .ref m_read, .ref m_now, .ref m_readNow, .ref m_kept, .int 0, .int 1, .int 0, .ref m_tape, .int 8, .ref m_refused, .int 0, .int (-1), .int 0, .int 0, .int 0, .int 0, .int (-1), .ref m_ownLetters, .ref m_flats, .int 0, .ref m_corner, .ref m_wayX, .ref m_wayY, .ref m_normal, .ref m_low, .ref m_high, .ref m_clear, .ref m_ways, .ref m_canBe, .ref m_lain, .int 0, .ref m_fewestBy, .ref m_sortOf, .int 0, .ref m_seenFlange, .ref m_seenLength])), (m_tape, .inl (g.2.1.1, 1200, .inl f2))] H := hP
  have hD : va_D A [(h0, .inr (9, [.ref m_told, .ref m_read, .ref m_now, .ref m_readNow, .ref m_kept, .int 0, .int 1, .int 0, .ref m_tape, .int 8, .ref m_refused, .int 0, .int (-1), .int 0, .int 0, .int 0, .int 0, .int (-1), .ref m_ownLetters, .ref m_flats, .int 0, .ref m_corner, .ref m_wayX, .ref m_wayY, .ref m_normal, .ref m_low, .ref m_high, .ref m_clear, .ref m_ways, .ref m_canBe, .ref m_lain, .int 0, .ref m_fewestBy, .ref m_sortOf, .int 0, .ref m_seenFlange, .ref m_seenLength])), (m_tape, .inl (g.2.1.1, 1200, .inl f2))] := hD
  refine lv_iinc (v := 2) (lv' := [(2, .int 2), (0, .ref h0), (1, .int x)]) hx hb dX9_lays_31 hl (k := 0) rfl (by decide) (by decide) rfl (fun ls hl => ?_)
  refine lv_goto (tgt := 2) hx hb dX9_lays_34 (by decide) ?_
  refine lv_iload_n hx hb dX9_lays_2 rfl (lv_at hl 0 rfl) ?_
  refine lv_iconst (v := 4) hx hb dX9_lays_3 (by decide) ?_
  refine lv_icmp_ge (tgt := 37) hx hb dX9_lays_4 (by decide) (fun c4 => absurd c4 (by decide)) (fun c4 => ?_)
  refine lv_aload_n hx hb dX9_lays_7 rfl (lv_at hl 1 rfl) ?_
  refine va_get (D := g.1) (ci := 9) (v := .ref m_tape) (C := RX9) (T := TX9) (N := 37) hx hb hG iX9 hown hX.1 hP 0 rfl rfl 8 (by decide) (hG _ g1425) (fun _ h9 => h9) rfl dX9_lays_8 ?_
  refine lv_aload_n hx hb dX9_lays_11 rfl (lv_at hl 1 rfl) ?_
  refine va_get (D := g.1) (ci := 9) (v := .int 8) (C := RX9) (T := TX9) (N := 37) hx hb hG iX9 hown hX.1 hP 0 rfl rfl 9 (by decide) (hG _ g1426) (fun _ h9 => h9) rfl dX9_lays_12 ?_
  refine lv_iload_n hx hb dX9_lays_15 rfl (lv_at hl 0 rfl) ?_
  refine lv_iadd hx hb dX9_lays_16 ?_
  refine zt (z := 10) (by decide) ?_
  refine lv_iload_n hx hb dX9_lays_17 rfl (lv_at hl 2 rfl) ?_
  refine lv_bipush (v := 24) hx hb dX9_lays_18 (by decide) ?_
  refine lv_bipush (v := 8) hx hb dX9_lays_20 (by decide) ?_
  refine lv_iload_n hx hb dX9_lays_22 rfl (lv_at hl 0 rfl) ?_
  refine lv_imul hx hb dX9_lays_23 ?_
  refine zt (z := 16) (by decide) ?_
  refine lv_isub hx hb dX9_lays_24 ?_
  refine zt (z := 8) (by decide) ?_
  refine lv_ishr hx hb dX9_lays_25 ?_
  refine lv_sipush (v := 255) hx hb dX9_lays_26 (by decide) ?_
  refine lv_iand hx hb dX9_lays_29 ?_
  refine va_iast hx hb hX.1 hP hD hS 1 0 rfl rfl (vp_in_iff.mpr (by decide)) dX9_lays_30 (fun H locs hP hD hS => ?_)
  obtain ⟨f3, ef3⟩ : ∃ z : Nat → Int32, z = upd f2 (10 : Int32).toNatClampNeg ((x >>> (8 &&& 31)) &&& 255) := ⟨_, rfl⟩
  rw [← ef3] at hP hD
  have hP : va_P g.1 vwCl [(h0, .inr (9, [.ref m_told, .ref m_read, .ref m_now, .ref m_readNow, .ref m_kept, .int 0, .int 1, .int 0, .ref m_tape, .int 8, .ref m_refused, .int 0, .int (-1), .int 0, .int 0, .int 0, .int 0, .int (-1), .ref m_ownLetters, .ref m_flats, .int 0, .ref m_corner, .ref m_wayX, .ref m_wayY, .ref m_normal, .ref m_low, .ref m_high, .ref m_clear, .ref m_ways, .ref m_canBe, .ref m_lain, .int 0, .ref m_fewestBy, .ref m_sortOf, .int 0, .ref m_seenFlange, .ref m_seenLength])), (m_tape, .inl (g.2.1.1, 1200, .inl f3))] H := hP
  have hD : va_D A [(h0, .inr (9, [.ref m_told, .ref m_read, .ref m_now, .ref m_readNow, .ref m_kept, .int 0, .int 1, .int 0, .ref m_tape, .int 8, .ref m_refused, .int 0, .int (-1), .int 0, .int 0, .int 0, .int 0, .int (-1), .ref m_ownLetters, .ref m_flats, .int 0, .ref m_corner, .ref m_wayX, .ref m_wayY, .ref m_normal, .ref m_low, .ref m_high, .ref m_clear, .ref m_ways, .ref m_canBe, .ref m_lain, .int 0, .ref m_fewestBy, .ref m_sortOf, .int 0, .ref m_seenFlange, .ref m_seenLength])), (m_tape, .inl (g.2.1.1, 1200, .inl f3))] := hD
  refine lv_iinc (v := 3) (lv' := [(2, .int 3), (0, .ref h0), (1, .int x)]) hx hb dX9_lays_31 hl (k := 0) rfl (by decide) (by decide) rfl (fun ls hl => ?_)
  refine lv_goto (tgt := 2) hx hb dX9_lays_34 (by decide) ?_
  refine lv_iload_n hx hb dX9_lays_2 rfl (lv_at hl 0 rfl) ?_
  refine lv_iconst (v := 4) hx hb dX9_lays_3 (by decide) ?_
  refine lv_icmp_ge (tgt := 37) hx hb dX9_lays_4 (by decide) (fun c4 => absurd c4 (by decide)) (fun c4 => ?_)
  refine lv_aload_n hx hb dX9_lays_7 rfl (lv_at hl 1 rfl) ?_
  refine va_get (D := g.1) (ci := 9) (v := .ref m_tape) (C := RX9) (T := TX9) (N := 37) hx hb hG iX9 hown hX.1 hP 0 rfl rfl 8 (by decide) (hG _ g1425) (fun _ h9 => h9) rfl dX9_lays_8 ?_
  refine lv_aload_n hx hb dX9_lays_11 rfl (lv_at hl 1 rfl) ?_
  refine va_get (D := g.1) (ci := 9) (v := .int 8) (C := RX9) (T := TX9) (N := 37) hx hb hG iX9 hown hX.1 hP 0 rfl rfl 9 (by decide) (hG _ g1426) (fun _ h9 => h9) rfl dX9_lays_12 ?_
  refine lv_iload_n hx hb dX9_lays_15 rfl (lv_at hl 0 rfl) ?_
  refine lv_iadd hx hb dX9_lays_16 ?_
  refine zt (z := 11) (by decide) ?_
  refine lv_iload_n hx hb dX9_lays_17 rfl (lv_at hl 2 rfl) ?_
  refine lv_bipush (v := 24) hx hb dX9_lays_18 (by decide) ?_
  refine lv_bipush (v := 8) hx hb dX9_lays_20 (by decide) ?_
  refine lv_iload_n hx hb dX9_lays_22 rfl (lv_at hl 0 rfl) ?_
  refine lv_imul hx hb dX9_lays_23 ?_
  refine zt (z := 24) (by decide) ?_
  refine lv_isub hx hb dX9_lays_24 ?_
  refine zt (z := 0) (by decide) ?_
  refine lv_ishr hx hb dX9_lays_25 ?_
  refine lv_sipush (v := 255) hx hb dX9_lays_26 (by decide) ?_
  refine lv_iand hx hb dX9_lays_29 ?_
  refine va_iast hx hb hX.1 hP hD hS 1 0 rfl rfl (vp_in_iff.mpr (by decide)) dX9_lays_30 (fun H locs hP hD hS => ?_)
  obtain ⟨f4, ef4⟩ : ∃ z : Nat → Int32, z = upd f3 (11 : Int32).toNatClampNeg ((x >>> (0 &&& 31)) &&& 255) := ⟨_, rfl⟩
  rw [← ef4] at hP hD
  have hP : va_P g.1 vwCl [(h0, .inr (9, [.ref m_told, .ref m_read, .ref m_now, .ref m_readNow, .ref m_kept, .int 0, .int 1, .int 0, .ref m_tape, .int 8, .ref m_refused, .int 0, .int (-1), .int 0, .int 0, .int 0, .int 0, .int (-1), .ref m_ownLetters, .ref m_flats, .int 0, .ref m_corner, .ref m_wayX, .ref m_wayY, .ref m_normal, .ref m_low, .ref m_high, .ref m_clear, .ref m_ways, .ref m_canBe, .ref m_lain, .int 0, .ref m_fewestBy, .ref m_sortOf, .int 0, .ref m_seenFlange, .ref m_seenLength])), (m_tape, .inl (g.2.1.1, 1200, .inl f4))] H := hP
  have hD : va_D A [(h0, .inr (9, [.ref m_told, .ref m_read, .ref m_now, .ref m_readNow, .ref m_kept, .int 0, .int 1, .int 0, .ref m_tape, .int 8, .ref m_refused, .int 0, .int (-1), .int 0, .int 0, .int 0, .int 0, .int (-1), .ref m_ownLetters, .ref m_flats, .int 0, .ref m_corner, .ref m_wayX, .ref m_wayY, .ref m_normal, .ref m_low, .ref m_high, .ref m_clear, .ref m_ways, .ref m_canBe, .ref m_lain, .int 0, .ref m_fewestBy, .ref m_sortOf, .int 0, .ref m_seenFlange, .ref m_seenLength])), (m_tape, .inl (g.2.1.1, 1200, .inl f4))] := hD
  refine lv_iinc (v := 4) (lv' := [(2, .int 4), (0, .ref h0), (1, .int x)]) hx hb dX9_lays_31 hl (k := 0) rfl (by decide) (by decide) rfl (fun ls hl => ?_)
  refine lv_goto (tgt := 2) hx hb dX9_lays_34 (by decide) ?_
  refine lv_iload_n hx hb dX9_lays_2 rfl (lv_at hl 0 rfl) ?_
  refine lv_iconst (v := 4) hx hb dX9_lays_3 (by decide) ?_
  refine lv_icmp_ge (tgt := 37) hx hb dX9_lays_4 (by decide) (fun c4 => ?_) (fun c4 => (c4 (by decide)).elim)
  refine lv_aload_n hx hb dX9_lays_37 rfl (lv_at hl 1 rfl) ?_
  refine lv_dup hx hb dX9_lays_38 rfl ?_
  refine va_get (D := g.1) (ci := 9) (v := .int 8) (C := RX9) (T := TX9) (N := 37) hx hb hG iX9 hown hX.1 hP 0 rfl rfl 9 (by decide) (hG _ g1426) (fun _ h9 => h9) rfl dX9_lays_39 ?_
  refine lv_iconst (v := 4) hx hb dX9_lays_42 (by decide) ?_
  refine lv_iadd hx hb dX9_lays_43 ?_
  refine zt (z := 12) (by decide) ?_
  refine va_put (D := g.1) (ci := 9) (v := .int 12) (ty := .int) (C := RX9) (T := TX9) (N := 37) hx hb hG iX9 tyX9 tyX9_ok nmX9 hown hX.1 hP hD hS 0 rfl rfl 9 (by decide) (hG _ g1426) (fun _ h9 => h9) rfl (by decide +kernel) rfl rfl (Nat.le_of_ble_eq_true rfl) dX9_lays_44 (fun H locs hP hD hS => ?_)
  have hP : va_P g.1 vwCl [(h0, .inr (9, [.ref m_told, .ref m_read, .ref m_now, .ref m_readNow, .ref m_kept, .int 0, .int 1, .int 0, .ref m_tape, .int 12, .ref m_refused, .int 0, .int (-1), .int 0, .int 0, .int 0, .int 0, .int (-1), .ref m_ownLetters, .ref m_flats, .int 0, .ref m_corner, .ref m_wayX, .ref m_wayY, .ref m_normal, .ref m_low, .ref m_high, .ref m_clear, .ref m_ways, .ref m_canBe, .ref m_lain, .int 0, .ref m_fewestBy, .ref m_sortOf, .int 0, .ref m_seenFlange, .ref m_seenLength])), (m_tape, .inl (g.2.1.1, 1200, .inl f4))] H := hP
  have hD : va_D A [(h0, .inr (9, [.ref m_told, .ref m_read, .ref m_now, .ref m_readNow, .ref m_kept, .int 0, .int 1, .int 0, .ref m_tape, .int 12, .ref m_refused, .int 0, .int (-1), .int 0, .int 0, .int 0, .int 0, .int (-1), .ref m_ownLetters, .ref m_flats, .int 0, .ref m_corner, .ref m_wayX, .ref m_wayY, .ref m_normal, .ref m_low, .ref m_high, .ref m_clear, .ref m_ways, .ref m_canBe, .ref m_lain, .int 0, .ref m_fewestBy, .ref m_sortOf, .int 0, .ref m_seenFlange, .ref m_seenLength])), (m_tape, .inl (g.2.1.1, 1200, .inl f4))] := hD
  exact zrv (rm := { frames := 0, cells := 0, slots := 0, locals := 0 }) f4 hx hb hr hlocks (Nat.le_of_ble_eq_true rfl) (Nat.le_of_ble_eq_true rfl) (trivial) hP hD hS dX9_lays_47
set_option maxHeartbeats 4000000 in
set_option maxRecDepth 100000 in
theorem kX9_lays12 (l : Launch) (g : zL) (h0 : Nat) (x : Int32) (m_told : Nat) (m_read : Nat) (m_now : Nat) (m_readNow : Nat) (m_kept : Nat) (m_tape : Nat) (m_refused : Nat) (m_ownLetters : Nat) (m_flats : Nat) (m_corner : Nat) (m_wayX : Nat) (m_wayY : Nat) (m_normal : Nat) (m_low : Nat) (m_high : Nat) (m_clear : Nat) (m_ways : Nat) (m_canBe : Nat) (m_lain : Nat) (m_fewestBy : Nat) (m_sortOf : Nat) (m_seenFlange : Nat) (m_seenLength : Nat) (f : Nat → Int32) : zCv l g yX9_lays cX9_lays 3 none { frames := 0, cells := 0, slots := 0, locals := 0 } [.ref h0, .int x] [(h0, .inr (9, [.ref m_told, .ref m_read, .ref m_now, .ref m_readNow, .ref m_kept, .int 0, .int 1, .int 0, .ref m_tape, .int 12, .ref m_refused, .int 0, .int (-1), .int 0, .int 0, .int 0, .int 0, .int (-1), .ref m_ownLetters, .ref m_flats, .int 0, .ref m_corner, .ref m_wayX, .ref m_wayY, .ref m_normal, .ref m_low, .ref m_high, .ref m_clear, .ref m_ways, .ref m_canBe, .ref m_lain, .int 0, .ref m_fewestBy, .ref m_sortOf, .int 0, .ref m_seenFlange, .ref m_seenLength])), (m_tape, .inl (g.2.1.1, 1200, .inl f))] (fun (u : (Nat → Int32)) => True) (fun (u : (Nat → Int32)) => [(h0, .inr (9, [.ref m_told, .ref m_read, .ref m_now, .ref m_readNow, .ref m_kept, .int 0, .int 1, .int 0, .ref m_tape, .int 16, .ref m_refused, .int 0, .int (-1), .int 0, .int 0, .int 0, .int 0, .int (-1), .ref m_ownLetters, .ref m_flats, .int 0, .ref m_corner, .ref m_wayX, .ref m_wayY, .ref m_normal, .ref m_low, .ref m_high, .ref m_clear, .ref m_ways, .ref m_canBe, .ref m_lain, .int 0, .ref m_fewestBy, .ref m_sortOf, .int 0, .ref m_seenFlange, .ref m_seenLength])), (m_tape, .inl (g.2.1.1, 1200, .inl u))]) := by
  refine zCv.mk (by decide) (Nat.le_of_ble_eq_true rfl) ?_
  intro p e s m below meth c A hE hP hD hS ls hl
  obtain ⟨hx, hb, hr, hml, hown, hG, hlocks, hnm, hX, hA⟩ := hE
  have hown : s.vm.findClass RX9 = some m.cls := hown
  have hl : lv_has ls 3 [(0, .ref h0), (1, .int x)] := hl
  refine lv_iconst (v := 0) hx hb dX9_lays_0 (by decide) ?_
  refine lv_istore_n (lv' := [(2, .int 0), (0, .ref h0), (1, .int x)]) hx hb dX9_lays_1 rfl hl (by decide) rfl (fun ls hl => ?_)
  refine lv_iload_n hx hb dX9_lays_2 rfl (lv_at hl 0 rfl) ?_
  refine lv_iconst (v := 4) hx hb dX9_lays_3 (by decide) ?_
  refine lv_icmp_ge (tgt := 37) hx hb dX9_lays_4 (by decide) (fun c4 => absurd c4 (by decide)) (fun c4 => ?_)
  refine lv_aload_n hx hb dX9_lays_7 rfl (lv_at hl 1 rfl) ?_
  refine va_get (D := g.1) (ci := 9) (v := .ref m_tape) (C := RX9) (T := TX9) (N := 37) hx hb hG iX9 hown hX.1 hP 0 rfl rfl 8 (by decide) (hG _ g1425) (fun _ h9 => h9) rfl dX9_lays_8 ?_
  refine lv_aload_n hx hb dX9_lays_11 rfl (lv_at hl 1 rfl) ?_
  refine va_get (D := g.1) (ci := 9) (v := .int 12) (C := RX9) (T := TX9) (N := 37) hx hb hG iX9 hown hX.1 hP 0 rfl rfl 9 (by decide) (hG _ g1426) (fun _ h9 => h9) rfl dX9_lays_12 ?_
  refine lv_iload_n hx hb dX9_lays_15 rfl (lv_at hl 0 rfl) ?_
  refine lv_iadd hx hb dX9_lays_16 ?_
  refine zt (z := 12) (by decide) ?_
  refine lv_iload_n hx hb dX9_lays_17 rfl (lv_at hl 2 rfl) ?_
  refine lv_bipush (v := 24) hx hb dX9_lays_18 (by decide) ?_
  refine lv_bipush (v := 8) hx hb dX9_lays_20 (by decide) ?_
  refine lv_iload_n hx hb dX9_lays_22 rfl (lv_at hl 0 rfl) ?_
  refine lv_imul hx hb dX9_lays_23 ?_
  refine zt (z := 0) (by decide) ?_
  refine lv_isub hx hb dX9_lays_24 ?_
  refine zt (z := 24) (by decide) ?_
  refine lv_ishr hx hb dX9_lays_25 ?_
  refine lv_sipush (v := 255) hx hb dX9_lays_26 (by decide) ?_
  refine lv_iand hx hb dX9_lays_29 ?_
  refine va_iast hx hb hX.1 hP hD hS 1 0 rfl rfl (vp_in_iff.mpr (by decide)) dX9_lays_30 (fun H locs hP hD hS => ?_)
  obtain ⟨f1, ef1⟩ : ∃ z : Nat → Int32, z = upd f (12 : Int32).toNatClampNeg ((x >>> (24 &&& 31)) &&& 255) := ⟨_, rfl⟩
  rw [← ef1] at hP hD
  have hP : va_P g.1 vwCl [(h0, .inr (9, [.ref m_told, .ref m_read, .ref m_now, .ref m_readNow, .ref m_kept, .int 0, .int 1, .int 0, .ref m_tape, .int 12, .ref m_refused, .int 0, .int (-1), .int 0, .int 0, .int 0, .int 0, .int (-1), .ref m_ownLetters, .ref m_flats, .int 0, .ref m_corner, .ref m_wayX, .ref m_wayY, .ref m_normal, .ref m_low, .ref m_high, .ref m_clear, .ref m_ways, .ref m_canBe, .ref m_lain, .int 0, .ref m_fewestBy, .ref m_sortOf, .int 0, .ref m_seenFlange, .ref m_seenLength])), (m_tape, .inl (g.2.1.1, 1200, .inl f1))] H := hP
  have hD : va_D A [(h0, .inr (9, [.ref m_told, .ref m_read, .ref m_now, .ref m_readNow, .ref m_kept, .int 0, .int 1, .int 0, .ref m_tape, .int 12, .ref m_refused, .int 0, .int (-1), .int 0, .int 0, .int 0, .int 0, .int (-1), .ref m_ownLetters, .ref m_flats, .int 0, .ref m_corner, .ref m_wayX, .ref m_wayY, .ref m_normal, .ref m_low, .ref m_high, .ref m_clear, .ref m_ways, .ref m_canBe, .ref m_lain, .int 0, .ref m_fewestBy, .ref m_sortOf, .int 0, .ref m_seenFlange, .ref m_seenLength])), (m_tape, .inl (g.2.1.1, 1200, .inl f1))] := hD
  refine lv_iinc (v := 1) (lv' := [(2, .int 1), (0, .ref h0), (1, .int x)]) hx hb dX9_lays_31 hl (k := 0) rfl (by decide) (by decide) rfl (fun ls hl => ?_)
  refine lv_goto (tgt := 2) hx hb dX9_lays_34 (by decide) ?_
  refine lv_iload_n hx hb dX9_lays_2 rfl (lv_at hl 0 rfl) ?_
  refine lv_iconst (v := 4) hx hb dX9_lays_3 (by decide) ?_
  refine lv_icmp_ge (tgt := 37) hx hb dX9_lays_4 (by decide) (fun c4 => absurd c4 (by decide)) (fun c4 => ?_)
  refine lv_aload_n hx hb dX9_lays_7 rfl (lv_at hl 1 rfl) ?_
  refine va_get (D := g.1) (ci := 9) (v := .ref m_tape) (C := RX9) (T := TX9) (N := 37) hx hb hG iX9 hown hX.1 hP 0 rfl rfl 8 (by decide) (hG _ g1425) (fun _ h9 => h9) rfl dX9_lays_8 ?_
  refine lv_aload_n hx hb dX9_lays_11 rfl (lv_at hl 1 rfl) ?_
  refine va_get (D := g.1) (ci := 9) (v := .int 12) (C := RX9) (T := TX9) (N := 37) hx hb hG iX9 hown hX.1 hP 0 rfl rfl 9 (by decide) (hG _ g1426) (fun _ h9 => h9) rfl dX9_lays_12 ?_
  refine lv_iload_n hx hb dX9_lays_15 rfl (lv_at hl 0 rfl) ?_
  refine lv_iadd hx hb dX9_lays_16 ?_
  refine zt (z := 13) (by decide) ?_
  refine lv_iload_n hx hb dX9_lays_17 rfl (lv_at hl 2 rfl) ?_
  refine lv_bipush (v := 24) hx hb dX9_lays_18 (by decide) ?_
  refine lv_bipush (v := 8) hx hb dX9_lays_20 (by decide) ?_
  refine lv_iload_n hx hb dX9_lays_22 rfl (lv_at hl 0 rfl) ?_
  refine lv_imul hx hb dX9_lays_23 ?_
  refine zt (z := 8) (by decide) ?_
  refine lv_isub hx hb dX9_lays_24 ?_
  refine zt (z := 16) (by decide) ?_
  refine lv_ishr hx hb dX9_lays_25 ?_
  refine lv_sipush (v := 255) hx hb dX9_lays_26 (by decide) ?_
  refine lv_iand hx hb dX9_lays_29 ?_
  refine va_iast hx hb hX.1 hP hD hS 1 0 rfl rfl (vp_in_iff.mpr (by decide)) dX9_lays_30 (fun H locs hP hD hS => ?_)
  obtain ⟨f2, ef2⟩ : ∃ z : Nat → Int32, z = upd f1 (13 : Int32).toNatClampNeg ((x >>> (16 &&& 31)) &&& 255) := ⟨_, rfl⟩
  rw [← ef2] at hP hD
  have hP : va_P g.1 vwCl [(h0, .inr (9, [.ref m_told, .ref m_read, .ref m_now, .ref m_readNow, .ref m_kept, .int 0, .int 1, .int 0, .ref m_tape, .int 12, .ref m_refused, .int 0, .int (-1), .int 0, .int 0, .int 0, .int 0, .int (-1), .ref m_ownLetters, .ref m_flats, .int 0, .ref m_corner, .ref m_wayX, .ref m_wayY, .ref m_normal, .ref m_low, .ref m_high, .ref m_clear, .ref m_ways, .ref m_canBe, .ref m_lain, .int 0, .ref m_fewestBy, .ref m_sortOf, .int 0, .ref m_seenFlange, .ref m_seenLength])), (m_tape, .inl (g.2.1.1, 1200, .inl f2))] H := hP
  have hD : va_D A [(h0, .inr (9, [.ref m_told, .ref m_read, .ref m_now, .ref m_readNow, .ref m_kept, .int 0, .int 1, .int 0, .ref m_tape, .int 12, .ref m_refused, .int 0, .int (-1), .int 0, .int 0, .int 0, .int 0, .int (-1), .ref m_ownLetters, .ref m_flats, .int 0, .ref m_corner, .ref m_wayX, .ref m_wayY, .ref m_normal, .ref m_low, .ref m_high, .ref m_clear, .ref m_ways, .ref m_canBe, .ref m_lain, .int 0, .ref m_fewestBy, .ref m_sortOf, .int 0, .ref m_seenFlange, .ref m_seenLength])), (m_tape, .inl (g.2.1.1, 1200, .inl f2))] := hD
  refine lv_iinc (v := 2) (lv' := [(2, .int 2), (0, .ref h0), (1, .int x)]) hx hb dX9_lays_31 hl (k := 0) rfl (by decide) (by decide) rfl (fun ls hl => ?_)
  refine lv_goto (tgt := 2) hx hb dX9_lays_34 (by decide) ?_
  refine lv_iload_n hx hb dX9_lays_2 rfl (lv_at hl 0 rfl) ?_
  refine lv_iconst (v := 4) hx hb dX9_lays_3 (by decide) ?_
  refine lv_icmp_ge (tgt := 37) hx hb dX9_lays_4 (by decide) (fun c4 => absurd c4 (by decide)) (fun c4 => ?_)
  refine lv_aload_n hx hb dX9_lays_7 rfl (lv_at hl 1 rfl) ?_
  refine va_get (D := g.1) (ci := 9) (v := .ref m_tape) (C := RX9) (T := TX9) (N := 37) hx hb hG iX9 hown hX.1 hP 0 rfl rfl 8 (by decide) (hG _ g1425) (fun _ h9 => h9) rfl dX9_lays_8 ?_
  refine lv_aload_n hx hb dX9_lays_11 rfl (lv_at hl 1 rfl) ?_
  refine va_get (D := g.1) (ci := 9) (v := .int 12) (C := RX9) (T := TX9) (N := 37) hx hb hG iX9 hown hX.1 hP 0 rfl rfl 9 (by decide) (hG _ g1426) (fun _ h9 => h9) rfl dX9_lays_12 ?_
  refine lv_iload_n hx hb dX9_lays_15 rfl (lv_at hl 0 rfl) ?_
  refine lv_iadd hx hb dX9_lays_16 ?_
  refine zt (z := 14) (by decide) ?_
  refine lv_iload_n hx hb dX9_lays_17 rfl (lv_at hl 2 rfl) ?_
  refine lv_bipush (v := 24) hx hb dX9_lays_18 (by decide) ?_
  refine lv_bipush (v := 8) hx hb dX9_lays_20 (by decide) ?_
  refine lv_iload_n hx hb dX9_lays_22 rfl (lv_at hl 0 rfl) ?_
  refine lv_imul hx hb dX9_lays_23 ?_
  refine zt (z := 16) (by decide) ?_
  refine lv_isub hx hb dX9_lays_24 ?_
  refine zt (z := 8) (by decide) ?_
  refine lv_ishr hx hb dX9_lays_25 ?_
  refine lv_sipush (v := 255) hx hb dX9_lays_26 (by decide) ?_
  refine lv_iand hx hb dX9_lays_29 ?_
  refine va_iast hx hb hX.1 hP hD hS 1 0 rfl rfl (vp_in_iff.mpr (by decide)) dX9_lays_30 (fun H locs hP hD hS => ?_)
  obtain ⟨f3, ef3⟩ : ∃ z : Nat → Int32, z = upd f2 (14 : Int32).toNatClampNeg ((x >>> (8 &&& 31)) &&& 255) := ⟨_, rfl⟩
  rw [← ef3] at hP hD
  have hP : va_P g.1 vwCl [(h0, .inr (9, [.ref m_told, .ref m_read, .ref m_now, .ref m_readNow, .ref m_kept, .int 0, .int 1, .int 0, .ref m_tape, .int 12, .ref m_refused, .int 0, .int (-1), .int 0, .int 0, .int 0, .int 0, .int (-1), .ref m_ownLetters, .ref m_flats, .int 0, .ref m_corner, .ref m_wayX, .ref m_wayY, .ref m_normal, .ref m_low, .ref m_high, .ref m_clear, .ref m_ways, .ref m_canBe, .ref m_lain, .int 0, .ref m_fewestBy, .ref m_sortOf, .int 0, .ref m_seenFlange, .ref m_seenLength])), (m_tape, .inl (g.2.1.1, 1200, .inl f3))] H := hP
  have hD : va_D A [(h0, .inr (9, [.ref m_told, .ref m_read, .ref m_now, .ref m_readNow, .ref m_kept, .int 0, .int 1, .int 0, .ref m_tape, .int 12, .ref m_refused, .int 0, .int (-1), .int 0, .int 0, .int 0, .int 0, .int (-1), .ref m_ownLetters, .ref m_flats, .int 0, .ref m_corner, .ref m_wayX, .ref m_wayY, .ref m_normal, .ref m_low, .ref m_high, .ref m_clear, .ref m_ways, .ref m_canBe, .ref m_lain, .int 0, .ref m_fewestBy, .ref m_sortOf, .int 0, .ref m_seenFlange, .ref m_seenLength])), (m_tape, .inl (g.2.1.1, 1200, .inl f3))] := hD
  refine lv_iinc (v := 3) (lv' := [(2, .int 3), (0, .ref h0), (1, .int x)]) hx hb dX9_lays_31 hl (k := 0) rfl (by decide) (by decide) rfl (fun ls hl => ?_)
  refine lv_goto (tgt := 2) hx hb dX9_lays_34 (by decide) ?_
  refine lv_iload_n hx hb dX9_lays_2 rfl (lv_at hl 0 rfl) ?_
  refine lv_iconst (v := 4) hx hb dX9_lays_3 (by decide) ?_
  refine lv_icmp_ge (tgt := 37) hx hb dX9_lays_4 (by decide) (fun c4 => absurd c4 (by decide)) (fun c4 => ?_)
  refine lv_aload_n hx hb dX9_lays_7 rfl (lv_at hl 1 rfl) ?_
  refine va_get (D := g.1) (ci := 9) (v := .ref m_tape) (C := RX9) (T := TX9) (N := 37) hx hb hG iX9 hown hX.1 hP 0 rfl rfl 8 (by decide) (hG _ g1425) (fun _ h9 => h9) rfl dX9_lays_8 ?_
  refine lv_aload_n hx hb dX9_lays_11 rfl (lv_at hl 1 rfl) ?_
  refine va_get (D := g.1) (ci := 9) (v := .int 12) (C := RX9) (T := TX9) (N := 37) hx hb hG iX9 hown hX.1 hP 0 rfl rfl 9 (by decide) (hG _ g1426) (fun _ h9 => h9) rfl dX9_lays_12 ?_
  refine lv_iload_n hx hb dX9_lays_15 rfl (lv_at hl 0 rfl) ?_
  refine lv_iadd hx hb dX9_lays_16 ?_
  refine zt (z := 15) (by decide) ?_
  refine lv_iload_n hx hb dX9_lays_17 rfl (lv_at hl 2 rfl) ?_
  refine lv_bipush (v := 24) hx hb dX9_lays_18 (by decide) ?_
  refine lv_bipush (v := 8) hx hb dX9_lays_20 (by decide) ?_
  refine lv_iload_n hx hb dX9_lays_22 rfl (lv_at hl 0 rfl) ?_
  refine lv_imul hx hb dX9_lays_23 ?_
  refine zt (z := 24) (by decide) ?_
  refine lv_isub hx hb dX9_lays_24 ?_
  refine zt (z := 0) (by decide) ?_
  refine lv_ishr hx hb dX9_lays_25 ?_
  refine lv_sipush (v := 255) hx hb dX9_lays_26 (by decide) ?_
  refine lv_iand hx hb dX9_lays_29 ?_
  refine va_iast hx hb hX.1 hP hD hS 1 0 rfl rfl (vp_in_iff.mpr (by decide)) dX9_lays_30 (fun H locs hP hD hS => ?_)
  obtain ⟨f4, ef4⟩ : ∃ z : Nat → Int32, z = upd f3 (15 : Int32).toNatClampNeg ((x >>> (0 &&& 31)) &&& 255) := ⟨_, rfl⟩
  rw [← ef4] at hP hD
  have hP : va_P g.1 vwCl [(h0, .inr (9, [.ref m_told, .ref m_read, .ref m_now, .ref m_readNow, .ref m_kept, .int 0, .int 1, .int 0, .ref m_tape, .int 12, .ref m_refused, .int 0, .int (-1), .int 0, .int 0, .int 0, .int 0, .int (-1), .ref m_ownLetters, .ref m_flats, .int 0, .ref m_corner, .ref m_wayX, .ref m_wayY, .ref m_normal, .ref m_low, .ref m_high, .ref m_clear, .ref m_ways, .ref m_canBe, .ref m_lain, .int 0, .ref m_fewestBy, .ref m_sortOf, .int 0, .ref m_seenFlange, .ref m_seenLength])), (m_tape, .inl (g.2.1.1, 1200, .inl f4))] H := hP
  have hD : va_D A [(h0, .inr (9, [.ref m_told, .ref m_read, .ref m_now, .ref m_readNow, .ref m_kept, .int 0, .int 1, .int 0, .ref m_tape, .int 12, .ref m_refused, .int 0, .int (-1), .int 0, .int 0, .int 0, .int 0, .int (-1), .ref m_ownLetters, .ref m_flats, .int 0, .ref m_corner, .ref m_wayX, .ref m_wayY, .ref m_normal, .ref m_low, .ref m_high, .ref m_clear, .ref m_ways, .ref m_canBe, .ref m_lain, .int 0, .ref m_fewestBy, .ref m_sortOf, .int 0, .ref m_seenFlange, .ref m_seenLength])), (m_tape, .inl (g.2.1.1, 1200, .inl f4))] := hD
  refine lv_iinc (v := 4) (lv' := [(2, .int 4), (0, .ref h0), (1, .int x)]) hx hb dX9_lays_31 hl (k := 0) rfl (by decide) (by decide) rfl (fun ls hl => ?_)
  refine lv_goto (tgt := 2) hx hb dX9_lays_34 (by decide) ?_
  refine lv_iload_n hx hb dX9_lays_2 rfl (lv_at hl 0 rfl) ?_
  refine lv_iconst (v := 4) hx hb dX9_lays_3 (by decide) ?_
  refine lv_icmp_ge (tgt := 37) hx hb dX9_lays_4 (by decide) (fun c4 => ?_) (fun c4 => (c4 (by decide)).elim)
  refine lv_aload_n hx hb dX9_lays_37 rfl (lv_at hl 1 rfl) ?_
  refine lv_dup hx hb dX9_lays_38 rfl ?_
  refine va_get (D := g.1) (ci := 9) (v := .int 12) (C := RX9) (T := TX9) (N := 37) hx hb hG iX9 hown hX.1 hP 0 rfl rfl 9 (by decide) (hG _ g1426) (fun _ h9 => h9) rfl dX9_lays_39 ?_
  refine lv_iconst (v := 4) hx hb dX9_lays_42 (by decide) ?_
  refine lv_iadd hx hb dX9_lays_43 ?_
  refine zt (z := 16) (by decide) ?_
  refine va_put (D := g.1) (ci := 9) (v := .int 16) (ty := .int) (C := RX9) (T := TX9) (N := 37) hx hb hG iX9 tyX9 tyX9_ok nmX9 hown hX.1 hP hD hS 0 rfl rfl 9 (by decide) (hG _ g1426) (fun _ h9 => h9) rfl (by decide +kernel) rfl rfl (Nat.le_of_ble_eq_true rfl) dX9_lays_44 (fun H locs hP hD hS => ?_)
  have hP : va_P g.1 vwCl [(h0, .inr (9, [.ref m_told, .ref m_read, .ref m_now, .ref m_readNow, .ref m_kept, .int 0, .int 1, .int 0, .ref m_tape, .int 16, .ref m_refused, .int 0, .int (-1), .int 0, .int 0, .int 0, .int 0, .int (-1), .ref m_ownLetters, .ref m_flats, .int 0, .ref m_corner, .ref m_wayX, .ref m_wayY, .ref m_normal, .ref m_low, .ref m_high, .ref m_clear, .ref m_ways, .ref m_canBe, .ref m_lain, .int 0, .ref m_fewestBy, .ref m_sortOf, .int 0, .ref m_seenFlange, .ref m_seenLength])), (m_tape, .inl (g.2.1.1, 1200, .inl f4))] H := hP
  have hD : va_D A [(h0, .inr (9, [.ref m_told, .ref m_read, .ref m_now, .ref m_readNow, .ref m_kept, .int 0, .int 1, .int 0, .ref m_tape, .int 16, .ref m_refused, .int 0, .int (-1), .int 0, .int 0, .int 0, .int 0, .int (-1), .ref m_ownLetters, .ref m_flats, .int 0, .ref m_corner, .ref m_wayX, .ref m_wayY, .ref m_normal, .ref m_low, .ref m_high, .ref m_clear, .ref m_ways, .ref m_canBe, .ref m_lain, .int 0, .ref m_fewestBy, .ref m_sortOf, .int 0, .ref m_seenFlange, .ref m_seenLength])), (m_tape, .inl (g.2.1.1, 1200, .inl f4))] := hD
  exact zrv (rm := { frames := 0, cells := 0, slots := 0, locals := 0 }) f4 hx hb hr hlocks (Nat.le_of_ble_eq_true rfl) (Nat.le_of_ble_eq_true rfl) (trivial) hP hD hS dX9_lays_47
set_option maxHeartbeats 4000000 in
set_option maxRecDepth 100000 in
theorem kX9_lays16 (l : Launch) (g : zL) (h0 : Nat) (x : Int32) (m_told : Nat) (m_read : Nat) (m_now : Nat) (m_readNow : Nat) (m_kept : Nat) (m_tape : Nat) (m_refused : Nat) (m_ownLetters : Nat) (m_flats : Nat) (m_corner : Nat) (m_wayX : Nat) (m_wayY : Nat) (m_normal : Nat) (m_low : Nat) (m_high : Nat) (m_clear : Nat) (m_ways : Nat) (m_canBe : Nat) (m_lain : Nat) (m_fewestBy : Nat) (m_sortOf : Nat) (m_seenFlange : Nat) (m_seenLength : Nat) (f : Nat → Int32) : zCv l g yX9_lays cX9_lays 3 none { frames := 0, cells := 0, slots := 0, locals := 0 } [.ref h0, .int x] [(h0, .inr (9, [.ref m_told, .ref m_read, .ref m_now, .ref m_readNow, .ref m_kept, .int 0, .int 1, .int 0, .ref m_tape, .int 16, .ref m_refused, .int 0, .int (-1), .int 0, .int 0, .int 0, .int 0, .int (-1), .ref m_ownLetters, .ref m_flats, .int 0, .ref m_corner, .ref m_wayX, .ref m_wayY, .ref m_normal, .ref m_low, .ref m_high, .ref m_clear, .ref m_ways, .ref m_canBe, .ref m_lain, .int 0, .ref m_fewestBy, .ref m_sortOf, .int 0, .ref m_seenFlange, .ref m_seenLength])), (m_tape, .inl (g.2.1.1, 1200, .inl f))] (fun (u : (Nat → Int32)) => True) (fun (u : (Nat → Int32)) => [(h0, .inr (9, [.ref m_told, .ref m_read, .ref m_now, .ref m_readNow, .ref m_kept, .int 0, .int 1, .int 0, .ref m_tape, .int 20, .ref m_refused, .int 0, .int (-1), .int 0, .int 0, .int 0, .int 0, .int (-1), .ref m_ownLetters, .ref m_flats, .int 0, .ref m_corner, .ref m_wayX, .ref m_wayY, .ref m_normal, .ref m_low, .ref m_high, .ref m_clear, .ref m_ways, .ref m_canBe, .ref m_lain, .int 0, .ref m_fewestBy, .ref m_sortOf, .int 0, .ref m_seenFlange, .ref m_seenLength])), (m_tape, .inl (g.2.1.1, 1200, .inl u))]) := by
  refine zCv.mk (by decide) (Nat.le_of_ble_eq_true rfl) ?_
  intro p e s m below meth c A hE hP hD hS ls hl
  obtain ⟨hx, hb, hr, hml, hown, hG, hlocks, hnm, hX, hA⟩ := hE
  have hown : s.vm.findClass RX9 = some m.cls := hown
  have hl : lv_has ls 3 [(0, .ref h0), (1, .int x)] := hl
  refine lv_iconst (v := 0) hx hb dX9_lays_0 (by decide) ?_
  refine lv_istore_n (lv' := [(2, .int 0), (0, .ref h0), (1, .int x)]) hx hb dX9_lays_1 rfl hl (by decide) rfl (fun ls hl => ?_)
  refine lv_iload_n hx hb dX9_lays_2 rfl (lv_at hl 0 rfl) ?_
  refine lv_iconst (v := 4) hx hb dX9_lays_3 (by decide) ?_
  refine lv_icmp_ge (tgt := 37) hx hb dX9_lays_4 (by decide) (fun c4 => absurd c4 (by decide)) (fun c4 => ?_)
  refine lv_aload_n hx hb dX9_lays_7 rfl (lv_at hl 1 rfl) ?_
  refine va_get (D := g.1) (ci := 9) (v := .ref m_tape) (C := RX9) (T := TX9) (N := 37) hx hb hG iX9 hown hX.1 hP 0 rfl rfl 8 (by decide) (hG _ g1425) (fun _ h9 => h9) rfl dX9_lays_8 ?_
  refine lv_aload_n hx hb dX9_lays_11 rfl (lv_at hl 1 rfl) ?_
  refine va_get (D := g.1) (ci := 9) (v := .int 16) (C := RX9) (T := TX9) (N := 37) hx hb hG iX9 hown hX.1 hP 0 rfl rfl 9 (by decide) (hG _ g1426) (fun _ h9 => h9) rfl dX9_lays_12 ?_
  refine lv_iload_n hx hb dX9_lays_15 rfl (lv_at hl 0 rfl) ?_
  refine lv_iadd hx hb dX9_lays_16 ?_
  refine zt (z := 16) (by decide) ?_
  refine lv_iload_n hx hb dX9_lays_17 rfl (lv_at hl 2 rfl) ?_
  refine lv_bipush (v := 24) hx hb dX9_lays_18 (by decide) ?_
  refine lv_bipush (v := 8) hx hb dX9_lays_20 (by decide) ?_
  refine lv_iload_n hx hb dX9_lays_22 rfl (lv_at hl 0 rfl) ?_
  refine lv_imul hx hb dX9_lays_23 ?_
  refine zt (z := 0) (by decide) ?_
  refine lv_isub hx hb dX9_lays_24 ?_
  refine zt (z := 24) (by decide) ?_
  refine lv_ishr hx hb dX9_lays_25 ?_
  refine lv_sipush (v := 255) hx hb dX9_lays_26 (by decide) ?_
  refine lv_iand hx hb dX9_lays_29 ?_
  refine va_iast hx hb hX.1 hP hD hS 1 0 rfl rfl (vp_in_iff.mpr (by decide)) dX9_lays_30 (fun H locs hP hD hS => ?_)
  obtain ⟨f1, ef1⟩ : ∃ z : Nat → Int32, z = upd f (16 : Int32).toNatClampNeg ((x >>> (24 &&& 31)) &&& 255) := ⟨_, rfl⟩
  rw [← ef1] at hP hD
  have hP : va_P g.1 vwCl [(h0, .inr (9, [.ref m_told, .ref m_read, .ref m_now, .ref m_readNow, .ref m_kept, .int 0, .int 1, .int 0, .ref m_tape, .int 16, .ref m_refused, .int 0, .int (-1), .int 0, .int 0, .int 0, .int 0, .int (-1), .ref m_ownLetters, .ref m_flats, .int 0, .ref m_corner, .ref m_wayX, .ref m_wayY, .ref m_normal, .ref m_low, .ref m_high, .ref m_clear, .ref m_ways, .ref m_canBe, .ref m_lain, .int 0, .ref m_fewestBy, .ref m_sortOf, .int 0, .ref m_seenFlange, .ref m_seenLength])), (m_tape, .inl (g.2.1.1, 1200, .inl f1))] H := hP
  have hD : va_D A [(h0, .inr (9, [.ref m_told, .ref m_read, .ref m_now, .ref m_readNow, .ref m_kept, .int 0, .int 1, .int 0, .ref m_tape, .int 16, .ref m_refused, .int 0, .int (-1), .int 0, .int 0, .int 0, .int 0, .int (-1), .ref m_ownLetters, .ref m_flats, .int 0, .ref m_corner, .ref m_wayX, .ref m_wayY, .ref m_normal, .ref m_low, .ref m_high, .ref m_clear, .ref m_ways, .ref m_canBe, .ref m_lain, .int 0, .ref m_fewestBy, .ref m_sortOf, .int 0, .ref m_seenFlange, .ref m_seenLength])), (m_tape, .inl (g.2.1.1, 1200, .inl f1))] := hD
  refine lv_iinc (v := 1) (lv' := [(2, .int 1), (0, .ref h0), (1, .int x)]) hx hb dX9_lays_31 hl (k := 0) rfl (by decide) (by decide) rfl (fun ls hl => ?_)
  refine lv_goto (tgt := 2) hx hb dX9_lays_34 (by decide) ?_
  refine lv_iload_n hx hb dX9_lays_2 rfl (lv_at hl 0 rfl) ?_
  refine lv_iconst (v := 4) hx hb dX9_lays_3 (by decide) ?_
  refine lv_icmp_ge (tgt := 37) hx hb dX9_lays_4 (by decide) (fun c4 => absurd c4 (by decide)) (fun c4 => ?_)
  refine lv_aload_n hx hb dX9_lays_7 rfl (lv_at hl 1 rfl) ?_
  refine va_get (D := g.1) (ci := 9) (v := .ref m_tape) (C := RX9) (T := TX9) (N := 37) hx hb hG iX9 hown hX.1 hP 0 rfl rfl 8 (by decide) (hG _ g1425) (fun _ h9 => h9) rfl dX9_lays_8 ?_
  refine lv_aload_n hx hb dX9_lays_11 rfl (lv_at hl 1 rfl) ?_
  refine va_get (D := g.1) (ci := 9) (v := .int 16) (C := RX9) (T := TX9) (N := 37) hx hb hG iX9 hown hX.1 hP 0 rfl rfl 9 (by decide) (hG _ g1426) (fun _ h9 => h9) rfl dX9_lays_12 ?_
  refine lv_iload_n hx hb dX9_lays_15 rfl (lv_at hl 0 rfl) ?_
  refine lv_iadd hx hb dX9_lays_16 ?_
  refine zt (z := 17) (by decide) ?_
  refine lv_iload_n hx hb dX9_lays_17 rfl (lv_at hl 2 rfl) ?_
  refine lv_bipush (v := 24) hx hb dX9_lays_18 (by decide) ?_
  refine lv_bipush (v := 8) hx hb dX9_lays_20 (by decide) ?_
  refine lv_iload_n hx hb dX9_lays_22 rfl (lv_at hl 0 rfl) ?_
  refine lv_imul hx hb dX9_lays_23 ?_
  refine zt (z := 8) (by decide) ?_
  refine lv_isub hx hb dX9_lays_24 ?_
  refine zt (z := 16) (by decide) ?_
  refine lv_ishr hx hb dX9_lays_25 ?_
  refine lv_sipush (v := 255) hx hb dX9_lays_26 (by decide) ?_
  refine lv_iand hx hb dX9_lays_29 ?_
  refine va_iast hx hb hX.1 hP hD hS 1 0 rfl rfl (vp_in_iff.mpr (by decide)) dX9_lays_30 (fun H locs hP hD hS => ?_)
  obtain ⟨f2, ef2⟩ : ∃ z : Nat → Int32, z = upd f1 (17 : Int32).toNatClampNeg ((x >>> (16 &&& 31)) &&& 255) := ⟨_, rfl⟩
  rw [← ef2] at hP hD
  have hP : va_P g.1 vwCl [(h0, .inr (9, [.ref m_told, .ref m_read, .ref m_now, .ref m_readNow, .ref m_kept, .int 0, .int 1, .int 0, .ref m_tape, .int 16, .ref m_refused, .int 0, .int (-1), .int 0, .int 0, .int 0, .int 0, .int (-1), .ref m_ownLetters, .ref m_flats, .int 0, .ref m_corner, .ref m_wayX, .ref m_wayY, .ref m_normal, .ref m_low, .ref m_high, .ref m_clear, .ref m_ways, .ref m_canBe, .ref m_lain, .int 0, .ref m_fewestBy, .ref m_sortOf, .int 0, .ref m_seenFlange, .ref m_seenLength])), (m_tape, .inl (g.2.1.1, 1200, .inl f2))] H := hP
  have hD : va_D A [(h0, .inr (9, [.ref m_told, .ref m_read, .ref m_now, .ref m_readNow, .ref m_kept, .int 0, .int 1, .int 0, .ref m_tape, .int 16, .ref m_refused, .int 0, .int (-1), .int 0, .int 0, .int 0, .int 0, .int (-1), .ref m_ownLetters, .ref m_flats, .int 0, .ref m_corner, .ref m_wayX, .ref m_wayY, .ref m_normal, .ref m_low, .ref m_high, .ref m_clear, .ref m_ways, .ref m_canBe, .ref m_lain, .int 0, .ref m_fewestBy, .ref m_sortOf, .int 0, .ref m_seenFlange, .ref m_seenLength])), (m_tape, .inl (g.2.1.1, 1200, .inl f2))] := hD
  refine lv_iinc (v := 2) (lv' := [(2, .int 2), (0, .ref h0), (1, .int x)]) hx hb dX9_lays_31 hl (k := 0) rfl (by decide) (by decide) rfl (fun ls hl => ?_)
  refine lv_goto (tgt := 2) hx hb dX9_lays_34 (by decide) ?_
  refine lv_iload_n hx hb dX9_lays_2 rfl (lv_at hl 0 rfl) ?_
  refine lv_iconst (v := 4) hx hb dX9_lays_3 (by decide) ?_
  refine lv_icmp_ge (tgt := 37) hx hb dX9_lays_4 (by decide) (fun c4 => absurd c4 (by decide)) (fun c4 => ?_)
  refine lv_aload_n hx hb dX9_lays_7 rfl (lv_at hl 1 rfl) ?_
  refine va_get (D := g.1) (ci := 9) (v := .ref m_tape) (C := RX9) (T := TX9) (N := 37) hx hb hG iX9 hown hX.1 hP 0 rfl rfl 8 (by decide) (hG _ g1425) (fun _ h9 => h9) rfl dX9_lays_8 ?_
  refine lv_aload_n hx hb dX9_lays_11 rfl (lv_at hl 1 rfl) ?_
  refine va_get (D := g.1) (ci := 9) (v := .int 16) (C := RX9) (T := TX9) (N := 37) hx hb hG iX9 hown hX.1 hP 0 rfl rfl 9 (by decide) (hG _ g1426) (fun _ h9 => h9) rfl dX9_lays_12 ?_
  refine lv_iload_n hx hb dX9_lays_15 rfl (lv_at hl 0 rfl) ?_
  refine lv_iadd hx hb dX9_lays_16 ?_
  refine zt (z := 18) (by decide) ?_
  refine lv_iload_n hx hb dX9_lays_17 rfl (lv_at hl 2 rfl) ?_
  refine lv_bipush (v := 24) hx hb dX9_lays_18 (by decide) ?_
  refine lv_bipush (v := 8) hx hb dX9_lays_20 (by decide) ?_
  refine lv_iload_n hx hb dX9_lays_22 rfl (lv_at hl 0 rfl) ?_
  refine lv_imul hx hb dX9_lays_23 ?_
  refine zt (z := 16) (by decide) ?_
  refine lv_isub hx hb dX9_lays_24 ?_
  refine zt (z := 8) (by decide) ?_
  refine lv_ishr hx hb dX9_lays_25 ?_
  refine lv_sipush (v := 255) hx hb dX9_lays_26 (by decide) ?_
  refine lv_iand hx hb dX9_lays_29 ?_
  refine va_iast hx hb hX.1 hP hD hS 1 0 rfl rfl (vp_in_iff.mpr (by decide)) dX9_lays_30 (fun H locs hP hD hS => ?_)
  obtain ⟨f3, ef3⟩ : ∃ z : Nat → Int32, z = upd f2 (18 : Int32).toNatClampNeg ((x >>> (8 &&& 31)) &&& 255) := ⟨_, rfl⟩
  rw [← ef3] at hP hD
  have hP : va_P g.1 vwCl [(h0, .inr (9, [.ref m_told, .ref m_read, .ref m_now, .ref m_readNow, .ref m_kept, .int 0, .int 1, .int 0, .ref m_tape, .int 16, .ref m_refused, .int 0, .int (-1), .int 0, .int 0, .int 0, .int 0, .int (-1), .ref m_ownLetters, .ref m_flats, .int 0, .ref m_corner, .ref m_wayX, .ref m_wayY, .ref m_normal, .ref m_low, .ref m_high, .ref m_clear, .ref m_ways, .ref m_canBe, .ref m_lain, .int 0, .ref m_fewestBy, .ref m_sortOf, .int 0, .ref m_seenFlange, .ref m_seenLength])), (m_tape, .inl (g.2.1.1, 1200, .inl f3))] H := hP
  have hD : va_D A [(h0, .inr (9, [.ref m_told, .ref m_read, .ref m_now, .ref m_readNow, .ref m_kept, .int 0, .int 1, .int 0, .ref m_tape, .int 16, .ref m_refused, .int 0, .int (-1), .int 0, .int 0, .int 0, .int 0, .int (-1), .ref m_ownLetters, .ref m_flats, .int 0, .ref m_corner, .ref m_wayX, .ref m_wayY, .ref m_normal, .ref m_low, .ref m_high, .ref m_clear, .ref m_ways, .ref m_canBe, .ref m_lain, .int 0, .ref m_fewestBy, .ref m_sortOf, .int 0, .ref m_seenFlange, .ref m_seenLength])), (m_tape, .inl (g.2.1.1, 1200, .inl f3))] := hD
  refine lv_iinc (v := 3) (lv' := [(2, .int 3), (0, .ref h0), (1, .int x)]) hx hb dX9_lays_31 hl (k := 0) rfl (by decide) (by decide) rfl (fun ls hl => ?_)
  refine lv_goto (tgt := 2) hx hb dX9_lays_34 (by decide) ?_
  refine lv_iload_n hx hb dX9_lays_2 rfl (lv_at hl 0 rfl) ?_
  refine lv_iconst (v := 4) hx hb dX9_lays_3 (by decide) ?_
  refine lv_icmp_ge (tgt := 37) hx hb dX9_lays_4 (by decide) (fun c4 => absurd c4 (by decide)) (fun c4 => ?_)
  refine lv_aload_n hx hb dX9_lays_7 rfl (lv_at hl 1 rfl) ?_
  refine va_get (D := g.1) (ci := 9) (v := .ref m_tape) (C := RX9) (T := TX9) (N := 37) hx hb hG iX9 hown hX.1 hP 0 rfl rfl 8 (by decide) (hG _ g1425) (fun _ h9 => h9) rfl dX9_lays_8 ?_
  refine lv_aload_n hx hb dX9_lays_11 rfl (lv_at hl 1 rfl) ?_
  refine va_get (D := g.1) (ci := 9) (v := .int 16) (C := RX9) (T := TX9) (N := 37) hx hb hG iX9 hown hX.1 hP 0 rfl rfl 9 (by decide) (hG _ g1426) (fun _ h9 => h9) rfl dX9_lays_12 ?_
  refine lv_iload_n hx hb dX9_lays_15 rfl (lv_at hl 0 rfl) ?_
  refine lv_iadd hx hb dX9_lays_16 ?_
  refine zt (z := 19) (by decide) ?_
  refine lv_iload_n hx hb dX9_lays_17 rfl (lv_at hl 2 rfl) ?_
  refine lv_bipush (v := 24) hx hb dX9_lays_18 (by decide) ?_
  refine lv_bipush (v := 8) hx hb dX9_lays_20 (by decide) ?_
  refine lv_iload_n hx hb dX9_lays_22 rfl (lv_at hl 0 rfl) ?_
  refine lv_imul hx hb dX9_lays_23 ?_
  refine zt (z := 24) (by decide) ?_
  refine lv_isub hx hb dX9_lays_24 ?_
  refine zt (z := 0) (by decide) ?_
  refine lv_ishr hx hb dX9_lays_25 ?_
  refine lv_sipush (v := 255) hx hb dX9_lays_26 (by decide) ?_
  refine lv_iand hx hb dX9_lays_29 ?_
  refine va_iast hx hb hX.1 hP hD hS 1 0 rfl rfl (vp_in_iff.mpr (by decide)) dX9_lays_30 (fun H locs hP hD hS => ?_)
  obtain ⟨f4, ef4⟩ : ∃ z : Nat → Int32, z = upd f3 (19 : Int32).toNatClampNeg ((x >>> (0 &&& 31)) &&& 255) := ⟨_, rfl⟩
  rw [← ef4] at hP hD
  have hP : va_P g.1 vwCl [(h0, .inr (9, [.ref m_told, .ref m_read, .ref m_now, .ref m_readNow, .ref m_kept, .int 0, .int 1, .int 0, .ref m_tape, .int 16, .ref m_refused, .int 0, .int (-1), .int 0, .int 0, .int 0, .int 0, .int (-1), .ref m_ownLetters, .ref m_flats, .int 0, .ref m_corner, .ref m_wayX, .ref m_wayY, .ref m_normal, .ref m_low, .ref m_high, .ref m_clear, .ref m_ways, .ref m_canBe, .ref m_lain, .int 0, .ref m_fewestBy, .ref m_sortOf, .int 0, .ref m_seenFlange, .ref m_seenLength])), (m_tape, .inl (g.2.1.1, 1200, .inl f4))] H := hP
  have hD : va_D A [(h0, .inr (9, [.ref m_told, .ref m_read, .ref m_now, .ref m_readNow, .ref m_kept, .int 0, .int 1, .int 0, .ref m_tape, .int 16, .ref m_refused, .int 0, .int (-1), .int 0, .int 0, .int 0, .int 0, .int (-1), .ref m_ownLetters, .ref m_flats, .int 0, .ref m_corner, .ref m_wayX, .ref m_wayY, .ref m_normal, .ref m_low, .ref m_high, .ref m_clear, .ref m_ways, .ref m_canBe, .ref m_lain, .int 0, .ref m_fewestBy, .ref m_sortOf, .int 0, .ref m_seenFlange, .ref m_seenLength])), (m_tape, .inl (g.2.1.1, 1200, .inl f4))] := hD
  refine lv_iinc (v := 4) (lv' := [(2, .int 4), (0, .ref h0), (1, .int x)]) hx hb dX9_lays_31 hl (k := 0) rfl (by decide) (by decide) rfl (fun ls hl => ?_)
  refine lv_goto (tgt := 2) hx hb dX9_lays_34 (by decide) ?_
  refine lv_iload_n hx hb dX9_lays_2 rfl (lv_at hl 0 rfl) ?_
  refine lv_iconst (v := 4) hx hb dX9_lays_3 (by decide) ?_
  refine lv_icmp_ge (tgt := 37) hx hb dX9_lays_4 (by decide) (fun c4 => ?_) (fun c4 => (c4 (by decide)).elim)
  refine lv_aload_n hx hb dX9_lays_37 rfl (lv_at hl 1 rfl) ?_
  refine lv_dup hx hb dX9_lays_38 rfl ?_
  refine va_get (D := g.1) (ci := 9) (v := .int 16) (C := RX9) (T := TX9) (N := 37) hx hb hG iX9 hown hX.1 hP 0 rfl rfl 9 (by decide) (hG _ g1426) (fun _ h9 => h9) rfl dX9_lays_39 ?_
  refine lv_iconst (v := 4) hx hb dX9_lays_42 (by decide) ?_
  refine lv_iadd hx hb dX9_lays_43 ?_
  refine zt (z := 20) (by decide) ?_
  refine va_put (D := g.1) (ci := 9) (v := .int 20) (ty := .int) (C := RX9) (T := TX9) (N := 37) hx hb hG iX9 tyX9 tyX9_ok nmX9 hown hX.1 hP hD hS 0 rfl rfl 9 (by decide) (hG _ g1426) (fun _ h9 => h9) rfl (by decide +kernel) rfl rfl (Nat.le_of_ble_eq_true rfl) dX9_lays_44 (fun H locs hP hD hS => ?_)
  have hP : va_P g.1 vwCl [(h0, .inr (9, [.ref m_told, .ref m_read, .ref m_now, .ref m_readNow, .ref m_kept, .int 0, .int 1, .int 0, .ref m_tape, .int 20, .ref m_refused, .int 0, .int (-1), .int 0, .int 0, .int 0, .int 0, .int (-1), .ref m_ownLetters, .ref m_flats, .int 0, .ref m_corner, .ref m_wayX, .ref m_wayY, .ref m_normal, .ref m_low, .ref m_high, .ref m_clear, .ref m_ways, .ref m_canBe, .ref m_lain, .int 0, .ref m_fewestBy, .ref m_sortOf, .int 0, .ref m_seenFlange, .ref m_seenLength])), (m_tape, .inl (g.2.1.1, 1200, .inl f4))] H := hP
  have hD : va_D A [(h0, .inr (9, [.ref m_told, .ref m_read, .ref m_now, .ref m_readNow, .ref m_kept, .int 0, .int 1, .int 0, .ref m_tape, .int 20, .ref m_refused, .int 0, .int (-1), .int 0, .int 0, .int 0, .int 0, .int (-1), .ref m_ownLetters, .ref m_flats, .int 0, .ref m_corner, .ref m_wayX, .ref m_wayY, .ref m_normal, .ref m_low, .ref m_high, .ref m_clear, .ref m_ways, .ref m_canBe, .ref m_lain, .int 0, .ref m_fewestBy, .ref m_sortOf, .int 0, .ref m_seenFlange, .ref m_seenLength])), (m_tape, .inl (g.2.1.1, 1200, .inl f4))] := hD
  exact zrv (rm := { frames := 0, cells := 0, slots := 0, locals := 0 }) f4 hx hb hr hlocks (Nat.le_of_ble_eq_true rfl) (Nat.le_of_ble_eq_true rfl) (trivial) hP hD hS dX9_lays_47
theorem dX9_feed_0 : decode cX9_feed 0 = .ok (.aload_n 0, 1) := by decide +kernel
theorem dX9_feed_1 : decode cX9_feed 1 = .ok (.getfield 39, 3) := by decide +kernel
theorem dX9_feed_4 : decode cX9_feed 4 = .ok (.bipush 20, 2) := by decide +kernel
theorem dX9_feed_6 : decode cX9_feed 6 = .ok (.iadd, 1) := by decide +kernel
theorem dX9_feed_7 : decode cX9_feed 7 = .ok (.sipush 1200, 3) := by decide +kernel
theorem dX9_feed_10 : decode cX9_feed 10 = .ok (.if_icmp .le 9, 3) := by decide +kernel
theorem dX9_feed_19 : decode cX9_feed 19 = .ok (.aload_n 0, 1) := by decide +kernel
theorem dX9_feed_20 : decode cX9_feed 20 = .ok (.iload_n 1, 1) := by decide +kernel
theorem dX9_feed_21 : decode cX9_feed 21 = .ok (.invokevirtual 128, 3) := by decide +kernel
theorem dX9_feed_24 : decode cX9_feed 24 = .ok (.aload_n 0, 1) := by decide +kernel
theorem dX9_feed_25 : decode cX9_feed 25 = .ok (.iload_n 2, 1) := by decide +kernel
theorem dX9_feed_26 : decode cX9_feed 26 = .ok (.invokevirtual 128, 3) := by decide +kernel
theorem dX9_feed_29 : decode cX9_feed 29 = .ok (.aload_n 0, 1) := by decide +kernel
theorem dX9_feed_30 : decode cX9_feed 30 = .ok (.iload_n 3, 1) := by decide +kernel
theorem dX9_feed_31 : decode cX9_feed 31 = .ok (.invokevirtual 128, 3) := by decide +kernel
theorem dX9_feed_34 : decode cX9_feed 34 = .ok (.aload_n 0, 1) := by decide +kernel
theorem dX9_feed_35 : decode cX9_feed 35 = .ok (.iload 4, 2) := by decide +kernel
theorem dX9_feed_37 : decode cX9_feed 37 = .ok (.invokevirtual 128, 3) := by decide +kernel
theorem dX9_feed_40 : decode cX9_feed 40 = .ok (.aload_n 0, 1) := by decide +kernel
theorem dX9_feed_41 : decode cX9_feed 41 = .ok (.iload 5, 2) := by decide +kernel
theorem dX9_feed_43 : decode cX9_feed 43 = .ok (.invokevirtual 128, 3) := by decide +kernel
theorem dX9_feed_46 : decode cX9_feed 46 = .ok (.aload_n 0, 1) := by decide +kernel
theorem dX9_feed_47 : decode cX9_feed 47 = .ok (.getfield 39, 3) := by decide +kernel
theorem dX9_feed_50 : decode cX9_feed 50 = .ok (.ireturn, 1) := by decide +kernel
set_option maxHeartbeats 4000000 in
set_option maxRecDepth 100000 in
theorem kX9_feed (l : Launch) (g : zL) (h0 : Nat) (x0 : Int32) (x1 : Int32) (x2 : Int32) (x3 : Int32) (x4 : Int32) (m_told : Nat) (m_read : Nat) (m_now : Nat) (m_readNow : Nat) (m_kept : Nat) (m_tape : Nat) (m_refused : Nat) (m_ownLetters : Nat) (m_flats : Nat) (m_corner : Nat) (m_wayX : Nat) (m_wayY : Nat) (m_normal : Nat) (m_low : Nat) (m_high : Nat) (m_clear : Nat) (m_ways : Nat) (m_canBe : Nat) (m_lain : Nat) (m_fewestBy : Nat) (m_sortOf : Nat) (m_seenFlange : Nat) (m_seenLength : Nat) (f : Nat → Int32) : zCi l g yX9_feed cX9_feed 6 (some .int) { frames := 1, cells := 0, slots := 0, locals := 22 } [.ref h0, .int x0, .int x1, .int x2, .int x3, .int x4] [(h0, .inr (9, [.ref m_told, .ref m_read, .ref m_now, .ref m_readNow, .ref m_kept, .int 0, .int 1, .int 0, .ref m_tape, .int 0, .ref m_refused, .int 0, .int (-1), .int 0, .int 0, .int 0, .int 0, .int (-1), .ref m_ownLetters, .ref m_flats, .int 0, .ref m_corner, .ref m_wayX, .ref m_wayY, .ref m_normal, .ref m_low, .ref m_high, .ref m_clear, .ref m_ways, .ref m_canBe, .ref m_lain, .int 0, .ref m_fewestBy, .ref m_sortOf, .int 0, .ref m_seenFlange, .ref m_seenLength])), (m_tape, .inl (g.2.1.1, 1200, .inl f))] (fun (r : Int32) (u : Unit) => r = 20) (fun (u : Unit) => []) := by
  refine zCi.mk (by decide) (Nat.le_of_ble_eq_true rfl) ?_
  intro p e s m below meth c A hE hP hD hS ls hl
  obtain ⟨hx, hb, hr, hml, hown, hG, hlocks, hnm, hX, hA⟩ := hE
  have hown : s.vm.findClass RX9 = some m.cls := hown
  have hl : lv_has ls 6 [(0, .ref h0), (1, .int x0), (2, .int x1), (3, .int x2), (4, .int x3), (5, .int x4)] := hl
  refine lv_aload_n hx hb dX9_feed_0 rfl (lv_at hl 0 rfl) ?_
  refine va_get (D := g.1) (ci := 9) (v := .int 0) (C := RX9) (T := TX9) (N := 37) hx hb hG iX9 hown hX.1 hP 0 rfl rfl 9 (by decide) (hG _ g1426) (fun _ h9 => h9) rfl dX9_feed_1 ?_
  refine lv_bipush (v := 20) hx hb dX9_feed_4 (by decide) ?_
  refine lv_iadd hx hb dX9_feed_6 ?_
  refine zt (z := 20) (by decide) ?_
  refine lv_sipush (v := 1200) hx hb dX9_feed_7 (by decide) ?_
  refine lv_icmp_le (tgt := 19) hx hb dX9_feed_10 (by decide) (fun c10 => ?_) (fun c10 => (c10 (by decide)).elim)
  refine lv_aload_n hx hb dX9_feed_19 rfl (lv_at hl 0 rfl) ?_
  refine lv_iload_n hx hb dX9_feed_20 rfl (lv_at hl 1 rfl) ?_
  refine zfv (wr := []) (va_runV (As := [.int x0]) (rest := []) ⟨hx, hb, hml, hown, hG⟩ (kX9_lays0 l g h0 x0 m_told m_read m_now m_readNow m_kept m_tape m_refused m_ownLetters m_flats m_corner m_wayX m_wayY m_normal m_low m_high m_clear m_ways m_canBe m_lain m_fewestBy m_sortOf m_seenFlange m_seenLength f _) ⟨callB_of 1 hG (zGood g1541) rfl rfl rfl (hG _ g211) (hG _ g1538) hX9_lays ⟨Nat.le_of_ble_eq_true rfl, Nat.le_of_ble_eq_true rfl⟩, hG _ g1540, hG _ g125⟩ (zpreV (va_recv hX.1 hP (ci := 9) (q0 := 0) rfl rfl) hX hP hD hS hA [0, 1] rfl (by decide)) rfl rfl hl.1 rfl (lv_room (Nat.le_of_ble_eq_true rfl)) dX9_feed_21 ⟨Nat.le_of_ble_eq_true rfl, Nat.le_of_ble_eq_true rfl⟩) hP hD hS hA [0, 1] [] rfl rfl (by decide) (by decide) (fun u2 H locs hp hP hD hS => ?_)
  refine W.cs (cells' := 0) (slots' := 0) rfl rfl ?_
  have hP : va_P g.1 vwCl [(h0, .inr (9, [.ref m_told, .ref m_read, .ref m_now, .ref m_readNow, .ref m_kept, .int 0, .int 1, .int 0, .ref m_tape, .int 4, .ref m_refused, .int 0, .int (-1), .int 0, .int 0, .int 0, .int 0, .int (-1), .ref m_ownLetters, .ref m_flats, .int 0, .ref m_corner, .ref m_wayX, .ref m_wayY, .ref m_normal, .ref m_low, .ref m_high, .ref m_clear, .ref m_ways, .ref m_canBe, .ref m_lain, .int 0, .ref m_fewestBy, .ref m_sortOf, .int 0, .ref m_seenFlange, .ref m_seenLength])), (m_tape, .inl (g.2.1.1, 1200, .inl u2))] H := hP
  have hD : va_D A [(h0, .inr (9, [.ref m_told, .ref m_read, .ref m_now, .ref m_readNow, .ref m_kept, .int 0, .int 1, .int 0, .ref m_tape, .int 4, .ref m_refused, .int 0, .int (-1), .int 0, .int 0, .int 0, .int 0, .int (-1), .ref m_ownLetters, .ref m_flats, .int 0, .ref m_corner, .ref m_wayX, .ref m_wayY, .ref m_normal, .ref m_low, .ref m_high, .ref m_clear, .ref m_ways, .ref m_canBe, .ref m_lain, .int 0, .ref m_fewestBy, .ref m_sortOf, .int 0, .ref m_seenFlange, .ref m_seenLength])), (m_tape, .inl (g.2.1.1, 1200, .inl u2))] := hD
  refine lv_aload_n hx hb dX9_feed_24 rfl (lv_at hl 0 rfl) ?_
  refine lv_iload_n hx hb dX9_feed_25 rfl (lv_at hl 2 rfl) ?_
  refine zfv (wr := []) (va_runV (As := [.int x1]) (rest := []) ⟨hx, hb, hml, hown, hG⟩ (kX9_lays4 l g h0 x1 m_told m_read m_now m_readNow m_kept m_tape m_refused m_ownLetters m_flats m_corner m_wayX m_wayY m_normal m_low m_high m_clear m_ways m_canBe m_lain m_fewestBy m_sortOf m_seenFlange m_seenLength u2 _) ⟨callB_of 1 hG (zGood g1541) rfl rfl rfl (hG _ g211) (hG _ g1538) hX9_lays ⟨Nat.le_of_ble_eq_true rfl, Nat.le_of_ble_eq_true rfl⟩, hG _ g1540, hG _ g125⟩ (zpreV (va_recv hX.1 hP (ci := 9) (q0 := 0) rfl rfl) hX hP hD hS hA [0, 1] rfl (by decide)) rfl rfl hl.1 rfl (lv_room (Nat.le_of_ble_eq_true rfl)) dX9_feed_26 ⟨Nat.le_of_ble_eq_true rfl, Nat.le_of_ble_eq_true rfl⟩) hP hD hS hA [0, 1] [] rfl rfl (by decide) (by decide) (fun u4 H locs hp hP hD hS => ?_)
  refine W.cs (cells' := 0) (slots' := 0) rfl rfl ?_
  have hP : va_P g.1 vwCl [(h0, .inr (9, [.ref m_told, .ref m_read, .ref m_now, .ref m_readNow, .ref m_kept, .int 0, .int 1, .int 0, .ref m_tape, .int 8, .ref m_refused, .int 0, .int (-1), .int 0, .int 0, .int 0, .int 0, .int (-1), .ref m_ownLetters, .ref m_flats, .int 0, .ref m_corner, .ref m_wayX, .ref m_wayY, .ref m_normal, .ref m_low, .ref m_high, .ref m_clear, .ref m_ways, .ref m_canBe, .ref m_lain, .int 0, .ref m_fewestBy, .ref m_sortOf, .int 0, .ref m_seenFlange, .ref m_seenLength])), (m_tape, .inl (g.2.1.1, 1200, .inl u4))] H := hP
  have hD : va_D A [(h0, .inr (9, [.ref m_told, .ref m_read, .ref m_now, .ref m_readNow, .ref m_kept, .int 0, .int 1, .int 0, .ref m_tape, .int 8, .ref m_refused, .int 0, .int (-1), .int 0, .int 0, .int 0, .int 0, .int (-1), .ref m_ownLetters, .ref m_flats, .int 0, .ref m_corner, .ref m_wayX, .ref m_wayY, .ref m_normal, .ref m_low, .ref m_high, .ref m_clear, .ref m_ways, .ref m_canBe, .ref m_lain, .int 0, .ref m_fewestBy, .ref m_sortOf, .int 0, .ref m_seenFlange, .ref m_seenLength])), (m_tape, .inl (g.2.1.1, 1200, .inl u4))] := hD
  refine lv_aload_n hx hb dX9_feed_29 rfl (lv_at hl 0 rfl) ?_
  refine lv_iload_n hx hb dX9_feed_30 rfl (lv_at hl 3 rfl) ?_
  refine zfv (wr := []) (va_runV (As := [.int x2]) (rest := []) ⟨hx, hb, hml, hown, hG⟩ (kX9_lays8 l g h0 x2 m_told m_read m_now m_readNow m_kept m_tape m_refused m_ownLetters m_flats m_corner m_wayX m_wayY m_normal m_low m_high m_clear m_ways m_canBe m_lain m_fewestBy m_sortOf m_seenFlange m_seenLength u4 _) ⟨callB_of 1 hG (zGood g1541) rfl rfl rfl (hG _ g211) (hG _ g1538) hX9_lays ⟨Nat.le_of_ble_eq_true rfl, Nat.le_of_ble_eq_true rfl⟩, hG _ g1540, hG _ g125⟩ (zpreV (va_recv hX.1 hP (ci := 9) (q0 := 0) rfl rfl) hX hP hD hS hA [0, 1] rfl (by decide)) rfl rfl hl.1 rfl (lv_room (Nat.le_of_ble_eq_true rfl)) dX9_feed_31 ⟨Nat.le_of_ble_eq_true rfl, Nat.le_of_ble_eq_true rfl⟩) hP hD hS hA [0, 1] [] rfl rfl (by decide) (by decide) (fun u6 H locs hp hP hD hS => ?_)
  refine W.cs (cells' := 0) (slots' := 0) rfl rfl ?_
  have hP : va_P g.1 vwCl [(h0, .inr (9, [.ref m_told, .ref m_read, .ref m_now, .ref m_readNow, .ref m_kept, .int 0, .int 1, .int 0, .ref m_tape, .int 12, .ref m_refused, .int 0, .int (-1), .int 0, .int 0, .int 0, .int 0, .int (-1), .ref m_ownLetters, .ref m_flats, .int 0, .ref m_corner, .ref m_wayX, .ref m_wayY, .ref m_normal, .ref m_low, .ref m_high, .ref m_clear, .ref m_ways, .ref m_canBe, .ref m_lain, .int 0, .ref m_fewestBy, .ref m_sortOf, .int 0, .ref m_seenFlange, .ref m_seenLength])), (m_tape, .inl (g.2.1.1, 1200, .inl u6))] H := hP
  have hD : va_D A [(h0, .inr (9, [.ref m_told, .ref m_read, .ref m_now, .ref m_readNow, .ref m_kept, .int 0, .int 1, .int 0, .ref m_tape, .int 12, .ref m_refused, .int 0, .int (-1), .int 0, .int 0, .int 0, .int 0, .int (-1), .ref m_ownLetters, .ref m_flats, .int 0, .ref m_corner, .ref m_wayX, .ref m_wayY, .ref m_normal, .ref m_low, .ref m_high, .ref m_clear, .ref m_ways, .ref m_canBe, .ref m_lain, .int 0, .ref m_fewestBy, .ref m_sortOf, .int 0, .ref m_seenFlange, .ref m_seenLength])), (m_tape, .inl (g.2.1.1, 1200, .inl u6))] := hD
  refine lv_aload_n hx hb dX9_feed_34 rfl (lv_at hl 0 rfl) ?_
  refine lv_iload hx hb dX9_feed_35 (lv_at hl 4 rfl) ?_
  refine zfv (wr := []) (va_runV (As := [.int x3]) (rest := []) ⟨hx, hb, hml, hown, hG⟩ (kX9_lays12 l g h0 x3 m_told m_read m_now m_readNow m_kept m_tape m_refused m_ownLetters m_flats m_corner m_wayX m_wayY m_normal m_low m_high m_clear m_ways m_canBe m_lain m_fewestBy m_sortOf m_seenFlange m_seenLength u6 _) ⟨callB_of 1 hG (zGood g1541) rfl rfl rfl (hG _ g211) (hG _ g1538) hX9_lays ⟨Nat.le_of_ble_eq_true rfl, Nat.le_of_ble_eq_true rfl⟩, hG _ g1540, hG _ g125⟩ (zpreV (va_recv hX.1 hP (ci := 9) (q0 := 0) rfl rfl) hX hP hD hS hA [0, 1] rfl (by decide)) rfl rfl hl.1 rfl (lv_room (Nat.le_of_ble_eq_true rfl)) dX9_feed_37 ⟨Nat.le_of_ble_eq_true rfl, Nat.le_of_ble_eq_true rfl⟩) hP hD hS hA [0, 1] [] rfl rfl (by decide) (by decide) (fun u8 H locs hp hP hD hS => ?_)
  refine W.cs (cells' := 0) (slots' := 0) rfl rfl ?_
  have hP : va_P g.1 vwCl [(h0, .inr (9, [.ref m_told, .ref m_read, .ref m_now, .ref m_readNow, .ref m_kept, .int 0, .int 1, .int 0, .ref m_tape, .int 16, .ref m_refused, .int 0, .int (-1), .int 0, .int 0, .int 0, .int 0, .int (-1), .ref m_ownLetters, .ref m_flats, .int 0, .ref m_corner, .ref m_wayX, .ref m_wayY, .ref m_normal, .ref m_low, .ref m_high, .ref m_clear, .ref m_ways, .ref m_canBe, .ref m_lain, .int 0, .ref m_fewestBy, .ref m_sortOf, .int 0, .ref m_seenFlange, .ref m_seenLength])), (m_tape, .inl (g.2.1.1, 1200, .inl u8))] H := hP
  have hD : va_D A [(h0, .inr (9, [.ref m_told, .ref m_read, .ref m_now, .ref m_readNow, .ref m_kept, .int 0, .int 1, .int 0, .ref m_tape, .int 16, .ref m_refused, .int 0, .int (-1), .int 0, .int 0, .int 0, .int 0, .int (-1), .ref m_ownLetters, .ref m_flats, .int 0, .ref m_corner, .ref m_wayX, .ref m_wayY, .ref m_normal, .ref m_low, .ref m_high, .ref m_clear, .ref m_ways, .ref m_canBe, .ref m_lain, .int 0, .ref m_fewestBy, .ref m_sortOf, .int 0, .ref m_seenFlange, .ref m_seenLength])), (m_tape, .inl (g.2.1.1, 1200, .inl u8))] := hD
  refine lv_aload_n hx hb dX9_feed_40 rfl (lv_at hl 0 rfl) ?_
  refine lv_iload hx hb dX9_feed_41 (lv_at hl 5 rfl) ?_
  refine zfv (wr := []) (va_runV (As := [.int x4]) (rest := []) ⟨hx, hb, hml, hown, hG⟩ (kX9_lays16 l g h0 x4 m_told m_read m_now m_readNow m_kept m_tape m_refused m_ownLetters m_flats m_corner m_wayX m_wayY m_normal m_low m_high m_clear m_ways m_canBe m_lain m_fewestBy m_sortOf m_seenFlange m_seenLength u8 _) ⟨callB_of 1 hG (zGood g1541) rfl rfl rfl (hG _ g211) (hG _ g1538) hX9_lays ⟨Nat.le_of_ble_eq_true rfl, Nat.le_of_ble_eq_true rfl⟩, hG _ g1540, hG _ g125⟩ (zpreV (va_recv hX.1 hP (ci := 9) (q0 := 0) rfl rfl) hX hP hD hS hA [0, 1] rfl (by decide)) rfl rfl hl.1 rfl (lv_room (Nat.le_of_ble_eq_true rfl)) dX9_feed_43 ⟨Nat.le_of_ble_eq_true rfl, Nat.le_of_ble_eq_true rfl⟩) hP hD hS hA [0, 1] [] rfl rfl (by decide) (by decide) (fun u10 H locs hp hP hD hS => ?_)
  refine W.cs (cells' := 0) (slots' := 0) rfl rfl ?_
  have hP : va_P g.1 vwCl [(h0, .inr (9, [.ref m_told, .ref m_read, .ref m_now, .ref m_readNow, .ref m_kept, .int 0, .int 1, .int 0, .ref m_tape, .int 20, .ref m_refused, .int 0, .int (-1), .int 0, .int 0, .int 0, .int 0, .int (-1), .ref m_ownLetters, .ref m_flats, .int 0, .ref m_corner, .ref m_wayX, .ref m_wayY, .ref m_normal, .ref m_low, .ref m_high, .ref m_clear, .ref m_ways, .ref m_canBe, .ref m_lain, .int 0, .ref m_fewestBy, .ref m_sortOf, .int 0, .ref m_seenFlange, .ref m_seenLength])), (m_tape, .inl (g.2.1.1, 1200, .inl u10))] H := hP
  have hD : va_D A [(h0, .inr (9, [.ref m_told, .ref m_read, .ref m_now, .ref m_readNow, .ref m_kept, .int 0, .int 1, .int 0, .ref m_tape, .int 20, .ref m_refused, .int 0, .int (-1), .int 0, .int 0, .int 0, .int 0, .int (-1), .ref m_ownLetters, .ref m_flats, .int 0, .ref m_corner, .ref m_wayX, .ref m_wayY, .ref m_normal, .ref m_low, .ref m_high, .ref m_clear, .ref m_ways, .ref m_canBe, .ref m_lain, .int 0, .ref m_fewestBy, .ref m_sortOf, .int 0, .ref m_seenFlange, .ref m_seenLength])), (m_tape, .inl (g.2.1.1, 1200, .inl u10))] := hD
  refine lv_aload_n hx hb dX9_feed_46 rfl (lv_at hl 0 rfl) ?_
  refine va_get (D := g.1) (ci := 9) (v := .int 20) (C := RX9) (T := TX9) (N := 37) hx hb hG iX9 hown hX.1 hP 0 rfl rfl 9 (by decide) (hG _ g1426) (fun _ h9 => h9) rfl dX9_feed_47 ?_
  exact zri (rm := { frames := 1, cells := 0, slots := 0, locals := 22 }) (v := 20) () hx hb hr hlocks (Nat.le_of_ble_eq_true rfl) (Nat.le_of_ble_eq_true rfl) (rfl) (hP.sub [] rfl) (hD.sub [] (by decide) rfl) hS dX9_feed_50
theorem dX9_end_0 : decode cX9_end 0 = .ok (.iload_n 1, 1) := by decide +kernel
theorem dX9_end_1 : decode cX9_end 1 = .ok (.ifCond .lt 11, 3) := by decide +kernel
theorem dX9_end_12 : decode cX9_end 12 = .ok (.aload_n 0, 1) := by decide +kernel
theorem dX9_end_13 : decode cX9_end 13 = .ok (.iconst 0, 1) := by decide +kernel
theorem dX9_end_14 : decode cX9_end 14 = .ok (.invokevirtual 132, 3) := by decide +kernel
theorem dX9_end_17 : decode cX9_end 17 = .ok (.ireturn, 1) := by decide +kernel
theorem dX9_end_4 : decode cX9_end 4 = .ok (.iload_n 1, 1) := by decide +kernel
theorem dX9_end_5 : decode cX9_end 5 = .ok (.aload_n 0, 1) := by decide +kernel
theorem dX9_end_6 : decode cX9_end 6 = .ok (.getfield 39, 3) := by decide +kernel
theorem dX9_end_9 : decode cX9_end 9 = .ok (.if_icmp .le 9, 3) := by decide +kernel
theorem dX9_end_18 : decode cX9_end 18 = .ok (.aload_n 0, 1) := by decide +kernel
theorem dX9_end_19 : decode cX9_end 19 = .ok (.iload_n 1, 1) := by decide +kernel
theorem dX9_end_20 : decode cX9_end 20 = .ok (.putfield 39, 3) := by decide +kernel
theorem dX9_end_23 : decode cX9_end 23 = .ok (.iconst 1, 1) := by decide +kernel
theorem dX9_end_24 : decode cX9_end 24 = .ok (.ireturn, 1) := by decide +kernel
set_option maxHeartbeats 4000000 in
set_option maxRecDepth 100000 in
theorem kX9_end (l : Launch) (g : zL) (h0 : Nat) (x : Int32) (m_told : Nat) (m_read : Nat) (m_now : Nat) (m_readNow : Nat) (m_kept : Nat) (m_tape : Nat) (m_refused : Nat) (m_ownLetters : Nat) (m_flats : Nat) (m_corner : Nat) (m_wayX : Nat) (m_wayY : Nat) (m_normal : Nat) (m_low : Nat) (m_high : Nat) (m_clear : Nat) (m_ways : Nat) (m_canBe : Nat) (m_lain : Nat) (m_fewestBy : Nat) (m_sortOf : Nat) (m_seenFlange : Nat) (m_seenLength : Nat) (f : Nat → Int32) : zCi l g yX9_end cX9_end 2 (some .boolean) { frames := 1, cells := 0, slots := 0, locals := 21 } [.ref h0, .int x] [(h0, .inr (9, [.ref m_told, .ref m_read, .ref m_now, .ref m_readNow, .ref m_kept, .int 0, .int 1, .int 0, .ref m_tape, .int 0, .ref m_refused, .int 0, .int (-1), .int 0, .int 0, .int 0, .int 0, .int (-1), .ref m_ownLetters, .ref m_flats, .int 0, .ref m_corner, .ref m_wayX, .ref m_wayY, .ref m_normal, .ref m_low, .ref m_high, .ref m_clear, .ref m_ways, .ref m_canBe, .ref m_lain, .int 0, .ref m_fewestBy, .ref m_sortOf, .int 0, .ref m_seenFlange, .ref m_seenLength])), (m_refused, .inl (g.2.1.1, 6, .inl f))] (fun (r : Int32) (u : Unit) => r = sp_end x) (fun (u : Unit) => []) := by
  refine zCi.mk (by decide) (Nat.le_of_ble_eq_true rfl) ?_
  intro p e s m below meth c A hE hP hD hS ls hl
  obtain ⟨hx, hb, hr, hml, hown, hG, hlocks, hnm, hX, hA⟩ := hE
  have hown : s.vm.findClass RX9 = some m.cls := hown
  have hl : lv_has ls 2 [(0, .ref h0), (1, .int x)] := hl
  refine lv_iload_n hx hb dX9_end_0 rfl (lv_at hl 1 rfl) ?_
  refine lv_if_lt (tgt := 12) hx hb dX9_end_1 (by decide) (fun c1 => ?_) (fun c1 => ?_)
  · skip
    have c1i : x.toInt < 0 := (zc_lt (rfl : x.toInt = _) (show (0 : Int32).toInt = 0 from by decide)).mp c1
    refine lv_aload_n hx hb dX9_end_12 rfl (lv_at hl 0 rfl) ?_
    refine lv_iconst (v := 0) hx hb dX9_end_13 (by decide) ?_
    refine zfi (wr := []) (va_runV (As := [.int 0]) (rest := []) ⟨hx, hb, hml, hown, hG⟩ (kX9_isRefused0 l g h0 m_told m_read m_now m_readNow m_kept m_tape m_refused m_ownLetters m_flats m_corner m_wayX m_wayY m_normal m_low m_high m_clear m_ways m_canBe m_lain m_fewestBy m_sortOf m_seenFlange m_seenLength f _) ⟨callB_of 1 hG (zGood g1549) rfl rfl rfl (hG _ g211) (hG _ g1546) hX9_isRefused ⟨Nat.le_of_ble_eq_true rfl, Nat.le_of_ble_eq_true rfl⟩, hG _ g1548, hG _ g126⟩ (zpreV (va_recv hX.1 hP (ci := 9) (q0 := 0) rfl rfl) hX hP hD hS hA [0, 1] rfl (by decide)) rfl rfl hl.1 rfl (lv_room (Nat.le_of_ble_eq_true rfl)) dX9_end_14 ⟨Nat.le_of_ble_eq_true rfl, Nat.le_of_ble_eq_true rfl⟩) hP hD hS hA [0, 1] [] rfl rfl (by decide) (by decide) (fun r1 u2 H locs hp hP hD hS => ?_)
    refine W.cs (cells' := 0) (slots' := 0) rfl rfl ?_
    have hq3 : r1 = 0 := hp
    subst hq3
    have hP : va_P g.1 vwCl [(h0, .inr (9, [.ref m_told, .ref m_read, .ref m_now, .ref m_readNow, .ref m_kept, .int 0, .int 1, .int 0, .ref m_tape, .int 0, .ref m_refused, .int 0, .int (-1), .int 0, .int 0, .int 0, .int 0, .int (-1), .ref m_ownLetters, .ref m_flats, .int 0, .ref m_corner, .ref m_wayX, .ref m_wayY, .ref m_normal, .ref m_low, .ref m_high, .ref m_clear, .ref m_ways, .ref m_canBe, .ref m_lain, .int 0, .ref m_fewestBy, .ref m_sortOf, .int 0, .ref m_seenFlange, .ref m_seenLength])), (m_refused, .inl (g.2.1.1, 6, .inl u2))] H := hP
    have hD : va_D A [(h0, .inr (9, [.ref m_told, .ref m_read, .ref m_now, .ref m_readNow, .ref m_kept, .int 0, .int 1, .int 0, .ref m_tape, .int 0, .ref m_refused, .int 0, .int (-1), .int 0, .int 0, .int 0, .int 0, .int (-1), .ref m_ownLetters, .ref m_flats, .int 0, .ref m_corner, .ref m_wayX, .ref m_wayY, .ref m_normal, .ref m_low, .ref m_high, .ref m_clear, .ref m_ways, .ref m_canBe, .ref m_lain, .int 0, .ref m_fewestBy, .ref m_sortOf, .int 0, .ref m_seenFlange, .ref m_seenLength])), (m_refused, .inl (g.2.1.1, 6, .inl u2))] := hD
    exact zrz (rm := { frames := 1, cells := 0, slots := 0, locals := 21 }) (v := 0) () hx hb hr hlocks (rfl) (Nat.le_of_ble_eq_true rfl) (Nat.le_of_ble_eq_true rfl) (by first | exact (sp_end_t (by omega)).symm | exact (sp_end_f (by omega)).symm) (hP.sub [] rfl) (hD.sub [] (by decide) rfl) hS dX9_end_17
  · skip
    have c1i : ¬ x.toInt < 0 := fun q => c1 ((zc_lt (rfl : x.toInt = _) (show (0 : Int32).toInt = 0 from by decide)).mpr q)
    refine lv_iload_n hx hb dX9_end_4 rfl (lv_at hl 1 rfl) ?_
    refine lv_aload_n hx hb dX9_end_5 rfl (lv_at hl 0 rfl) ?_
    refine va_get (D := g.1) (ci := 9) (v := .int 0) (C := RX9) (T := TX9) (N := 37) hx hb hG iX9 hown hX.1 hP 0 rfl rfl 9 (by decide) (hG _ g1426) (fun _ h9 => h9) rfl dX9_end_6 ?_
    refine lv_icmp_le (tgt := 18) hx hb dX9_end_9 (by decide) (fun c9 => ?_) (fun c9 => ?_)
    · skip
      have c9i : x.toInt ≤ 0 := (zc_le (rfl : x.toInt = _) (show (0 : Int32).toInt = 0 from by decide)).mp c9
      refine lv_aload_n hx hb dX9_end_18 rfl (lv_at hl 0 rfl) ?_
      refine lv_iload_n hx hb dX9_end_19 rfl (lv_at hl 1 rfl) ?_
      refine va_put (D := g.1) (ci := 9) (v := .int x) (ty := .int) (C := RX9) (T := TX9) (N := 37) hx hb hG iX9 tyX9 tyX9_ok nmX9 hown hX.1 hP hD hS 0 rfl rfl 9 (by decide) (hG _ g1426) (fun _ h9 => h9) rfl (by decide +kernel) rfl rfl (Nat.le_of_ble_eq_true rfl) dX9_end_20 (fun H locs hP hD hS => ?_)
      have hP : va_P g.1 vwCl [(h0, .inr (9, [.ref m_told, .ref m_read, .ref m_now, .ref m_readNow, .ref m_kept, .int 0, .int 1, .int 0, .ref m_tape, .int x, .ref m_refused, .int 0, .int (-1), .int 0, .int 0, .int 0, .int 0, .int (-1), .ref m_ownLetters, .ref m_flats, .int 0, .ref m_corner, .ref m_wayX, .ref m_wayY, .ref m_normal, .ref m_low, .ref m_high, .ref m_clear, .ref m_ways, .ref m_canBe, .ref m_lain, .int 0, .ref m_fewestBy, .ref m_sortOf, .int 0, .ref m_seenFlange, .ref m_seenLength])), (m_refused, .inl (g.2.1.1, 6, .inl f))] H := hP
      have hD : va_D A [(h0, .inr (9, [.ref m_told, .ref m_read, .ref m_now, .ref m_readNow, .ref m_kept, .int 0, .int 1, .int 0, .ref m_tape, .int x, .ref m_refused, .int 0, .int (-1), .int 0, .int 0, .int 0, .int 0, .int (-1), .ref m_ownLetters, .ref m_flats, .int 0, .ref m_corner, .ref m_wayX, .ref m_wayY, .ref m_normal, .ref m_low, .ref m_high, .ref m_clear, .ref m_ways, .ref m_canBe, .ref m_lain, .int 0, .ref m_fewestBy, .ref m_sortOf, .int 0, .ref m_seenFlange, .ref m_seenLength])), (m_refused, .inl (g.2.1.1, 6, .inl f))] := hD
      refine lv_iconst (v := 1) hx hb dX9_end_23 (by decide) ?_
      exact zrz (rm := { frames := 1, cells := 0, slots := 0, locals := 21 }) (v := 1) () hx hb hr hlocks (rfl) (Nat.le_of_ble_eq_true rfl) (Nat.le_of_ble_eq_true rfl) (by first | exact (sp_end_t (by omega)).symm | exact (sp_end_f (by omega)).symm) (hP.sub [] rfl) (hD.sub [] (by decide) rfl) hS dX9_end_24
    · skip
      have c9i : ¬ x.toInt ≤ 0 := fun q => c9 ((zc_le (rfl : x.toInt = _) (show (0 : Int32).toInt = 0 from by decide)).mpr q)
      refine lv_aload_n hx hb dX9_end_12 rfl (lv_at hl 0 rfl) ?_
      refine lv_iconst (v := 0) hx hb dX9_end_13 (by decide) ?_
      refine zfi (wr := []) (va_runV (As := [.int 0]) (rest := []) ⟨hx, hb, hml, hown, hG⟩ (kX9_isRefused0 l g h0 m_told m_read m_now m_readNow m_kept m_tape m_refused m_ownLetters m_flats m_corner m_wayX m_wayY m_normal m_low m_high m_clear m_ways m_canBe m_lain m_fewestBy m_sortOf m_seenFlange m_seenLength f _) ⟨callB_of 1 hG (zGood g1549) rfl rfl rfl (hG _ g211) (hG _ g1546) hX9_isRefused ⟨Nat.le_of_ble_eq_true rfl, Nat.le_of_ble_eq_true rfl⟩, hG _ g1548, hG _ g126⟩ (zpreV (va_recv hX.1 hP (ci := 9) (q0 := 0) rfl rfl) hX hP hD hS hA [0, 1] rfl (by decide)) rfl rfl hl.1 rfl (lv_room (Nat.le_of_ble_eq_true rfl)) dX9_end_14 ⟨Nat.le_of_ble_eq_true rfl, Nat.le_of_ble_eq_true rfl⟩) hP hD hS hA [0, 1] [] rfl rfl (by decide) (by decide) (fun r4 u5 H locs hp hP hD hS => ?_)
      refine W.cs (cells' := 0) (slots' := 0) rfl rfl ?_
      have hq6 : r4 = 0 := hp
      subst hq6
      have hP : va_P g.1 vwCl [(h0, .inr (9, [.ref m_told, .ref m_read, .ref m_now, .ref m_readNow, .ref m_kept, .int 0, .int 1, .int 0, .ref m_tape, .int 0, .ref m_refused, .int 0, .int (-1), .int 0, .int 0, .int 0, .int 0, .int (-1), .ref m_ownLetters, .ref m_flats, .int 0, .ref m_corner, .ref m_wayX, .ref m_wayY, .ref m_normal, .ref m_low, .ref m_high, .ref m_clear, .ref m_ways, .ref m_canBe, .ref m_lain, .int 0, .ref m_fewestBy, .ref m_sortOf, .int 0, .ref m_seenFlange, .ref m_seenLength])), (m_refused, .inl (g.2.1.1, 6, .inl u5))] H := hP
      have hD : va_D A [(h0, .inr (9, [.ref m_told, .ref m_read, .ref m_now, .ref m_readNow, .ref m_kept, .int 0, .int 1, .int 0, .ref m_tape, .int 0, .ref m_refused, .int 0, .int (-1), .int 0, .int 0, .int 0, .int 0, .int (-1), .ref m_ownLetters, .ref m_flats, .int 0, .ref m_corner, .ref m_wayX, .ref m_wayY, .ref m_normal, .ref m_low, .ref m_high, .ref m_clear, .ref m_ways, .ref m_canBe, .ref m_lain, .int 0, .ref m_fewestBy, .ref m_sortOf, .int 0, .ref m_seenFlange, .ref m_seenLength])), (m_refused, .inl (g.2.1.1, 6, .inl u5))] := hD
      exact zrz (rm := { frames := 1, cells := 0, slots := 0, locals := 21 }) (v := 0) () hx hb hr hlocks (rfl) (Nat.le_of_ble_eq_true rfl) (Nat.le_of_ble_eq_true rfl) (by first | exact (sp_end_t (by omega)).symm | exact (sp_end_f (by omega)).symm) (hP.sub [] rfl) (hD.sub [] (by decide) rfl) hS dX9_end_17
theorem dX9_fault_0 : decode cX9_fault 0 = .ok (.iload_n 1, 1) := by decide +kernel
theorem dX9_fault_1 : decode cX9_fault 1 = .ok (.ifCond .ne 10, 3) := by decide +kernel
theorem dX9_fault_11 : decode cX9_fault 11 = .ok (.iload_n 1, 1) := by decide +kernel
theorem dX9_fault_12 : decode cX9_fault 12 = .ok (.iconst 1, 1) := by decide +kernel
theorem dX9_fault_13 : decode cX9_fault 13 = .ok (.if_icmp .ne 10, 3) := by decide +kernel
theorem dX9_fault_23 : decode cX9_fault 23 = .ok (.iconst (-1), 1) := by decide +kernel
theorem dX9_fault_24 : decode cX9_fault 24 = .ok (.ireturn, 1) := by decide +kernel
theorem dX9_fault_16 : decode cX9_fault 16 = .ok (.aload_n 0, 1) := by decide +kernel
theorem dX9_fault_17 : decode cX9_fault 17 = .ok (.getfield 48, 3) := by decide +kernel
theorem dX9_fault_20 : decode cX9_fault 20 = .ok (.goto 4, 3) := by decide +kernel
theorem dX9_fault_4 : decode cX9_fault 4 = .ok (.aload_n 0, 1) := by decide +kernel
theorem dX9_fault_5 : decode cX9_fault 5 = .ok (.getfield 45, 3) := by decide +kernel
theorem dX9_fault_8 : decode cX9_fault 8 = .ok (.goto 16, 3) := by decide +kernel
set_option maxHeartbeats 4000000 in
set_option maxRecDepth 100000 in
theorem kX9_fault (l : Launch) (g : zL) (h0 : Nat) (x : Int32) (m_told : Nat) (m_read : Nat) (m_now : Nat) (m_readNow : Nat) (m_kept : Nat) (m_tape : Nat) (m_refused : Nat) (m_ownLetters : Nat) (m_flats : Nat) (m_corner : Nat) (m_wayX : Nat) (m_wayY : Nat) (m_normal : Nat) (m_low : Nat) (m_high : Nat) (m_clear : Nat) (m_ways : Nat) (m_canBe : Nat) (m_lain : Nat) (m_fewestBy : Nat) (m_sortOf : Nat) (m_seenFlange : Nat) (m_seenLength : Nat) : zCi l g yX9_fault cX9_fault 2 (some .int) { frames := 0, cells := 0, slots := 0, locals := 0 } [.ref h0, .int x] [(h0, .inr (9, [.ref m_told, .ref m_read, .ref m_now, .ref m_readNow, .ref m_kept, .int 0, .int 1, .int 0, .ref m_tape, .int 0, .ref m_refused, .int 0, .int (-1), .int 0, .int 0, .int 0, .int 0, .int (-1), .ref m_ownLetters, .ref m_flats, .int 0, .ref m_corner, .ref m_wayX, .ref m_wayY, .ref m_normal, .ref m_low, .ref m_high, .ref m_clear, .ref m_ways, .ref m_canBe, .ref m_lain, .int 0, .ref m_fewestBy, .ref m_sortOf, .int 0, .ref m_seenFlange, .ref m_seenLength]))] (fun (r : Int32) (u : Unit) => r = sp_fault x) (fun (u : Unit) => []) := by
  refine zCi.mk (by decide) (Nat.le_of_ble_eq_true rfl) ?_
  intro p e s m below meth c A hE hP hD hS ls hl
  obtain ⟨hx, hb, hr, hml, hown, hG, hlocks, hnm, hX, hA⟩ := hE
  have hown : s.vm.findClass RX9 = some m.cls := hown
  have hl : lv_has ls 2 [(0, .ref h0), (1, .int x)] := hl
  refine lv_iload_n hx hb dX9_fault_0 rfl (lv_at hl 1 rfl) ?_
  refine lv_if_ne (tgt := 11) hx hb dX9_fault_1 (by decide) (fun c1 => ?_) (fun c1 => ?_)
  · skip
    have c1i : ¬ x.toInt = 0 := fun q => c1 ((zc_eq (rfl : x.toInt = _) (show (0 : Int32).toInt = 0 from by decide)).mpr q)
    refine lv_iload_n hx hb dX9_fault_11 rfl (lv_at hl 1 rfl) ?_
    refine lv_iconst (v := 1) hx hb dX9_fault_12 (by decide) ?_
    refine lv_icmp_ne (tgt := 23) hx hb dX9_fault_13 (by decide) (fun c13 => ?_) (fun c13 => ?_)
    · skip
      have c13i : ¬ x.toInt = 1 := fun q => c13 ((zc_eq (rfl : x.toInt = _) (show (1 : Int32).toInt = 1 from by decide)).mpr q)
      refine lv_iconst (v := (-1)) hx hb dX9_fault_23 (by decide) ?_
      exact zri (rm := { frames := 0, cells := 0, slots := 0, locals := 0 }) (v := (-1)) () hx hb hr hlocks (Nat.le_of_ble_eq_true rfl) (Nat.le_of_ble_eq_true rfl) (by first | exact (sp_fault_t (by omega)).symm | exact (sp_fault_f (by omega)).symm) (hP.sub [] rfl) (hD.sub [] (by decide) rfl) hS dX9_fault_24
    · skip
      have c13i : x.toInt = 1 := (zc_eq (rfl : x.toInt = _) (show (1 : Int32).toInt = 1 from by decide)).mp c13
      refine lv_aload_n hx hb dX9_fault_16 rfl (lv_at hl 0 rfl) ?_
      refine va_get (D := g.1) (ci := 9) (v := .int (-1)) (C := RX9) (T := TX9) (N := 37) hx hb hG iX9 hown hX.1 hP 0 rfl rfl 12 (by decide) (hG _ g1429) (fun _ h9 => h9) rfl dX9_fault_17 ?_
      refine lv_goto (tgt := 24) hx hb dX9_fault_20 (by decide) ?_
      exact zri (rm := { frames := 0, cells := 0, slots := 0, locals := 0 }) (v := (-1)) () hx hb hr hlocks (Nat.le_of_ble_eq_true rfl) (Nat.le_of_ble_eq_true rfl) (by first | exact (sp_fault_t (by omega)).symm | exact (sp_fault_f (by omega)).symm) (hP.sub [] rfl) (hD.sub [] (by decide) rfl) hS dX9_fault_24
  · skip
    have c1i : x.toInt = 0 := (zc_eq (rfl : x.toInt = _) (show (0 : Int32).toInt = 0 from by decide)).mp c1
    refine lv_aload_n hx hb dX9_fault_4 rfl (lv_at hl 0 rfl) ?_
    refine va_get (D := g.1) (ci := 9) (v := .int 0) (C := RX9) (T := TX9) (N := 37) hx hb hG iX9 hown hX.1 hP 0 rfl rfl 11 (by decide) (hG _ g1428) (fun _ h9 => h9) rfl dX9_fault_5 ?_
    refine lv_goto (tgt := 24) hx hb dX9_fault_8 (by decide) ?_
    exact zri (rm := { frames := 0, cells := 0, slots := 0, locals := 0 }) (v := 0) () hx hb hr hlocks (Nat.le_of_ble_eq_true rfl) (Nat.le_of_ble_eq_true rfl) (by first | exact (sp_fault_t (by omega)).symm | exact (sp_fault_f (by omega)).symm) (hP.sub [] rfl) (hD.sub [] (by decide) rfl) hS dX9_fault_24
theorem dX9_has_0 : decode cX9_has 0 = .ok (.iload_n 1, 1) := by decide +kernel
theorem dX9_has_1 : decode cX9_has 1 = .ok (.bipush 7, 2) := by decide +kernel
theorem dX9_has_3 : decode cX9_has 3 = .ok (.if_icmp .ne 8, 3) := by decide +kernel
theorem dX9_has_11 : decode cX9_has 11 = .ok (.aload_n 0, 1) := by decide +kernel
theorem dX9_has_12 : decode cX9_has 12 = .ok (.getfield 32, 3) := by decide +kernel
theorem dX9_has_15 : decode cX9_has 15 = .ok (.ifCond .ne 19, 3) := by decide +kernel
theorem dX9_has_18 : decode cX9_has 18 = .ok (.iload_n 1, 1) := by decide +kernel
theorem dX9_has_19 : decode cX9_has 19 = .ok (.iconst 0, 1) := by decide +kernel
theorem dX9_has_20 : decode cX9_has 20 = .ok (.bipush 6, 2) := by decide +kernel
theorem dX9_has_22 : decode cX9_has 22 = .ok (.invokestatic 163, 3) := by decide +kernel
theorem dX9_has_25 : decode cX9_has 25 = .ok (.ifCond .eq 7, 3) := by decide +kernel
theorem dX9_has_32 : decode cX9_has 32 = .ok (.iconst (-1), 1) := by decide +kernel
theorem dX9_has_33 : decode cX9_has 33 = .ok (.ireturn, 1) := by decide +kernel
theorem dX9_has_28 : decode cX9_has 28 = .ok (.iconst 0, 1) := by decide +kernel
theorem dX9_has_29 : decode cX9_has 29 = .ok (.goto 4, 3) := by decide +kernel
theorem dX9_has_6 : decode cX9_has 6 = .ok (.aload_n 0, 1) := by decide +kernel
theorem dX9_has_7 : decode cX9_has 7 = .ok (.getfield 29, 3) := by decide +kernel
theorem dX9_has_10 : decode cX9_has 10 = .ok (.ireturn, 1) := by decide +kernel
set_option maxHeartbeats 4000000 in
set_option maxRecDepth 100000 in
theorem kX9_has (l : Launch) (g : zL) (h0 : Nat) (x : Int32) (m_told : Nat) (m_read : Nat) (m_now : Nat) (m_readNow : Nat) (m_kept : Nat) (m_tape : Nat) (m_refused : Nat) (m_ownLetters : Nat) (m_flats : Nat) (m_corner : Nat) (m_wayX : Nat) (m_wayY : Nat) (m_normal : Nat) (m_low : Nat) (m_high : Nat) (m_clear : Nat) (m_ways : Nat) (m_canBe : Nat) (m_lain : Nat) (m_fewestBy : Nat) (m_sortOf : Nat) (m_seenFlange : Nat) (m_seenLength : Nat) : zCi l g yX9_has cX9_has 2 (some .int) { frames := 1, cells := 0, slots := 0, locals := 22 } [.ref h0, .int x] [(h0, .inr (9, [.ref m_told, .ref m_read, .ref m_now, .ref m_readNow, .ref m_kept, .int 0, .int 1, .int 0, .ref m_tape, .int 0, .ref m_refused, .int 0, .int (-1), .int 0, .int 0, .int 0, .int 0, .int (-1), .ref m_ownLetters, .ref m_flats, .int 0, .ref m_corner, .ref m_wayX, .ref m_wayY, .ref m_normal, .ref m_low, .ref m_high, .ref m_clear, .ref m_ways, .ref m_canBe, .ref m_lain, .int 0, .ref m_fewestBy, .ref m_sortOf, .int 0, .ref m_seenFlange, .ref m_seenLength]))] (fun (r : Int32) (u : Unit) => r = sp_has x) (fun (u : Unit) => []) := by
  refine zCi.mk (by decide) (Nat.le_of_ble_eq_true rfl) ?_
  intro p e s m below meth c A hE hP hD hS ls hl
  obtain ⟨hx, hb, hr, hml, hown, hG, hlocks, hnm, hX, hA⟩ := hE
  have hown : s.vm.findClass RX9 = some m.cls := hown
  have hl : lv_has ls 2 [(0, .ref h0), (1, .int x)] := hl
  refine lv_iload_n hx hb dX9_has_0 rfl (lv_at hl 1 rfl) ?_
  refine lv_bipush (v := 7) hx hb dX9_has_1 (by decide) ?_
  refine lv_icmp_ne (tgt := 11) hx hb dX9_has_3 (by decide) (fun c3 => ?_) (fun c3 => ?_)
  · skip
    have c3i : ¬ x.toInt = 7 := fun q => c3 ((zc_eq (rfl : x.toInt = _) (show (7 : Int32).toInt = 7 from by decide)).mpr q)
    refine lv_aload_n hx hb dX9_has_11 rfl (lv_at hl 0 rfl) ?_
    refine va_get (D := g.1) (ci := 9) (v := .int 0) (C := RX9) (T := TX9) (N := 37) hx hb hG iX9 hown hX.1 hP 0 rfl rfl 7 (by decide) (hG _ g1424) (fun _ h9 => h9) rfl dX9_has_12 ?_
    refine lv_if_ne (tgt := 34) hx hb dX9_has_15 (by decide) (fun c15 => (c15 (by decide)).elim) (fun c15 => ?_)
    refine lv_iload_n hx hb dX9_has_18 rfl (lv_at hl 1 rfl) ?_
    refine lv_iconst (v := 0) hx hb dX9_has_19 (by decide) ?_
    refine lv_bipush (v := 6) hx hb dX9_has_20 (by decide) ?_
    refine zfi (wr := [(h0, .inr (9, [.ref m_told, .ref m_read, .ref m_now, .ref m_readNow, .ref m_kept, .int 0, .int 1, .int 0, .ref m_tape, .int 0, .ref m_refused, .int 0, .int (-1), .int 0, .int 0, .int 0, .int 0, .int (-1), .ref m_ownLetters, .ref m_flats, .int 0, .ref m_corner, .ref m_wayX, .ref m_wayY, .ref m_normal, .ref m_low, .ref m_high, .ref m_clear, .ref m_ways, .ref m_canBe, .ref m_lain, .int 0, .ref m_fewestBy, .ref m_sortOf, .int 0, .ref m_seenFlange, .ref m_seenLength]))]) (va_runS (As := [.int x, .int 0, .int 6]) (rest := []) ⟨hx, hb, hml, hown, hG⟩ (kX9_isIng l g x 0 6 _) ⟨callB_of 3 hG (zGood g1608) rfl rfl rfl (hG _ g211) (hG _ g1606) hX9_isIn ⟨Nat.le_of_ble_eq_true rfl, Nat.le_of_ble_eq_true rfl⟩, hG _ g1607⟩ (zpreS hX hP hD hS hA [] rfl (by decide)) rfl rfl hl.1 rfl (lv_room (Nat.le_of_ble_eq_true rfl)) dX9_has_22 ⟨Nat.le_of_ble_eq_true rfl, Nat.le_of_ble_eq_true rfl⟩) hP hD hS hA [] [0] rfl rfl (by decide) (by decide) (fun r1 _ H locs hp hP hD hS => ?_)
    refine W.cs (cells' := 0) (slots' := 0) rfl rfl ?_
    have hq2 : r1 = sp_in x 0 6 := hp
    subst hq2
    have hP : va_P g.1 vwCl [(h0, .inr (9, [.ref m_told, .ref m_read, .ref m_now, .ref m_readNow, .ref m_kept, .int 0, .int 1, .int 0, .ref m_tape, .int 0, .ref m_refused, .int 0, .int (-1), .int 0, .int 0, .int 0, .int 0, .int (-1), .ref m_ownLetters, .ref m_flats, .int 0, .ref m_corner, .ref m_wayX, .ref m_wayY, .ref m_normal, .ref m_low, .ref m_high, .ref m_clear, .ref m_ways, .ref m_canBe, .ref m_lain, .int 0, .ref m_fewestBy, .ref m_sortOf, .int 0, .ref m_seenFlange, .ref m_seenLength]))] H := hP
    have hD : va_D A [(h0, .inr (9, [.ref m_told, .ref m_read, .ref m_now, .ref m_readNow, .ref m_kept, .int 0, .int 1, .int 0, .ref m_tape, .int 0, .ref m_refused, .int 0, .int (-1), .int 0, .int 0, .int 0, .int 0, .int (-1), .ref m_ownLetters, .ref m_flats, .int 0, .ref m_corner, .ref m_wayX, .ref m_wayY, .ref m_normal, .ref m_low, .ref m_high, .ref m_clear, .ref m_ways, .ref m_canBe, .ref m_lain, .int 0, .ref m_fewestBy, .ref m_sortOf, .int 0, .ref m_seenFlange, .ref m_seenLength]))] := hD
    refine lv_if_eq (tgt := 32) hx hb dX9_has_25 (by decide) (fun c25 => ?_) (fun c25 => ?_)
    · skip
      have c25i : (sp_in x 0 6).toInt = 0 := (zc_eq (rfl : (sp_in x 0 6).toInt = _) (show (0 : Int32).toInt = 0 from by decide)).mp c25
      refine lv_iconst (v := (-1)) hx hb dX9_has_32 (by decide) ?_
      exact zri (rm := { frames := 1, cells := 0, slots := 0, locals := 22 }) (v := (-1)) () hx hb hr hlocks (Nat.le_of_ble_eq_true rfl) (Nat.le_of_ble_eq_true rfl) (by first | exact (sp_has_a (by omega)).symm | exact (sp_has_x (by omega) (by assumption)).symm | exact (sp_has_y (by omega) (by assumption)).symm) (hP.sub [] rfl) (hD.sub [] (by decide) rfl) hS dX9_has_33
    · skip
      have c25i : ¬ (sp_in x 0 6).toInt = 0 := fun q => c25 ((zc_eq (rfl : (sp_in x 0 6).toInt = _) (show (0 : Int32).toInt = 0 from by decide)).mpr q)
      refine lv_iconst (v := 0) hx hb dX9_has_28 (by decide) ?_
      refine lv_goto (tgt := 33) hx hb dX9_has_29 (by decide) ?_
      exact zri (rm := { frames := 1, cells := 0, slots := 0, locals := 22 }) (v := 0) () hx hb hr hlocks (Nat.le_of_ble_eq_true rfl) (Nat.le_of_ble_eq_true rfl) (by first | exact (sp_has_a (by omega)).symm | exact (sp_has_x (by omega) (by assumption)).symm | exact (sp_has_y (by omega) (by assumption)).symm) (hP.sub [] rfl) (hD.sub [] (by decide) rfl) hS dX9_has_33
  · skip
    have c3i : x.toInt = 7 := (zc_eq (rfl : x.toInt = _) (show (7 : Int32).toInt = 7 from by decide)).mp c3
    refine lv_aload_n hx hb dX9_has_6 rfl (lv_at hl 0 rfl) ?_
    refine va_get (D := g.1) (ci := 9) (v := .int 1) (C := RX9) (T := TX9) (N := 37) hx hb hG iX9 hown hX.1 hP 0 rfl rfl 6 (by decide) (hG _ g1423) (fun _ h9 => h9) rfl dX9_has_7 ?_
    exact zri (rm := { frames := 1, cells := 0, slots := 0, locals := 22 }) (v := 1) () hx hb hr hlocks (Nat.le_of_ble_eq_true rfl) (Nat.le_of_ble_eq_true rfl) (by first | exact (sp_has_a (by omega)).symm | exact (sp_has_x (by omega) (by assumption)).symm | exact (sp_has_y (by omega) (by assumption)).symm) (hP.sub [] rfl) (hD.sub [] (by decide) rfl) hS dX9_has_10
theorem dX9_letter_0 : decode cX9_letter 0 = .ok (.aload_n 0, 1) := by decide +kernel
theorem dX9_letter_1 : decode cX9_letter 1 = .ok (.iload_n 1, 1) := by decide +kernel
theorem dX9_letter_2 : decode cX9_letter 2 = .ok (.invokevirtual 229, 3) := by decide +kernel
theorem dX9_letter_5 : decode cX9_letter 5 = .ok (.ifCond .eq 28, 3) := by decide +kernel
theorem dX9_letter_33 : decode cX9_letter 33 = .ok (.iconst (-1), 1) := by decide +kernel
theorem dX9_letter_34 : decode cX9_letter 34 = .ok (.ireturn, 1) := by decide +kernel
set_option maxHeartbeats 4000000 in
set_option maxRecDepth 100000 in
theorem kX9_letter (l : Launch) (g : zL) (h0 : Nat) (x : Int32) (y : Int32) (m_told : Nat) (m_read : Nat) (m_now : Nat) (m_readNow : Nat) (m_kept : Nat) (m_tape : Nat) (m_refused : Nat) (m_ownLetters : Nat) (m_flats : Nat) (m_corner : Nat) (m_wayX : Nat) (m_wayY : Nat) (m_normal : Nat) (m_low : Nat) (m_high : Nat) (m_clear : Nat) (m_ways : Nat) (m_canBe : Nat) (m_lain : Nat) (m_fewestBy : Nat) (m_sortOf : Nat) (m_seenFlange : Nat) (m_seenLength : Nat) : zCi l g yX9_letter cX9_letter 3 (some .int) { frames := 2, cells := 0, slots := 0, locals := 43 } [.ref h0, .int x, .int y] [(h0, .inr (9, [.ref m_told, .ref m_read, .ref m_now, .ref m_readNow, .ref m_kept, .int 0, .int 1, .int 0, .ref m_tape, .int 0, .ref m_refused, .int 0, .int (-1), .int 0, .int 0, .int 0, .int 0, .int (-1), .ref m_ownLetters, .ref m_flats, .int 0, .ref m_corner, .ref m_wayX, .ref m_wayY, .ref m_normal, .ref m_low, .ref m_high, .ref m_clear, .ref m_ways, .ref m_canBe, .ref m_lain, .int 0, .ref m_fewestBy, .ref m_sortOf, .int 0, .ref m_seenFlange, .ref m_seenLength]))] (fun (r : Int32) (u : Unit) => r = (-1)) (fun (u : Unit) => []) := by
  refine zCi.mk (by decide) (Nat.le_of_ble_eq_true rfl) ?_
  intro p e s m below meth c A hE hP hD hS ls hl
  obtain ⟨hx, hb, hr, hml, hown, hG, hlocks, hnm, hX, hA⟩ := hE
  have hown : s.vm.findClass RX9 = some m.cls := hown
  have hl : lv_has ls 3 [(0, .ref h0), (1, .int x), (2, .int y)] := hl
  refine lv_aload_n hx hb dX9_letter_0 rfl (lv_at hl 0 rfl) ?_
  refine lv_iload_n hx hb dX9_letter_1 rfl (lv_at hl 1 rfl) ?_
  refine zfi (wr := []) (va_runV (As := [.int x]) (rest := []) ⟨hx, hb, hml, hown, hG⟩ (kX9_isFlange l g h0 x m_told m_read m_now m_readNow m_kept m_tape m_refused m_ownLetters m_flats m_corner m_wayX m_wayY m_normal m_low m_high m_clear m_ways m_canBe m_lain m_fewestBy m_sortOf m_seenFlange m_seenLength _) ⟨callB_of 1 hG (zGood g1661) rfl rfl rfl (hG _ g211) (hG _ g1658) hX9_isFlange ⟨Nat.le_of_ble_eq_true rfl, Nat.le_of_ble_eq_true rfl⟩, hG _ g1660, hG _ g147⟩ (zpreV (va_recv hX.1 hP (ci := 9) (q0 := 0) rfl rfl) hX hP hD hS hA [0] rfl (by decide)) rfl rfl hl.1 rfl (lv_room (Nat.le_of_ble_eq_true rfl)) dX9_letter_2 ⟨Nat.le_of_ble_eq_true rfl, Nat.le_of_ble_eq_true rfl⟩) hP hD hS hA [0] [] rfl rfl (by decide) (by decide) (fun r1 _ H locs hp hP hD hS => ?_)
  refine W.cs (cells' := 0) (slots' := 0) rfl rfl ?_
  have hq2 : r1 = 0 := hp
  subst hq2
  have hP : va_P g.1 vwCl [(h0, .inr (9, [.ref m_told, .ref m_read, .ref m_now, .ref m_readNow, .ref m_kept, .int 0, .int 1, .int 0, .ref m_tape, .int 0, .ref m_refused, .int 0, .int (-1), .int 0, .int 0, .int 0, .int 0, .int (-1), .ref m_ownLetters, .ref m_flats, .int 0, .ref m_corner, .ref m_wayX, .ref m_wayY, .ref m_normal, .ref m_low, .ref m_high, .ref m_clear, .ref m_ways, .ref m_canBe, .ref m_lain, .int 0, .ref m_fewestBy, .ref m_sortOf, .int 0, .ref m_seenFlange, .ref m_seenLength]))] H := hP
  have hD : va_D A [(h0, .inr (9, [.ref m_told, .ref m_read, .ref m_now, .ref m_readNow, .ref m_kept, .int 0, .int 1, .int 0, .ref m_tape, .int 0, .ref m_refused, .int 0, .int (-1), .int 0, .int 0, .int 0, .int 0, .int (-1), .ref m_ownLetters, .ref m_flats, .int 0, .ref m_corner, .ref m_wayX, .ref m_wayY, .ref m_normal, .ref m_low, .ref m_high, .ref m_clear, .ref m_ways, .ref m_canBe, .ref m_lain, .int 0, .ref m_fewestBy, .ref m_sortOf, .int 0, .ref m_seenFlange, .ref m_seenLength]))] := hD
  refine lv_if_eq (tgt := 33) hx hb dX9_letter_5 (by decide) (fun c5 => ?_) (fun c5 => (c5 (by decide)).elim)
  refine lv_iconst (v := (-1)) hx hb dX9_letter_33 (by decide) ?_
  exact zri (rm := { frames := 2, cells := 0, slots := 0, locals := 43 }) (v := (-1)) () hx hb hr hlocks (Nat.le_of_ble_eq_true rfl) (Nat.le_of_ble_eq_true rfl) (rfl) (hP.sub [] rfl) (hD.sub [] (by decide) rfl) hS dX9_letter_34
theorem dX9_flange_0 : decode cX9_flange 0 = .ok (.aload_n 0, 1) := by decide +kernel
theorem dX9_flange_1 : decode cX9_flange 1 = .ok (.iload_n 1, 1) := by decide +kernel
theorem dX9_flange_2 : decode cX9_flange 2 = .ok (.invokevirtual 235, 3) := by decide +kernel
theorem dX9_flange_5 : decode cX9_flange 5 = .ok (.ifCond .ne 5, 3) := by decide +kernel
theorem dX9_flange_8 : decode cX9_flange 8 = .ok (.iconst (-1), 1) := by decide +kernel
theorem dX9_flange_9 : decode cX9_flange 9 = .ok (.ireturn, 1) := by decide +kernel
set_option maxHeartbeats 4000000 in
set_option maxRecDepth 100000 in
theorem kX9_flange (l : Launch) (g : zL) (h0 : Nat) (x : Int32) (y : Int32) (m_told : Nat) (m_read : Nat) (m_now : Nat) (m_readNow : Nat) (m_kept : Nat) (m_tape : Nat) (m_refused : Nat) (m_ownLetters : Nat) (m_flats : Nat) (m_corner : Nat) (m_wayX : Nat) (m_wayY : Nat) (m_normal : Nat) (m_low : Nat) (m_high : Nat) (m_clear : Nat) (m_ways : Nat) (m_canBe : Nat) (m_lain : Nat) (m_fewestBy : Nat) (m_sortOf : Nat) (m_seenFlange : Nat) (m_seenLength : Nat) : zCi l g yX9_flange cX9_flange 3 (some .int) { frames := 2, cells := 0, slots := 0, locals := 43 } [.ref h0, .int x, .int y] [(h0, .inr (9, [.ref m_told, .ref m_read, .ref m_now, .ref m_readNow, .ref m_kept, .int 0, .int 1, .int 0, .ref m_tape, .int 0, .ref m_refused, .int 0, .int (-1), .int 0, .int 0, .int 0, .int 0, .int (-1), .ref m_ownLetters, .ref m_flats, .int 0, .ref m_corner, .ref m_wayX, .ref m_wayY, .ref m_normal, .ref m_low, .ref m_high, .ref m_clear, .ref m_ways, .ref m_canBe, .ref m_lain, .int 0, .ref m_fewestBy, .ref m_sortOf, .int 0, .ref m_seenFlange, .ref m_seenLength]))] (fun (r : Int32) (u : Unit) => r = (-1)) (fun (u : Unit) => []) := by
  refine zCi.mk (by decide) (Nat.le_of_ble_eq_true rfl) ?_
  intro p e s m below meth c A hE hP hD hS ls hl
  obtain ⟨hx, hb, hr, hml, hown, hG, hlocks, hnm, hX, hA⟩ := hE
  have hown : s.vm.findClass RX9 = some m.cls := hown
  have hl : lv_has ls 3 [(0, .ref h0), (1, .int x), (2, .int y)] := hl
  refine lv_aload_n hx hb dX9_flange_0 rfl (lv_at hl 0 rfl) ?_
  refine lv_iload_n hx hb dX9_flange_1 rfl (lv_at hl 1 rfl) ?_
  refine zfi (wr := []) (va_runV (As := [.int x]) (rest := []) ⟨hx, hb, hml, hown, hG⟩ (kX9_isBend l g h0 x m_told m_read m_now m_readNow m_kept m_tape m_refused m_ownLetters m_flats m_corner m_wayX m_wayY m_normal m_low m_high m_clear m_ways m_canBe m_lain m_fewestBy m_sortOf m_seenFlange m_seenLength _) ⟨callB_of 1 hG (zGood g1673) rfl rfl rfl (hG _ g211) (hG _ g1670) hX9_isBend ⟨Nat.le_of_ble_eq_true rfl, Nat.le_of_ble_eq_true rfl⟩, hG _ g1672, hG _ g149⟩ (zpreV (va_recv hX.1 hP (ci := 9) (q0 := 0) rfl rfl) hX hP hD hS hA [0] rfl (by decide)) rfl rfl hl.1 rfl (lv_room (Nat.le_of_ble_eq_true rfl)) dX9_flange_2 ⟨Nat.le_of_ble_eq_true rfl, Nat.le_of_ble_eq_true rfl⟩) hP hD hS hA [0] [] rfl rfl (by decide) (by decide) (fun r1 _ H locs hp hP hD hS => ?_)
  refine W.cs (cells' := 0) (slots' := 0) rfl rfl ?_
  have hq2 : r1 = 0 := hp
  subst hq2
  have hP : va_P g.1 vwCl [(h0, .inr (9, [.ref m_told, .ref m_read, .ref m_now, .ref m_readNow, .ref m_kept, .int 0, .int 1, .int 0, .ref m_tape, .int 0, .ref m_refused, .int 0, .int (-1), .int 0, .int 0, .int 0, .int 0, .int (-1), .ref m_ownLetters, .ref m_flats, .int 0, .ref m_corner, .ref m_wayX, .ref m_wayY, .ref m_normal, .ref m_low, .ref m_high, .ref m_clear, .ref m_ways, .ref m_canBe, .ref m_lain, .int 0, .ref m_fewestBy, .ref m_sortOf, .int 0, .ref m_seenFlange, .ref m_seenLength]))] H := hP
  have hD : va_D A [(h0, .inr (9, [.ref m_told, .ref m_read, .ref m_now, .ref m_readNow, .ref m_kept, .int 0, .int 1, .int 0, .ref m_tape, .int 0, .ref m_refused, .int 0, .int (-1), .int 0, .int 0, .int 0, .int 0, .int (-1), .ref m_ownLetters, .ref m_flats, .int 0, .ref m_corner, .ref m_wayX, .ref m_wayY, .ref m_normal, .ref m_low, .ref m_high, .ref m_clear, .ref m_ways, .ref m_canBe, .ref m_lain, .int 0, .ref m_fewestBy, .ref m_sortOf, .int 0, .ref m_seenFlange, .ref m_seenLength]))] := hD
  refine lv_if_ne (tgt := 10) hx hb dX9_flange_5 (by decide) (fun c5 => (c5 (by decide)).elim) (fun c5 => ?_)
  refine lv_iconst (v := (-1)) hx hb dX9_flange_8 (by decide) ?_
  exact zri (rm := { frames := 2, cells := 0, slots := 0, locals := 43 }) (v := (-1)) () hx hb hr hlocks (Nat.le_of_ble_eq_true rfl) (Nat.le_of_ble_eq_true rfl) (rfl) (hP.sub [] rfl) (hD.sub [] (by decide) rfl) hS dX9_flange_9
theorem dX9_tool_0 : decode cX9_tool 0 = .ok (.aload_n 0, 1) := by decide +kernel
theorem dX9_tool_1 : decode cX9_tool 1 = .ok (.getfield 32, 3) := by decide +kernel
theorem dX9_tool_4 : decode cX9_tool 4 = .ok (.ifCond .eq 30, 3) := by decide +kernel
theorem dX9_tool_34 : decode cX9_tool 34 = .ok (.iconst (-1), 1) := by decide +kernel
theorem dX9_tool_35 : decode cX9_tool 35 = .ok (.ireturn, 1) := by decide +kernel
set_option maxHeartbeats 4000000 in
set_option maxRecDepth 100000 in
theorem kX9_tool (l : Launch) (g : zL) (h0 : Nat) (x : Int32) (m_told : Nat) (m_read : Nat) (m_now : Nat) (m_readNow : Nat) (m_kept : Nat) (m_tape : Nat) (m_refused : Nat) (m_ownLetters : Nat) (m_flats : Nat) (m_corner : Nat) (m_wayX : Nat) (m_wayY : Nat) (m_normal : Nat) (m_low : Nat) (m_high : Nat) (m_clear : Nat) (m_ways : Nat) (m_canBe : Nat) (m_lain : Nat) (m_fewestBy : Nat) (m_sortOf : Nat) (m_seenFlange : Nat) (m_seenLength : Nat) : zCi l g yX9_tool cX9_tool 2 (some .int) { frames := 0, cells := 0, slots := 0, locals := 0 } [.ref h0, .int x] [(h0, .inr (9, [.ref m_told, .ref m_read, .ref m_now, .ref m_readNow, .ref m_kept, .int 0, .int 1, .int 0, .ref m_tape, .int 0, .ref m_refused, .int 0, .int (-1), .int 0, .int 0, .int 0, .int 0, .int (-1), .ref m_ownLetters, .ref m_flats, .int 0, .ref m_corner, .ref m_wayX, .ref m_wayY, .ref m_normal, .ref m_low, .ref m_high, .ref m_clear, .ref m_ways, .ref m_canBe, .ref m_lain, .int 0, .ref m_fewestBy, .ref m_sortOf, .int 0, .ref m_seenFlange, .ref m_seenLength]))] (fun (r : Int32) (u : Unit) => r = (-1)) (fun (u : Unit) => []) := by
  refine zCi.mk (by decide) (Nat.le_of_ble_eq_true rfl) ?_
  intro p e s m below meth c A hE hP hD hS ls hl
  obtain ⟨hx, hb, hr, hml, hown, hG, hlocks, hnm, hX, hA⟩ := hE
  have hown : s.vm.findClass RX9 = some m.cls := hown
  have hl : lv_has ls 2 [(0, .ref h0), (1, .int x)] := hl
  refine lv_aload_n hx hb dX9_tool_0 rfl (lv_at hl 0 rfl) ?_
  refine va_get (D := g.1) (ci := 9) (v := .int 0) (C := RX9) (T := TX9) (N := 37) hx hb hG iX9 hown hX.1 hP 0 rfl rfl 7 (by decide) (hG _ g1424) (fun _ h9 => h9) rfl dX9_tool_1 ?_
  refine lv_if_eq (tgt := 34) hx hb dX9_tool_4 (by decide) (fun c4 => ?_) (fun c4 => (c4 (by decide)).elim)
  refine lv_iconst (v := (-1)) hx hb dX9_tool_34 (by decide) ?_
  exact zri (rm := { frames := 0, cells := 0, slots := 0, locals := 0 }) (v := (-1)) () hx hb hr hlocks (Nat.le_of_ble_eq_true rfl) (Nat.le_of_ble_eq_true rfl) (rfl) (hP.sub [] rfl) (hD.sub [] (by decide) rfl) hS dX9_tool_35
theorem dX9_allowance_0 : decode cX9_allowance 0 = .ok (.aload_n 0, 1) := by decide +kernel
theorem dX9_allowance_1 : decode cX9_allowance 1 = .ok (.getfield 32, 3) := by decide +kernel
theorem dX9_allowance_4 : decode cX9_allowance 4 = .ok (.ifCond .eq 21, 3) := by decide +kernel
theorem dX9_allowance_25 : decode cX9_allowance 25 = .ok (.iconst (-1), 1) := by decide +kernel
theorem dX9_allowance_26 : decode cX9_allowance 26 = .ok (.ireturn, 1) := by decide +kernel
set_option maxHeartbeats 4000000 in
set_option maxRecDepth 100000 in
theorem kX9_allowance (l : Launch) (g : zL) (h0 : Nat) (x : Int32) (m_told : Nat) (m_read : Nat) (m_now : Nat) (m_readNow : Nat) (m_kept : Nat) (m_tape : Nat) (m_refused : Nat) (m_ownLetters : Nat) (m_flats : Nat) (m_corner : Nat) (m_wayX : Nat) (m_wayY : Nat) (m_normal : Nat) (m_low : Nat) (m_high : Nat) (m_clear : Nat) (m_ways : Nat) (m_canBe : Nat) (m_lain : Nat) (m_fewestBy : Nat) (m_sortOf : Nat) (m_seenFlange : Nat) (m_seenLength : Nat) : zCi l g yX9_allowance cX9_allowance 2 (some .int) { frames := 0, cells := 0, slots := 0, locals := 0 } [.ref h0, .int x] [(h0, .inr (9, [.ref m_told, .ref m_read, .ref m_now, .ref m_readNow, .ref m_kept, .int 0, .int 1, .int 0, .ref m_tape, .int 0, .ref m_refused, .int 0, .int (-1), .int 0, .int 0, .int 0, .int 0, .int (-1), .ref m_ownLetters, .ref m_flats, .int 0, .ref m_corner, .ref m_wayX, .ref m_wayY, .ref m_normal, .ref m_low, .ref m_high, .ref m_clear, .ref m_ways, .ref m_canBe, .ref m_lain, .int 0, .ref m_fewestBy, .ref m_sortOf, .int 0, .ref m_seenFlange, .ref m_seenLength]))] (fun (r : Int32) (u : Unit) => r = (-1)) (fun (u : Unit) => []) := by
  refine zCi.mk (by decide) (Nat.le_of_ble_eq_true rfl) ?_
  intro p e s m below meth c A hE hP hD hS ls hl
  obtain ⟨hx, hb, hr, hml, hown, hG, hlocks, hnm, hX, hA⟩ := hE
  have hown : s.vm.findClass RX9 = some m.cls := hown
  have hl : lv_has ls 2 [(0, .ref h0), (1, .int x)] := hl
  refine lv_aload_n hx hb dX9_allowance_0 rfl (lv_at hl 0 rfl) ?_
  refine va_get (D := g.1) (ci := 9) (v := .int 0) (C := RX9) (T := TX9) (N := 37) hx hb hG iX9 hown hX.1 hP 0 rfl rfl 7 (by decide) (hG _ g1424) (fun _ h9 => h9) rfl dX9_allowance_1 ?_
  refine lv_if_eq (tgt := 25) hx hb dX9_allowance_4 (by decide) (fun c4 => ?_) (fun c4 => (c4 (by decide)).elim)
  refine lv_iconst (v := (-1)) hx hb dX9_allowance_25 (by decide) ?_
  exact zri (rm := { frames := 0, cells := 0, slots := 0, locals := 0 }) (v := (-1)) () hx hb hr hlocks (Nat.le_of_ble_eq_true rfl) (Nat.le_of_ble_eq_true rfl) (rfl) (hP.sub [] rfl) (hD.sub [] (by decide) rfl) hS dX9_allowance_26
theorem dX9_flat_0 : decode cX9_flat 0 = .ok (.aload_n 0, 1) := by decide +kernel
theorem dX9_flat_1 : decode cX9_flat 1 = .ok (.iload_n 1, 1) := by decide +kernel
theorem dX9_flat_2 : decode cX9_flat 2 = .ok (.invokevirtual 251, 3) := by decide +kernel
theorem dX9_flat_5 : decode cX9_flat 5 = .ok (.ifCond .eq 12, 3) := by decide +kernel
theorem dX9_flat_17 : decode cX9_flat 17 = .ok (.ldc 254, 2) := by decide +kernel
theorem dX9_flat_19 : decode cX9_flat 19 = .ok (.ireturn, 1) := by decide +kernel
set_option maxHeartbeats 4000000 in
set_option maxRecDepth 100000 in
theorem kX9_flat (l : Launch) (g : zL) (h0 : Nat) (x : Int32) (y : Int32) (m_told : Nat) (m_read : Nat) (m_now : Nat) (m_readNow : Nat) (m_kept : Nat) (m_tape : Nat) (m_refused : Nat) (m_ownLetters : Nat) (m_flats : Nat) (m_corner : Nat) (m_wayX : Nat) (m_wayY : Nat) (m_normal : Nat) (m_low : Nat) (m_high : Nat) (m_clear : Nat) (m_ways : Nat) (m_canBe : Nat) (m_lain : Nat) (m_fewestBy : Nat) (m_sortOf : Nat) (m_seenFlange : Nat) (m_seenLength : Nat) : zCi l g yX9_flat cX9_flat 3 (some .int) { frames := 3, cells := 0, slots := 0, locals := 64 } [.ref h0, .int x, .int y] [(h0, .inr (9, [.ref m_told, .ref m_read, .ref m_now, .ref m_readNow, .ref m_kept, .int 0, .int 1, .int 0, .ref m_tape, .int 0, .ref m_refused, .int 0, .int (-1), .int 0, .int 0, .int 0, .int 0, .int (-1), .ref m_ownLetters, .ref m_flats, .int 0, .ref m_corner, .ref m_wayX, .ref m_wayY, .ref m_normal, .ref m_low, .ref m_high, .ref m_clear, .ref m_ways, .ref m_canBe, .ref m_lain, .int 0, .ref m_fewestBy, .ref m_sortOf, .int 0, .ref m_seenFlange, .ref m_seenLength]))] (fun (r : Int32) (u : Unit) => r = (-1000000)) (fun (u : Unit) => []) := by
  refine zCi.mk (by decide) (Nat.le_of_ble_eq_true rfl) ?_
  intro p e s m below meth c A hE hP hD hS ls hl
  obtain ⟨hx, hb, hr, hml, hown, hG, hlocks, hnm, hX, hA⟩ := hE
  have hown : s.vm.findClass RX9 = some m.cls := hown
  have hl : lv_has ls 3 [(0, .ref h0), (1, .int x), (2, .int y)] := hl
  refine lv_aload_n hx hb dX9_flat_0 rfl (lv_at hl 0 rfl) ?_
  refine lv_iload_n hx hb dX9_flat_1 rfl (lv_at hl 1 rfl) ?_
  refine zfi (wr := []) (va_runV (As := [.int x]) (rest := []) ⟨hx, hb, hml, hown, hG⟩ (kX9_isPiece l g h0 x m_told m_read m_now m_readNow m_kept m_tape m_refused m_ownLetters m_flats m_corner m_wayX m_wayY m_normal m_low m_high m_clear m_ways m_canBe m_lain m_fewestBy m_sortOf m_seenFlange m_seenLength _) ⟨callB_of 1 hG (zGood g1709) rfl rfl rfl (hG _ g211) (hG _ g1706) hX9_isPiece ⟨Nat.le_of_ble_eq_true rfl, Nat.le_of_ble_eq_true rfl⟩, hG _ g1708, hG _ g155⟩ (zpreV (va_recv hX.1 hP (ci := 9) (q0 := 0) rfl rfl) hX hP hD hS hA [0] rfl (by decide)) rfl rfl hl.1 rfl (lv_room (Nat.le_of_ble_eq_true rfl)) dX9_flat_2 ⟨Nat.le_of_ble_eq_true rfl, Nat.le_of_ble_eq_true rfl⟩) hP hD hS hA [0] [] rfl rfl (by decide) (by decide) (fun r1 _ H locs hp hP hD hS => ?_)
  refine W.cs (cells' := 0) (slots' := 0) rfl rfl ?_
  have hq2 : r1 = 0 := hp
  subst hq2
  have hP : va_P g.1 vwCl [(h0, .inr (9, [.ref m_told, .ref m_read, .ref m_now, .ref m_readNow, .ref m_kept, .int 0, .int 1, .int 0, .ref m_tape, .int 0, .ref m_refused, .int 0, .int (-1), .int 0, .int 0, .int 0, .int 0, .int (-1), .ref m_ownLetters, .ref m_flats, .int 0, .ref m_corner, .ref m_wayX, .ref m_wayY, .ref m_normal, .ref m_low, .ref m_high, .ref m_clear, .ref m_ways, .ref m_canBe, .ref m_lain, .int 0, .ref m_fewestBy, .ref m_sortOf, .int 0, .ref m_seenFlange, .ref m_seenLength]))] H := hP
  have hD : va_D A [(h0, .inr (9, [.ref m_told, .ref m_read, .ref m_now, .ref m_readNow, .ref m_kept, .int 0, .int 1, .int 0, .ref m_tape, .int 0, .ref m_refused, .int 0, .int (-1), .int 0, .int 0, .int 0, .int 0, .int (-1), .ref m_ownLetters, .ref m_flats, .int 0, .ref m_corner, .ref m_wayX, .ref m_wayY, .ref m_normal, .ref m_low, .ref m_high, .ref m_clear, .ref m_ways, .ref m_canBe, .ref m_lain, .int 0, .ref m_fewestBy, .ref m_sortOf, .int 0, .ref m_seenFlange, .ref m_seenLength]))] := hD
  refine lv_if_eq (tgt := 17) hx hb dX9_flat_5 (by decide) (fun c5 => ?_) (fun c5 => (c5 (by decide)).elim)
  refine lv_ldc (v := (-1000000)) hx hb hown (hG _ g1710) dX9_flat_17 ?_
  exact zri (rm := { frames := 3, cells := 0, slots := 0, locals := 64 }) (v := (-1000000)) () hx hb hr hlocks (Nat.le_of_ble_eq_true rfl) (Nat.le_of_ble_eq_true rfl) (rfl) (hP.sub [] rfl) (hD.sub [] (by decide) rfl) hS dX9_flat_19
theorem dX9_flatBox_0 : decode cX9_flatBox 0 = .ok (.aload_n 0, 1) := by decide +kernel
theorem dX9_flatBox_1 : decode cX9_flatBox 1 = .ok (.getfield 32, 3) := by decide +kernel
theorem dX9_flatBox_4 : decode cX9_flatBox 4 = .ok (.ifCond .eq 12, 3) := by decide +kernel
theorem dX9_flatBox_16 : decode cX9_flatBox 16 = .ok (.ldc 254, 2) := by decide +kernel
theorem dX9_flatBox_18 : decode cX9_flatBox 18 = .ok (.ireturn, 1) := by decide +kernel
set_option maxHeartbeats 4000000 in
set_option maxRecDepth 100000 in
theorem kX9_flatBox (l : Launch) (g : zL) (h0 : Nat) (x : Int32) (m_told : Nat) (m_read : Nat) (m_now : Nat) (m_readNow : Nat) (m_kept : Nat) (m_tape : Nat) (m_refused : Nat) (m_ownLetters : Nat) (m_flats : Nat) (m_corner : Nat) (m_wayX : Nat) (m_wayY : Nat) (m_normal : Nat) (m_low : Nat) (m_high : Nat) (m_clear : Nat) (m_ways : Nat) (m_canBe : Nat) (m_lain : Nat) (m_fewestBy : Nat) (m_sortOf : Nat) (m_seenFlange : Nat) (m_seenLength : Nat) : zCi l g yX9_flatBox cX9_flatBox 4 (some .int) { frames := 0, cells := 0, slots := 0, locals := 0 } [.ref h0, .int x] [(h0, .inr (9, [.ref m_told, .ref m_read, .ref m_now, .ref m_readNow, .ref m_kept, .int 0, .int 1, .int 0, .ref m_tape, .int 0, .ref m_refused, .int 0, .int (-1), .int 0, .int 0, .int 0, .int 0, .int (-1), .ref m_ownLetters, .ref m_flats, .int 0, .ref m_corner, .ref m_wayX, .ref m_wayY, .ref m_normal, .ref m_low, .ref m_high, .ref m_clear, .ref m_ways, .ref m_canBe, .ref m_lain, .int 0, .ref m_fewestBy, .ref m_sortOf, .int 0, .ref m_seenFlange, .ref m_seenLength]))] (fun (r : Int32) (u : Unit) => r = (-1000000)) (fun (u : Unit) => []) := by
  refine zCi.mk (by decide) (Nat.le_of_ble_eq_true rfl) ?_
  intro p e s m below meth c A hE hP hD hS ls hl
  obtain ⟨hx, hb, hr, hml, hown, hG, hlocks, hnm, hX, hA⟩ := hE
  have hown : s.vm.findClass RX9 = some m.cls := hown
  have hl : lv_has ls 4 [(0, .ref h0), (1, .int x)] := hl
  refine lv_aload_n hx hb dX9_flatBox_0 rfl (lv_at hl 0 rfl) ?_
  refine va_get (D := g.1) (ci := 9) (v := .int 0) (C := RX9) (T := TX9) (N := 37) hx hb hG iX9 hown hX.1 hP 0 rfl rfl 7 (by decide) (hG _ g1424) (fun _ h9 => h9) rfl dX9_flatBox_1 ?_
  refine lv_if_eq (tgt := 16) hx hb dX9_flatBox_4 (by decide) (fun c4 => ?_) (fun c4 => (c4 (by decide)).elim)
  refine lv_ldc (v := (-1000000)) hx hb hown (hG _ g1710) dX9_flatBox_16 ?_
  exact zri (rm := { frames := 0, cells := 0, slots := 0, locals := 0 }) (v := (-1000000)) () hx hb hr hlocks (Nat.le_of_ble_eq_true rfl) (Nat.le_of_ble_eq_true rfl) (rfl) (hP.sub [] rfl) (hD.sub [] (by decide) rfl) hS dX9_flatBox_18
theorem dX9_overlap_0 : decode cX9_overlap 0 = .ok (.aload_n 0, 1) := by decide +kernel
theorem dX9_overlap_1 : decode cX9_overlap 1 = .ok (.getfield 32, 3) := by decide +kernel
theorem dX9_overlap_4 : decode cX9_overlap 4 = .ok (.ifCond .eq 22, 3) := by decide +kernel
theorem dX9_overlap_26 : decode cX9_overlap 26 = .ok (.iconst (-1), 1) := by decide +kernel
theorem dX9_overlap_27 : decode cX9_overlap 27 = .ok (.ireturn, 1) := by decide +kernel
set_option maxHeartbeats 4000000 in
set_option maxRecDepth 100000 in
theorem kX9_overlap (l : Launch) (g : zL) (h0 : Nat) (x : Int32) (y : Int32) (m_told : Nat) (m_read : Nat) (m_now : Nat) (m_readNow : Nat) (m_kept : Nat) (m_tape : Nat) (m_refused : Nat) (m_ownLetters : Nat) (m_flats : Nat) (m_corner : Nat) (m_wayX : Nat) (m_wayY : Nat) (m_normal : Nat) (m_low : Nat) (m_high : Nat) (m_clear : Nat) (m_ways : Nat) (m_canBe : Nat) (m_lain : Nat) (m_fewestBy : Nat) (m_sortOf : Nat) (m_seenFlange : Nat) (m_seenLength : Nat) : zCi l g yX9_overlap cX9_overlap 6 (some .int) { frames := 0, cells := 0, slots := 0, locals := 0 } [.ref h0, .int x, .int y] [(h0, .inr (9, [.ref m_told, .ref m_read, .ref m_now, .ref m_readNow, .ref m_kept, .int 0, .int 1, .int 0, .ref m_tape, .int 0, .ref m_refused, .int 0, .int (-1), .int 0, .int 0, .int 0, .int 0, .int (-1), .ref m_ownLetters, .ref m_flats, .int 0, .ref m_corner, .ref m_wayX, .ref m_wayY, .ref m_normal, .ref m_low, .ref m_high, .ref m_clear, .ref m_ways, .ref m_canBe, .ref m_lain, .int 0, .ref m_fewestBy, .ref m_sortOf, .int 0, .ref m_seenFlange, .ref m_seenLength]))] (fun (r : Int32) (u : Unit) => r = (-1)) (fun (u : Unit) => []) := by
  refine zCi.mk (by decide) (Nat.le_of_ble_eq_true rfl) ?_
  intro p e s m below meth c A hE hP hD hS ls hl
  obtain ⟨hx, hb, hr, hml, hown, hG, hlocks, hnm, hX, hA⟩ := hE
  have hown : s.vm.findClass RX9 = some m.cls := hown
  have hl : lv_has ls 6 [(0, .ref h0), (1, .int x), (2, .int y)] := hl
  refine lv_aload_n hx hb dX9_overlap_0 rfl (lv_at hl 0 rfl) ?_
  refine va_get (D := g.1) (ci := 9) (v := .int 0) (C := RX9) (T := TX9) (N := 37) hx hb hG iX9 hown hX.1 hP 0 rfl rfl 7 (by decide) (hG _ g1424) (fun _ h9 => h9) rfl dX9_overlap_1 ?_
  refine lv_if_eq (tgt := 26) hx hb dX9_overlap_4 (by decide) (fun c4 => ?_) (fun c4 => (c4 (by decide)).elim)
  refine lv_iconst (v := (-1)) hx hb dX9_overlap_26 (by decide) ?_
  exact zri (rm := { frames := 0, cells := 0, slots := 0, locals := 0 }) (v := (-1)) () hx hb hr hlocks (Nat.le_of_ble_eq_true rfl) (Nat.le_of_ble_eq_true rfl) (rfl) (hP.sub [] rfl) (hD.sub [] (by decide) rfl) hS dX9_overlap_27
theorem dX9_space_0 : decode cX9_space 0 = .ok (.aload_n 0, 1) := by decide +kernel
theorem dX9_space_1 : decode cX9_space 1 = .ok (.iload_n 1, 1) := by decide +kernel
theorem dX9_space_2 : decode cX9_space 2 = .ok (.invokevirtual 229, 3) := by decide +kernel
theorem dX9_space_5 : decode cX9_space 5 = .ok (.ifCond .eq 12, 3) := by decide +kernel
theorem dX9_space_17 : decode cX9_space 17 = .ok (.ldc 254, 2) := by decide +kernel
theorem dX9_space_19 : decode cX9_space 19 = .ok (.ireturn, 1) := by decide +kernel
set_option maxHeartbeats 4000000 in
set_option maxRecDepth 100000 in
theorem kX9_space (l : Launch) (g : zL) (h0 : Nat) (x : Int32) (y : Int32) (m_told : Nat) (m_read : Nat) (m_now : Nat) (m_readNow : Nat) (m_kept : Nat) (m_tape : Nat) (m_refused : Nat) (m_ownLetters : Nat) (m_flats : Nat) (m_corner : Nat) (m_wayX : Nat) (m_wayY : Nat) (m_normal : Nat) (m_low : Nat) (m_high : Nat) (m_clear : Nat) (m_ways : Nat) (m_canBe : Nat) (m_lain : Nat) (m_fewestBy : Nat) (m_sortOf : Nat) (m_seenFlange : Nat) (m_seenLength : Nat) : zCi l g yX9_space cX9_space 3 (some .int) { frames := 2, cells := 0, slots := 0, locals := 43 } [.ref h0, .int x, .int y] [(h0, .inr (9, [.ref m_told, .ref m_read, .ref m_now, .ref m_readNow, .ref m_kept, .int 0, .int 1, .int 0, .ref m_tape, .int 0, .ref m_refused, .int 0, .int (-1), .int 0, .int 0, .int 0, .int 0, .int (-1), .ref m_ownLetters, .ref m_flats, .int 0, .ref m_corner, .ref m_wayX, .ref m_wayY, .ref m_normal, .ref m_low, .ref m_high, .ref m_clear, .ref m_ways, .ref m_canBe, .ref m_lain, .int 0, .ref m_fewestBy, .ref m_sortOf, .int 0, .ref m_seenFlange, .ref m_seenLength]))] (fun (r : Int32) (u : Unit) => r = (-1000000)) (fun (u : Unit) => []) := by
  refine zCi.mk (by decide) (Nat.le_of_ble_eq_true rfl) ?_
  intro p e s m below meth c A hE hP hD hS ls hl
  obtain ⟨hx, hb, hr, hml, hown, hG, hlocks, hnm, hX, hA⟩ := hE
  have hown : s.vm.findClass RX9 = some m.cls := hown
  have hl : lv_has ls 3 [(0, .ref h0), (1, .int x), (2, .int y)] := hl
  refine lv_aload_n hx hb dX9_space_0 rfl (lv_at hl 0 rfl) ?_
  refine lv_iload_n hx hb dX9_space_1 rfl (lv_at hl 1 rfl) ?_
  refine zfi (wr := []) (va_runV (As := [.int x]) (rest := []) ⟨hx, hb, hml, hown, hG⟩ (kX9_isFlange l g h0 x m_told m_read m_now m_readNow m_kept m_tape m_refused m_ownLetters m_flats m_corner m_wayX m_wayY m_normal m_low m_high m_clear m_ways m_canBe m_lain m_fewestBy m_sortOf m_seenFlange m_seenLength _) ⟨callB_of 1 hG (zGood g1661) rfl rfl rfl (hG _ g211) (hG _ g1658) hX9_isFlange ⟨Nat.le_of_ble_eq_true rfl, Nat.le_of_ble_eq_true rfl⟩, hG _ g1660, hG _ g147⟩ (zpreV (va_recv hX.1 hP (ci := 9) (q0 := 0) rfl rfl) hX hP hD hS hA [0] rfl (by decide)) rfl rfl hl.1 rfl (lv_room (Nat.le_of_ble_eq_true rfl)) dX9_space_2 ⟨Nat.le_of_ble_eq_true rfl, Nat.le_of_ble_eq_true rfl⟩) hP hD hS hA [0] [] rfl rfl (by decide) (by decide) (fun r1 _ H locs hp hP hD hS => ?_)
  refine W.cs (cells' := 0) (slots' := 0) rfl rfl ?_
  have hq2 : r1 = 0 := hp
  subst hq2
  have hP : va_P g.1 vwCl [(h0, .inr (9, [.ref m_told, .ref m_read, .ref m_now, .ref m_readNow, .ref m_kept, .int 0, .int 1, .int 0, .ref m_tape, .int 0, .ref m_refused, .int 0, .int (-1), .int 0, .int 0, .int 0, .int 0, .int (-1), .ref m_ownLetters, .ref m_flats, .int 0, .ref m_corner, .ref m_wayX, .ref m_wayY, .ref m_normal, .ref m_low, .ref m_high, .ref m_clear, .ref m_ways, .ref m_canBe, .ref m_lain, .int 0, .ref m_fewestBy, .ref m_sortOf, .int 0, .ref m_seenFlange, .ref m_seenLength]))] H := hP
  have hD : va_D A [(h0, .inr (9, [.ref m_told, .ref m_read, .ref m_now, .ref m_readNow, .ref m_kept, .int 0, .int 1, .int 0, .ref m_tape, .int 0, .ref m_refused, .int 0, .int (-1), .int 0, .int 0, .int 0, .int 0, .int (-1), .ref m_ownLetters, .ref m_flats, .int 0, .ref m_corner, .ref m_wayX, .ref m_wayY, .ref m_normal, .ref m_low, .ref m_high, .ref m_clear, .ref m_ways, .ref m_canBe, .ref m_lain, .int 0, .ref m_fewestBy, .ref m_sortOf, .int 0, .ref m_seenFlange, .ref m_seenLength]))] := hD
  refine lv_if_eq (tgt := 17) hx hb dX9_space_5 (by decide) (fun c5 => ?_) (fun c5 => (c5 (by decide)).elim)
  refine lv_ldc (v := (-1000000)) hx hb hown (hG _ g1710) dX9_space_17 ?_
  exact zri (rm := { frames := 2, cells := 0, slots := 0, locals := 43 }) (v := (-1000000)) () hx hb hr hlocks (Nat.le_of_ble_eq_true rfl) (Nat.le_of_ble_eq_true rfl) (rfl) (hP.sub [] rfl) (hD.sub [] (by decide) rfl) hS dX9_space_19
theorem dX9_spaceBox_0 : decode cX9_spaceBox 0 = .ok (.aload_n 0, 1) := by decide +kernel
theorem dX9_spaceBox_1 : decode cX9_spaceBox 1 = .ok (.getfield 32, 3) := by decide +kernel
theorem dX9_spaceBox_4 : decode cX9_spaceBox 4 = .ok (.ifCond .eq 12, 3) := by decide +kernel
theorem dX9_spaceBox_16 : decode cX9_spaceBox 16 = .ok (.ldc 254, 2) := by decide +kernel
theorem dX9_spaceBox_18 : decode cX9_spaceBox 18 = .ok (.ireturn, 1) := by decide +kernel
set_option maxHeartbeats 4000000 in
set_option maxRecDepth 100000 in
theorem kX9_spaceBox (l : Launch) (g : zL) (h0 : Nat) (x : Int32) (m_told : Nat) (m_read : Nat) (m_now : Nat) (m_readNow : Nat) (m_kept : Nat) (m_tape : Nat) (m_refused : Nat) (m_ownLetters : Nat) (m_flats : Nat) (m_corner : Nat) (m_wayX : Nat) (m_wayY : Nat) (m_normal : Nat) (m_low : Nat) (m_high : Nat) (m_clear : Nat) (m_ways : Nat) (m_canBe : Nat) (m_lain : Nat) (m_fewestBy : Nat) (m_sortOf : Nat) (m_seenFlange : Nat) (m_seenLength : Nat) : zCi l g yX9_spaceBox cX9_spaceBox 2 (some .int) { frames := 0, cells := 0, slots := 0, locals := 0 } [.ref h0, .int x] [(h0, .inr (9, [.ref m_told, .ref m_read, .ref m_now, .ref m_readNow, .ref m_kept, .int 0, .int 1, .int 0, .ref m_tape, .int 0, .ref m_refused, .int 0, .int (-1), .int 0, .int 0, .int 0, .int 0, .int (-1), .ref m_ownLetters, .ref m_flats, .int 0, .ref m_corner, .ref m_wayX, .ref m_wayY, .ref m_normal, .ref m_low, .ref m_high, .ref m_clear, .ref m_ways, .ref m_canBe, .ref m_lain, .int 0, .ref m_fewestBy, .ref m_sortOf, .int 0, .ref m_seenFlange, .ref m_seenLength]))] (fun (r : Int32) (u : Unit) => r = (-1000000)) (fun (u : Unit) => []) := by
  refine zCi.mk (by decide) (Nat.le_of_ble_eq_true rfl) ?_
  intro p e s m below meth c A hE hP hD hS ls hl
  obtain ⟨hx, hb, hr, hml, hown, hG, hlocks, hnm, hX, hA⟩ := hE
  have hown : s.vm.findClass RX9 = some m.cls := hown
  have hl : lv_has ls 2 [(0, .ref h0), (1, .int x)] := hl
  refine lv_aload_n hx hb dX9_spaceBox_0 rfl (lv_at hl 0 rfl) ?_
  refine va_get (D := g.1) (ci := 9) (v := .int 0) (C := RX9) (T := TX9) (N := 37) hx hb hG iX9 hown hX.1 hP 0 rfl rfl 7 (by decide) (hG _ g1424) (fun _ h9 => h9) rfl dX9_spaceBox_1 ?_
  refine lv_if_eq (tgt := 16) hx hb dX9_spaceBox_4 (by decide) (fun c4 => ?_) (fun c4 => (c4 (by decide)).elim)
  refine lv_ldc (v := (-1000000)) hx hb hown (hG _ g1710) dX9_spaceBox_16 ?_
  exact zri (rm := { frames := 0, cells := 0, slots := 0, locals := 0 }) (v := (-1000000)) () hx hb hr hlocks (Nat.le_of_ble_eq_true rfl) (Nat.le_of_ble_eq_true rfl) (rfl) (hP.sub [] rfl) (hD.sub [] (by decide) rfl) hS dX9_spaceBox_18
theorem dX9_gap_0 : decode cX9_gap 0 = .ok (.aload_n 0, 1) := by decide +kernel
theorem dX9_gap_1 : decode cX9_gap 1 = .ok (.iload_n 1, 1) := by decide +kernel
theorem dX9_gap_2 : decode cX9_gap 2 = .ok (.invokevirtual 229, 3) := by decide +kernel
theorem dX9_gap_5 : decode cX9_gap 5 = .ok (.ifCond .eq 11, 3) := by decide +kernel
theorem dX9_gap_16 : decode cX9_gap 16 = .ok (.iconst (-1), 1) := by decide +kernel
theorem dX9_gap_17 : decode cX9_gap 17 = .ok (.ireturn, 1) := by decide +kernel
set_option maxHeartbeats 4000000 in
set_option maxRecDepth 100000 in
theorem kX9_gap (l : Launch) (g : zL) (h0 : Nat) (x : Int32) (y : Int32) (m_told : Nat) (m_read : Nat) (m_now : Nat) (m_readNow : Nat) (m_kept : Nat) (m_tape : Nat) (m_refused : Nat) (m_ownLetters : Nat) (m_flats : Nat) (m_corner : Nat) (m_wayX : Nat) (m_wayY : Nat) (m_normal : Nat) (m_low : Nat) (m_high : Nat) (m_clear : Nat) (m_ways : Nat) (m_canBe : Nat) (m_lain : Nat) (m_fewestBy : Nat) (m_sortOf : Nat) (m_seenFlange : Nat) (m_seenLength : Nat) : zCi l g yX9_gap cX9_gap 5 (some .int) { frames := 2, cells := 0, slots := 0, locals := 43 } [.ref h0, .int x, .int y] [(h0, .inr (9, [.ref m_told, .ref m_read, .ref m_now, .ref m_readNow, .ref m_kept, .int 0, .int 1, .int 0, .ref m_tape, .int 0, .ref m_refused, .int 0, .int (-1), .int 0, .int 0, .int 0, .int 0, .int (-1), .ref m_ownLetters, .ref m_flats, .int 0, .ref m_corner, .ref m_wayX, .ref m_wayY, .ref m_normal, .ref m_low, .ref m_high, .ref m_clear, .ref m_ways, .ref m_canBe, .ref m_lain, .int 0, .ref m_fewestBy, .ref m_sortOf, .int 0, .ref m_seenFlange, .ref m_seenLength]))] (fun (r : Int32) (u : Unit) => r = (-1)) (fun (u : Unit) => []) := by
  refine zCi.mk (by decide) (Nat.le_of_ble_eq_true rfl) ?_
  intro p e s m below meth c A hE hP hD hS ls hl
  obtain ⟨hx, hb, hr, hml, hown, hG, hlocks, hnm, hX, hA⟩ := hE
  have hown : s.vm.findClass RX9 = some m.cls := hown
  have hl : lv_has ls 5 [(0, .ref h0), (1, .int x), (2, .int y)] := hl
  refine lv_aload_n hx hb dX9_gap_0 rfl (lv_at hl 0 rfl) ?_
  refine lv_iload_n hx hb dX9_gap_1 rfl (lv_at hl 1 rfl) ?_
  refine zfi (wr := []) (va_runV (As := [.int x]) (rest := []) ⟨hx, hb, hml, hown, hG⟩ (kX9_isFlange l g h0 x m_told m_read m_now m_readNow m_kept m_tape m_refused m_ownLetters m_flats m_corner m_wayX m_wayY m_normal m_low m_high m_clear m_ways m_canBe m_lain m_fewestBy m_sortOf m_seenFlange m_seenLength _) ⟨callB_of 1 hG (zGood g1661) rfl rfl rfl (hG _ g211) (hG _ g1658) hX9_isFlange ⟨Nat.le_of_ble_eq_true rfl, Nat.le_of_ble_eq_true rfl⟩, hG _ g1660, hG _ g147⟩ (zpreV (va_recv hX.1 hP (ci := 9) (q0 := 0) rfl rfl) hX hP hD hS hA [0] rfl (by decide)) rfl rfl hl.1 rfl (lv_room (Nat.le_of_ble_eq_true rfl)) dX9_gap_2 ⟨Nat.le_of_ble_eq_true rfl, Nat.le_of_ble_eq_true rfl⟩) hP hD hS hA [0] [] rfl rfl (by decide) (by decide) (fun r1 _ H locs hp hP hD hS => ?_)
  refine W.cs (cells' := 0) (slots' := 0) rfl rfl ?_
  have hq2 : r1 = 0 := hp
  subst hq2
  have hP : va_P g.1 vwCl [(h0, .inr (9, [.ref m_told, .ref m_read, .ref m_now, .ref m_readNow, .ref m_kept, .int 0, .int 1, .int 0, .ref m_tape, .int 0, .ref m_refused, .int 0, .int (-1), .int 0, .int 0, .int 0, .int 0, .int (-1), .ref m_ownLetters, .ref m_flats, .int 0, .ref m_corner, .ref m_wayX, .ref m_wayY, .ref m_normal, .ref m_low, .ref m_high, .ref m_clear, .ref m_ways, .ref m_canBe, .ref m_lain, .int 0, .ref m_fewestBy, .ref m_sortOf, .int 0, .ref m_seenFlange, .ref m_seenLength]))] H := hP
  have hD : va_D A [(h0, .inr (9, [.ref m_told, .ref m_read, .ref m_now, .ref m_readNow, .ref m_kept, .int 0, .int 1, .int 0, .ref m_tape, .int 0, .ref m_refused, .int 0, .int (-1), .int 0, .int 0, .int 0, .int 0, .int (-1), .ref m_ownLetters, .ref m_flats, .int 0, .ref m_corner, .ref m_wayX, .ref m_wayY, .ref m_normal, .ref m_low, .ref m_high, .ref m_clear, .ref m_ways, .ref m_canBe, .ref m_lain, .int 0, .ref m_fewestBy, .ref m_sortOf, .int 0, .ref m_seenFlange, .ref m_seenLength]))] := hD
  refine lv_if_eq (tgt := 16) hx hb dX9_gap_5 (by decide) (fun c5 => ?_) (fun c5 => (c5 (by decide)).elim)
  refine lv_iconst (v := (-1)) hx hb dX9_gap_16 (by decide) ?_
  exact zri (rm := { frames := 2, cells := 0, slots := 0, locals := 43 }) (v := (-1)) () hx hb hr hlocks (Nat.le_of_ble_eq_true rfl) (Nat.le_of_ble_eq_true rfl) (rfl) (hP.sub [] rfl) (hD.sub [] (by decide) rfl) hS dX9_gap_17
theorem dX9_normal_0 : decode cX9_normal 0 = .ok (.aload_n 0, 1) := by decide +kernel
theorem dX9_normal_1 : decode cX9_normal 1 = .ok (.iload_n 1, 1) := by decide +kernel
theorem dX9_normal_2 : decode cX9_normal 2 = .ok (.invokevirtual 229, 3) := by decide +kernel
theorem dX9_normal_5 : decode cX9_normal 5 = .ok (.ifCond .ne 5, 3) := by decide +kernel
theorem dX9_normal_8 : decode cX9_normal 8 = .ok (.iconst 0, 1) := by decide +kernel
theorem dX9_normal_9 : decode cX9_normal 9 = .ok (.ireturn, 1) := by decide +kernel
set_option maxHeartbeats 4000000 in
set_option maxRecDepth 100000 in
theorem kX9_normal (l : Launch) (g : zL) (h0 : Nat) (x : Int32) (m_told : Nat) (m_read : Nat) (m_now : Nat) (m_readNow : Nat) (m_kept : Nat) (m_tape : Nat) (m_refused : Nat) (m_ownLetters : Nat) (m_flats : Nat) (m_corner : Nat) (m_wayX : Nat) (m_wayY : Nat) (m_normal : Nat) (m_low : Nat) (m_high : Nat) (m_clear : Nat) (m_ways : Nat) (m_canBe : Nat) (m_lain : Nat) (m_fewestBy : Nat) (m_sortOf : Nat) (m_seenFlange : Nat) (m_seenLength : Nat) : zCi l g yX9_normal cX9_normal 2 (some .int) { frames := 2, cells := 0, slots := 0, locals := 43 } [.ref h0, .int x] [(h0, .inr (9, [.ref m_told, .ref m_read, .ref m_now, .ref m_readNow, .ref m_kept, .int 0, .int 1, .int 0, .ref m_tape, .int 0, .ref m_refused, .int 0, .int (-1), .int 0, .int 0, .int 0, .int 0, .int (-1), .ref m_ownLetters, .ref m_flats, .int 0, .ref m_corner, .ref m_wayX, .ref m_wayY, .ref m_normal, .ref m_low, .ref m_high, .ref m_clear, .ref m_ways, .ref m_canBe, .ref m_lain, .int 0, .ref m_fewestBy, .ref m_sortOf, .int 0, .ref m_seenFlange, .ref m_seenLength]))] (fun (r : Int32) (u : Unit) => r = 0) (fun (u : Unit) => []) := by
  refine zCi.mk (by decide) (Nat.le_of_ble_eq_true rfl) ?_
  intro p e s m below meth c A hE hP hD hS ls hl
  obtain ⟨hx, hb, hr, hml, hown, hG, hlocks, hnm, hX, hA⟩ := hE
  have hown : s.vm.findClass RX9 = some m.cls := hown
  have hl : lv_has ls 2 [(0, .ref h0), (1, .int x)] := hl
  refine lv_aload_n hx hb dX9_normal_0 rfl (lv_at hl 0 rfl) ?_
  refine lv_iload_n hx hb dX9_normal_1 rfl (lv_at hl 1 rfl) ?_
  refine zfi (wr := []) (va_runV (As := [.int x]) (rest := []) ⟨hx, hb, hml, hown, hG⟩ (kX9_isFlange l g h0 x m_told m_read m_now m_readNow m_kept m_tape m_refused m_ownLetters m_flats m_corner m_wayX m_wayY m_normal m_low m_high m_clear m_ways m_canBe m_lain m_fewestBy m_sortOf m_seenFlange m_seenLength _) ⟨callB_of 1 hG (zGood g1661) rfl rfl rfl (hG _ g211) (hG _ g1658) hX9_isFlange ⟨Nat.le_of_ble_eq_true rfl, Nat.le_of_ble_eq_true rfl⟩, hG _ g1660, hG _ g147⟩ (zpreV (va_recv hX.1 hP (ci := 9) (q0 := 0) rfl rfl) hX hP hD hS hA [0] rfl (by decide)) rfl rfl hl.1 rfl (lv_room (Nat.le_of_ble_eq_true rfl)) dX9_normal_2 ⟨Nat.le_of_ble_eq_true rfl, Nat.le_of_ble_eq_true rfl⟩) hP hD hS hA [0] [] rfl rfl (by decide) (by decide) (fun r1 _ H locs hp hP hD hS => ?_)
  refine W.cs (cells' := 0) (slots' := 0) rfl rfl ?_
  have hq2 : r1 = 0 := hp
  subst hq2
  have hP : va_P g.1 vwCl [(h0, .inr (9, [.ref m_told, .ref m_read, .ref m_now, .ref m_readNow, .ref m_kept, .int 0, .int 1, .int 0, .ref m_tape, .int 0, .ref m_refused, .int 0, .int (-1), .int 0, .int 0, .int 0, .int 0, .int (-1), .ref m_ownLetters, .ref m_flats, .int 0, .ref m_corner, .ref m_wayX, .ref m_wayY, .ref m_normal, .ref m_low, .ref m_high, .ref m_clear, .ref m_ways, .ref m_canBe, .ref m_lain, .int 0, .ref m_fewestBy, .ref m_sortOf, .int 0, .ref m_seenFlange, .ref m_seenLength]))] H := hP
  have hD : va_D A [(h0, .inr (9, [.ref m_told, .ref m_read, .ref m_now, .ref m_readNow, .ref m_kept, .int 0, .int 1, .int 0, .ref m_tape, .int 0, .ref m_refused, .int 0, .int (-1), .int 0, .int 0, .int 0, .int 0, .int (-1), .ref m_ownLetters, .ref m_flats, .int 0, .ref m_corner, .ref m_wayX, .ref m_wayY, .ref m_normal, .ref m_low, .ref m_high, .ref m_clear, .ref m_ways, .ref m_canBe, .ref m_lain, .int 0, .ref m_fewestBy, .ref m_sortOf, .int 0, .ref m_seenFlange, .ref m_seenLength]))] := hD
  refine lv_if_ne (tgt := 10) hx hb dX9_normal_5 (by decide) (fun c5 => (c5 (by decide)).elim) (fun c5 => ?_)
  refine lv_iconst (v := 0) hx hb dX9_normal_8 (by decide) ?_
  exact zri (rm := { frames := 2, cells := 0, slots := 0, locals := 43 }) (v := 0) () hx hb hr hlocks (Nat.le_of_ble_eq_true rfl) (Nat.le_of_ble_eq_true rfl) (rfl) (hP.sub [] rfl) (hD.sub [] (by decide) rfl) hS dX9_normal_9
theorem dX9_clash_0 : decode cX9_clash 0 = .ok (.aload_n 0, 1) := by decide +kernel
theorem dX9_clash_1 : decode cX9_clash 1 = .ok (.iload_n 1, 1) := by decide +kernel
theorem dX9_clash_2 : decode cX9_clash 2 = .ok (.invokevirtual 310, 3) := by decide +kernel
theorem dX9_clash_5 : decode cX9_clash 5 = .ok (.ifCond .eq 8, 3) := by decide +kernel
theorem dX9_clash_13 : decode cX9_clash 13 = .ok (.iconst (-1), 1) := by decide +kernel
theorem dX9_clash_14 : decode cX9_clash 14 = .ok (.ireturn, 1) := by decide +kernel
set_option maxHeartbeats 4000000 in
set_option maxRecDepth 100000 in
theorem kX9_clash (l : Launch) (g : zL) (h0 : Nat) (x : Int32) (y : Int32) (m_told : Nat) (m_read : Nat) (m_now : Nat) (m_readNow : Nat) (m_kept : Nat) (m_tape : Nat) (m_refused : Nat) (m_ownLetters : Nat) (m_flats : Nat) (m_corner : Nat) (m_wayX : Nat) (m_wayY : Nat) (m_normal : Nat) (m_low : Nat) (m_high : Nat) (m_clear : Nat) (m_ways : Nat) (m_canBe : Nat) (m_lain : Nat) (m_fewestBy : Nat) (m_sortOf : Nat) (m_seenFlange : Nat) (m_seenLength : Nat) : zCi l g yX9_clash cX9_clash 6 (some .int) { frames := 1, cells := 0, slots := 0, locals := 21 } [.ref h0, .int x, .int y] [(h0, .inr (9, [.ref m_told, .ref m_read, .ref m_now, .ref m_readNow, .ref m_kept, .int 0, .int 1, .int 0, .ref m_tape, .int 0, .ref m_refused, .int 0, .int (-1), .int 0, .int 0, .int 0, .int 0, .int (-1), .ref m_ownLetters, .ref m_flats, .int 0, .ref m_corner, .ref m_wayX, .ref m_wayY, .ref m_normal, .ref m_low, .ref m_high, .ref m_clear, .ref m_ways, .ref m_canBe, .ref m_lain, .int 0, .ref m_fewestBy, .ref m_sortOf, .int 0, .ref m_seenFlange, .ref m_seenLength]))] (fun (r : Int32) (u : Unit) => r = (-1)) (fun (u : Unit) => [(h0, .inr (9, [.ref m_told, .ref m_read, .ref m_now, .ref m_readNow, .ref m_kept, .int 0, .int 1, .int 0, .ref m_tape, .int 0, .ref m_refused, .int 0, .int (-1), .int 0, .int 0, .int 0, .int 0, .int (-1), .ref m_ownLetters, .ref m_flats, .int 0, .ref m_corner, .ref m_wayX, .ref m_wayY, .ref m_normal, .ref m_low, .ref m_high, .ref m_clear, .ref m_ways, .ref m_canBe, .ref m_lain, .int 0, .ref m_fewestBy, .ref m_sortOf, .int 0, .ref m_seenFlange, .ref m_seenLength]))]) := by
  refine zCi.mk (by decide) (Nat.le_of_ble_eq_true rfl) ?_
  intro p e s m below meth c A hE hP hD hS ls hl
  obtain ⟨hx, hb, hr, hml, hown, hG, hlocks, hnm, hX, hA⟩ := hE
  have hown : s.vm.findClass RX9 = some m.cls := hown
  have hl : lv_has ls 6 [(0, .ref h0), (1, .int x), (2, .int y)] := hl
  refine lv_aload_n hx hb dX9_clash_0 rfl (lv_at hl 0 rfl) ?_
  refine lv_iload_n hx hb dX9_clash_1 rfl (lv_at hl 1 rfl) ?_
  refine zfi (wr := []) (va_runV (As := [.int x]) (rest := []) ⟨hx, hb, hml, hown, hG⟩ (kX9_isState l g h0 x m_told m_read m_now m_readNow m_kept m_tape m_refused m_ownLetters m_flats m_corner m_wayX m_wayY m_normal m_low m_high m_clear m_ways m_canBe m_lain m_fewestBy m_sortOf m_seenFlange m_seenLength _) ⟨callB_of 1 hG (zGood g1874) rfl rfl rfl (hG _ g211) (hG _ g1871) hX9_isState ⟨Nat.le_of_ble_eq_true rfl, Nat.le_of_ble_eq_true rfl⟩, hG _ g1873, hG _ g185⟩ (zpreV (va_recv hX.1 hP (ci := 9) (q0 := 0) rfl rfl) hX hP hD hS hA [0] rfl (by decide)) rfl rfl hl.1 rfl (lv_room (Nat.le_of_ble_eq_true rfl)) dX9_clash_2 ⟨Nat.le_of_ble_eq_true rfl, Nat.le_of_ble_eq_true rfl⟩) hP hD hS hA [0] [] rfl rfl (by decide) (by decide) (fun r1 _ H locs hp hP hD hS => ?_)
  refine W.cs (cells' := 0) (slots' := 0) rfl rfl ?_
  have hq2 : r1 = 0 := hp
  subst hq2
  have hP : va_P g.1 vwCl [(h0, .inr (9, [.ref m_told, .ref m_read, .ref m_now, .ref m_readNow, .ref m_kept, .int 0, .int 1, .int 0, .ref m_tape, .int 0, .ref m_refused, .int 0, .int (-1), .int 0, .int 0, .int 0, .int 0, .int (-1), .ref m_ownLetters, .ref m_flats, .int 0, .ref m_corner, .ref m_wayX, .ref m_wayY, .ref m_normal, .ref m_low, .ref m_high, .ref m_clear, .ref m_ways, .ref m_canBe, .ref m_lain, .int 0, .ref m_fewestBy, .ref m_sortOf, .int 0, .ref m_seenFlange, .ref m_seenLength]))] H := hP
  have hD : va_D A [(h0, .inr (9, [.ref m_told, .ref m_read, .ref m_now, .ref m_readNow, .ref m_kept, .int 0, .int 1, .int 0, .ref m_tape, .int 0, .ref m_refused, .int 0, .int (-1), .int 0, .int 0, .int 0, .int 0, .int (-1), .ref m_ownLetters, .ref m_flats, .int 0, .ref m_corner, .ref m_wayX, .ref m_wayY, .ref m_normal, .ref m_low, .ref m_high, .ref m_clear, .ref m_ways, .ref m_canBe, .ref m_lain, .int 0, .ref m_fewestBy, .ref m_sortOf, .int 0, .ref m_seenFlange, .ref m_seenLength]))] := hD
  refine lv_if_eq (tgt := 13) hx hb dX9_clash_5 (by decide) (fun c5 => ?_) (fun c5 => (c5 (by decide)).elim)
  refine lv_iconst (v := (-1)) hx hb dX9_clash_13 (by decide) ?_
  exact zri (rm := { frames := 1, cells := 0, slots := 0, locals := 21 }) (v := (-1)) () hx hb hr hlocks (Nat.le_of_ble_eq_true rfl) (Nat.le_of_ble_eq_true rfl) (rfl) hP hD hS dX9_clash_14
theorem dX9_meets_0 : decode cX9_meets 0 = .ok (.aload_n 0, 1) := by decide +kernel
theorem dX9_meets_1 : decode cX9_meets 1 = .ok (.iload_n 1, 1) := by decide +kernel
theorem dX9_meets_2 : decode cX9_meets 2 = .ok (.invokevirtual 235, 3) := by decide +kernel
theorem dX9_meets_5 : decode cX9_meets 5 = .ok (.ifCond .eq 21, 3) := by decide +kernel
theorem dX9_meets_26 : decode cX9_meets 26 = .ok (.iconst (-1), 1) := by decide +kernel
theorem dX9_meets_27 : decode cX9_meets 27 = .ok (.ireturn, 1) := by decide +kernel
set_option maxHeartbeats 4000000 in
set_option maxRecDepth 100000 in
theorem kX9_meets (l : Launch) (g : zL) (h0 : Nat) (x : Int32) (y : Int32) (m_told : Nat) (m_read : Nat) (m_now : Nat) (m_readNow : Nat) (m_kept : Nat) (m_tape : Nat) (m_refused : Nat) (m_ownLetters : Nat) (m_flats : Nat) (m_corner : Nat) (m_wayX : Nat) (m_wayY : Nat) (m_normal : Nat) (m_low : Nat) (m_high : Nat) (m_clear : Nat) (m_ways : Nat) (m_canBe : Nat) (m_lain : Nat) (m_fewestBy : Nat) (m_sortOf : Nat) (m_seenFlange : Nat) (m_seenLength : Nat) : zCi l g yX9_meets cX9_meets 3 (some .int) { frames := 2, cells := 0, slots := 0, locals := 43 } [.ref h0, .int x, .int y] [(h0, .inr (9, [.ref m_told, .ref m_read, .ref m_now, .ref m_readNow, .ref m_kept, .int 0, .int 1, .int 0, .ref m_tape, .int 0, .ref m_refused, .int 0, .int (-1), .int 0, .int 0, .int 0, .int 0, .int (-1), .ref m_ownLetters, .ref m_flats, .int 0, .ref m_corner, .ref m_wayX, .ref m_wayY, .ref m_normal, .ref m_low, .ref m_high, .ref m_clear, .ref m_ways, .ref m_canBe, .ref m_lain, .int 0, .ref m_fewestBy, .ref m_sortOf, .int 0, .ref m_seenFlange, .ref m_seenLength]))] (fun (r : Int32) (u : Unit) => r = (-1)) (fun (u : Unit) => []) := by
  refine zCi.mk (by decide) (Nat.le_of_ble_eq_true rfl) ?_
  intro p e s m below meth c A hE hP hD hS ls hl
  obtain ⟨hx, hb, hr, hml, hown, hG, hlocks, hnm, hX, hA⟩ := hE
  have hown : s.vm.findClass RX9 = some m.cls := hown
  have hl : lv_has ls 3 [(0, .ref h0), (1, .int x), (2, .int y)] := hl
  refine lv_aload_n hx hb dX9_meets_0 rfl (lv_at hl 0 rfl) ?_
  refine lv_iload_n hx hb dX9_meets_1 rfl (lv_at hl 1 rfl) ?_
  refine zfi (wr := []) (va_runV (As := [.int x]) (rest := []) ⟨hx, hb, hml, hown, hG⟩ (kX9_isBend l g h0 x m_told m_read m_now m_readNow m_kept m_tape m_refused m_ownLetters m_flats m_corner m_wayX m_wayY m_normal m_low m_high m_clear m_ways m_canBe m_lain m_fewestBy m_sortOf m_seenFlange m_seenLength _) ⟨callB_of 1 hG (zGood g1673) rfl rfl rfl (hG _ g211) (hG _ g1670) hX9_isBend ⟨Nat.le_of_ble_eq_true rfl, Nat.le_of_ble_eq_true rfl⟩, hG _ g1672, hG _ g149⟩ (zpreV (va_recv hX.1 hP (ci := 9) (q0 := 0) rfl rfl) hX hP hD hS hA [0] rfl (by decide)) rfl rfl hl.1 rfl (lv_room (Nat.le_of_ble_eq_true rfl)) dX9_meets_2 ⟨Nat.le_of_ble_eq_true rfl, Nat.le_of_ble_eq_true rfl⟩) hP hD hS hA [0] [] rfl rfl (by decide) (by decide) (fun r1 _ H locs hp hP hD hS => ?_)
  refine W.cs (cells' := 0) (slots' := 0) rfl rfl ?_
  have hq2 : r1 = 0 := hp
  subst hq2
  have hP : va_P g.1 vwCl [(h0, .inr (9, [.ref m_told, .ref m_read, .ref m_now, .ref m_readNow, .ref m_kept, .int 0, .int 1, .int 0, .ref m_tape, .int 0, .ref m_refused, .int 0, .int (-1), .int 0, .int 0, .int 0, .int 0, .int (-1), .ref m_ownLetters, .ref m_flats, .int 0, .ref m_corner, .ref m_wayX, .ref m_wayY, .ref m_normal, .ref m_low, .ref m_high, .ref m_clear, .ref m_ways, .ref m_canBe, .ref m_lain, .int 0, .ref m_fewestBy, .ref m_sortOf, .int 0, .ref m_seenFlange, .ref m_seenLength]))] H := hP
  have hD : va_D A [(h0, .inr (9, [.ref m_told, .ref m_read, .ref m_now, .ref m_readNow, .ref m_kept, .int 0, .int 1, .int 0, .ref m_tape, .int 0, .ref m_refused, .int 0, .int (-1), .int 0, .int 0, .int 0, .int 0, .int (-1), .ref m_ownLetters, .ref m_flats, .int 0, .ref m_corner, .ref m_wayX, .ref m_wayY, .ref m_normal, .ref m_low, .ref m_high, .ref m_clear, .ref m_ways, .ref m_canBe, .ref m_lain, .int 0, .ref m_fewestBy, .ref m_sortOf, .int 0, .ref m_seenFlange, .ref m_seenLength]))] := hD
  refine lv_if_eq (tgt := 26) hx hb dX9_meets_5 (by decide) (fun c5 => ?_) (fun c5 => (c5 (by decide)).elim)
  refine lv_iconst (v := (-1)) hx hb dX9_meets_26 (by decide) ?_
  exact zri (rm := { frames := 2, cells := 0, slots := 0, locals := 43 }) (v := (-1)) () hx hb hr hlocks (Nat.le_of_ble_eq_true rfl) (Nat.le_of_ble_eq_true rfl) (rfl) (hP.sub [] rfl) (hD.sub [] (by decide) rfl) hS dX9_meets_27
theorem dX9_tools_0 : decode cX9_tools 0 = .ok (.aload_n 0, 1) := by decide +kernel
theorem dX9_tools_1 : decode cX9_tools 1 = .ok (.iload_n 1, 1) := by decide +kernel
theorem dX9_tools_2 : decode cX9_tools 2 = .ok (.invokevirtual 235, 3) := by decide +kernel
theorem dX9_tools_5 : decode cX9_tools 5 = .ok (.ifCond .eq 12, 3) := by decide +kernel
theorem dX9_tools_17 : decode cX9_tools 17 = .ok (.iconst (-1), 1) := by decide +kernel
theorem dX9_tools_18 : decode cX9_tools 18 = .ok (.ireturn, 1) := by decide +kernel
set_option maxHeartbeats 4000000 in
set_option maxRecDepth 100000 in
theorem kX9_tools (l : Launch) (g : zL) (h0 : Nat) (x : Int32) (y : Int32) (m_told : Nat) (m_read : Nat) (m_now : Nat) (m_readNow : Nat) (m_kept : Nat) (m_tape : Nat) (m_refused : Nat) (m_ownLetters : Nat) (m_flats : Nat) (m_corner : Nat) (m_wayX : Nat) (m_wayY : Nat) (m_normal : Nat) (m_low : Nat) (m_high : Nat) (m_clear : Nat) (m_ways : Nat) (m_canBe : Nat) (m_lain : Nat) (m_fewestBy : Nat) (m_sortOf : Nat) (m_seenFlange : Nat) (m_seenLength : Nat) : zCi l g yX9_tools cX9_tools 4 (some .int) { frames := 2, cells := 0, slots := 0, locals := 43 } [.ref h0, .int x, .int y] [(h0, .inr (9, [.ref m_told, .ref m_read, .ref m_now, .ref m_readNow, .ref m_kept, .int 0, .int 1, .int 0, .ref m_tape, .int 0, .ref m_refused, .int 0, .int (-1), .int 0, .int 0, .int 0, .int 0, .int (-1), .ref m_ownLetters, .ref m_flats, .int 0, .ref m_corner, .ref m_wayX, .ref m_wayY, .ref m_normal, .ref m_low, .ref m_high, .ref m_clear, .ref m_ways, .ref m_canBe, .ref m_lain, .int 0, .ref m_fewestBy, .ref m_sortOf, .int 0, .ref m_seenFlange, .ref m_seenLength]))] (fun (r : Int32) (u : Unit) => r = (-1)) (fun (u : Unit) => []) := by
  refine zCi.mk (by decide) (Nat.le_of_ble_eq_true rfl) ?_
  intro p e s m below meth c A hE hP hD hS ls hl
  obtain ⟨hx, hb, hr, hml, hown, hG, hlocks, hnm, hX, hA⟩ := hE
  have hown : s.vm.findClass RX9 = some m.cls := hown
  have hl : lv_has ls 4 [(0, .ref h0), (1, .int x), (2, .int y)] := hl
  refine lv_aload_n hx hb dX9_tools_0 rfl (lv_at hl 0 rfl) ?_
  refine lv_iload_n hx hb dX9_tools_1 rfl (lv_at hl 1 rfl) ?_
  refine zfi (wr := []) (va_runV (As := [.int x]) (rest := []) ⟨hx, hb, hml, hown, hG⟩ (kX9_isBend l g h0 x m_told m_read m_now m_readNow m_kept m_tape m_refused m_ownLetters m_flats m_corner m_wayX m_wayY m_normal m_low m_high m_clear m_ways m_canBe m_lain m_fewestBy m_sortOf m_seenFlange m_seenLength _) ⟨callB_of 1 hG (zGood g1673) rfl rfl rfl (hG _ g211) (hG _ g1670) hX9_isBend ⟨Nat.le_of_ble_eq_true rfl, Nat.le_of_ble_eq_true rfl⟩, hG _ g1672, hG _ g149⟩ (zpreV (va_recv hX.1 hP (ci := 9) (q0 := 0) rfl rfl) hX hP hD hS hA [0] rfl (by decide)) rfl rfl hl.1 rfl (lv_room (Nat.le_of_ble_eq_true rfl)) dX9_tools_2 ⟨Nat.le_of_ble_eq_true rfl, Nat.le_of_ble_eq_true rfl⟩) hP hD hS hA [0] [] rfl rfl (by decide) (by decide) (fun r1 _ H locs hp hP hD hS => ?_)
  refine W.cs (cells' := 0) (slots' := 0) rfl rfl ?_
  have hq2 : r1 = 0 := hp
  subst hq2
  have hP : va_P g.1 vwCl [(h0, .inr (9, [.ref m_told, .ref m_read, .ref m_now, .ref m_readNow, .ref m_kept, .int 0, .int 1, .int 0, .ref m_tape, .int 0, .ref m_refused, .int 0, .int (-1), .int 0, .int 0, .int 0, .int 0, .int (-1), .ref m_ownLetters, .ref m_flats, .int 0, .ref m_corner, .ref m_wayX, .ref m_wayY, .ref m_normal, .ref m_low, .ref m_high, .ref m_clear, .ref m_ways, .ref m_canBe, .ref m_lain, .int 0, .ref m_fewestBy, .ref m_sortOf, .int 0, .ref m_seenFlange, .ref m_seenLength]))] H := hP
  have hD : va_D A [(h0, .inr (9, [.ref m_told, .ref m_read, .ref m_now, .ref m_readNow, .ref m_kept, .int 0, .int 1, .int 0, .ref m_tape, .int 0, .ref m_refused, .int 0, .int (-1), .int 0, .int 0, .int 0, .int 0, .int (-1), .ref m_ownLetters, .ref m_flats, .int 0, .ref m_corner, .ref m_wayX, .ref m_wayY, .ref m_normal, .ref m_low, .ref m_high, .ref m_clear, .ref m_ways, .ref m_canBe, .ref m_lain, .int 0, .ref m_fewestBy, .ref m_sortOf, .int 0, .ref m_seenFlange, .ref m_seenLength]))] := hD
  refine lv_if_eq (tgt := 17) hx hb dX9_tools_5 (by decide) (fun c5 => ?_) (fun c5 => (c5 (by decide)).elim)
  refine lv_iconst (v := (-1)) hx hb dX9_tools_17 (by decide) ?_
  exact zri (rm := { frames := 2, cells := 0, slots := 0, locals := 43 }) (v := (-1)) () hx hb hr hlocks (Nat.le_of_ble_eq_true rfl) (Nat.le_of_ble_eq_true rfl) (rfl) (hP.sub [] rfl) (hD.sub [] (by decide) rfl) hS dX9_tools_18
theorem dX9_why_0 : decode cX9_why 0 = .ok (.aload_n 0, 1) := by decide +kernel
theorem dX9_why_1 : decode cX9_why 1 = .ok (.iload_n 1, 1) := by decide +kernel
theorem dX9_why_2 : decode cX9_why 2 = .ok (.invokevirtual 235, 3) := by decide +kernel
theorem dX9_why_5 : decode cX9_why 5 = .ok (.ifCond .eq 20, 3) := by decide +kernel
theorem dX9_why_25 : decode cX9_why 25 = .ok (.iconst (-1), 1) := by decide +kernel
theorem dX9_why_26 : decode cX9_why 26 = .ok (.ireturn, 1) := by decide +kernel
set_option maxHeartbeats 4000000 in
set_option maxRecDepth 100000 in
theorem kX9_why (l : Launch) (g : zL) (h0 : Nat) (x : Int32) (y : Int32) (m_told : Nat) (m_read : Nat) (m_now : Nat) (m_readNow : Nat) (m_kept : Nat) (m_tape : Nat) (m_refused : Nat) (m_ownLetters : Nat) (m_flats : Nat) (m_corner : Nat) (m_wayX : Nat) (m_wayY : Nat) (m_normal : Nat) (m_low : Nat) (m_high : Nat) (m_clear : Nat) (m_ways : Nat) (m_canBe : Nat) (m_lain : Nat) (m_fewestBy : Nat) (m_sortOf : Nat) (m_seenFlange : Nat) (m_seenLength : Nat) : zCi l g yX9_why cX9_why 3 (some .int) { frames := 2, cells := 0, slots := 0, locals := 43 } [.ref h0, .int x, .int y] [(h0, .inr (9, [.ref m_told, .ref m_read, .ref m_now, .ref m_readNow, .ref m_kept, .int 0, .int 1, .int 0, .ref m_tape, .int 0, .ref m_refused, .int 0, .int (-1), .int 0, .int 0, .int 0, .int 0, .int (-1), .ref m_ownLetters, .ref m_flats, .int 0, .ref m_corner, .ref m_wayX, .ref m_wayY, .ref m_normal, .ref m_low, .ref m_high, .ref m_clear, .ref m_ways, .ref m_canBe, .ref m_lain, .int 0, .ref m_fewestBy, .ref m_sortOf, .int 0, .ref m_seenFlange, .ref m_seenLength]))] (fun (r : Int32) (u : Unit) => r = (-1)) (fun (u : Unit) => []) := by
  refine zCi.mk (by decide) (Nat.le_of_ble_eq_true rfl) ?_
  intro p e s m below meth c A hE hP hD hS ls hl
  obtain ⟨hx, hb, hr, hml, hown, hG, hlocks, hnm, hX, hA⟩ := hE
  have hown : s.vm.findClass RX9 = some m.cls := hown
  have hl : lv_has ls 3 [(0, .ref h0), (1, .int x), (2, .int y)] := hl
  refine lv_aload_n hx hb dX9_why_0 rfl (lv_at hl 0 rfl) ?_
  refine lv_iload_n hx hb dX9_why_1 rfl (lv_at hl 1 rfl) ?_
  refine zfi (wr := []) (va_runV (As := [.int x]) (rest := []) ⟨hx, hb, hml, hown, hG⟩ (kX9_isBend l g h0 x m_told m_read m_now m_readNow m_kept m_tape m_refused m_ownLetters m_flats m_corner m_wayX m_wayY m_normal m_low m_high m_clear m_ways m_canBe m_lain m_fewestBy m_sortOf m_seenFlange m_seenLength _) ⟨callB_of 1 hG (zGood g1673) rfl rfl rfl (hG _ g211) (hG _ g1670) hX9_isBend ⟨Nat.le_of_ble_eq_true rfl, Nat.le_of_ble_eq_true rfl⟩, hG _ g1672, hG _ g149⟩ (zpreV (va_recv hX.1 hP (ci := 9) (q0 := 0) rfl rfl) hX hP hD hS hA [0] rfl (by decide)) rfl rfl hl.1 rfl (lv_room (Nat.le_of_ble_eq_true rfl)) dX9_why_2 ⟨Nat.le_of_ble_eq_true rfl, Nat.le_of_ble_eq_true rfl⟩) hP hD hS hA [0] [] rfl rfl (by decide) (by decide) (fun r1 _ H locs hp hP hD hS => ?_)
  refine W.cs (cells' := 0) (slots' := 0) rfl rfl ?_
  have hq2 : r1 = 0 := hp
  subst hq2
  have hP : va_P g.1 vwCl [(h0, .inr (9, [.ref m_told, .ref m_read, .ref m_now, .ref m_readNow, .ref m_kept, .int 0, .int 1, .int 0, .ref m_tape, .int 0, .ref m_refused, .int 0, .int (-1), .int 0, .int 0, .int 0, .int 0, .int (-1), .ref m_ownLetters, .ref m_flats, .int 0, .ref m_corner, .ref m_wayX, .ref m_wayY, .ref m_normal, .ref m_low, .ref m_high, .ref m_clear, .ref m_ways, .ref m_canBe, .ref m_lain, .int 0, .ref m_fewestBy, .ref m_sortOf, .int 0, .ref m_seenFlange, .ref m_seenLength]))] H := hP
  have hD : va_D A [(h0, .inr (9, [.ref m_told, .ref m_read, .ref m_now, .ref m_readNow, .ref m_kept, .int 0, .int 1, .int 0, .ref m_tape, .int 0, .ref m_refused, .int 0, .int (-1), .int 0, .int 0, .int 0, .int 0, .int (-1), .ref m_ownLetters, .ref m_flats, .int 0, .ref m_corner, .ref m_wayX, .ref m_wayY, .ref m_normal, .ref m_low, .ref m_high, .ref m_clear, .ref m_ways, .ref m_canBe, .ref m_lain, .int 0, .ref m_fewestBy, .ref m_sortOf, .int 0, .ref m_seenFlange, .ref m_seenLength]))] := hD
  refine lv_if_eq (tgt := 25) hx hb dX9_why_5 (by decide) (fun c5 => ?_) (fun c5 => (c5 (by decide)).elim)
  refine lv_iconst (v := (-1)) hx hb dX9_why_25 (by decide) ?_
  exact zri (rm := { frames := 2, cells := 0, slots := 0, locals := 43 }) (v := (-1)) () hx hb hr hlocks (Nat.le_of_ble_eq_true rfl) (Nat.le_of_ble_eq_true rfl) (rfl) (hP.sub [] rfl) (hD.sub [] (by decide) rfl) hS dX9_why_26
theorem dX9_orders_0 : decode cX9_orders 0 = .ok (.aload_n 0, 1) := by decide +kernel
theorem dX9_orders_1 : decode cX9_orders 1 = .ok (.getfield 32, 3) := by decide +kernel
theorem dX9_orders_4 : decode cX9_orders 4 = .ok (.ifCond .eq 10, 3) := by decide +kernel
theorem dX9_orders_14 : decode cX9_orders 14 = .ok (.iconst (-1), 1) := by decide +kernel
theorem dX9_orders_15 : decode cX9_orders 15 = .ok (.ireturn, 1) := by decide +kernel
set_option maxHeartbeats 4000000 in
set_option maxRecDepth 100000 in
theorem kX9_orders (l : Launch) (g : zL) (h0 : Nat) (m_told : Nat) (m_read : Nat) (m_now : Nat) (m_readNow : Nat) (m_kept : Nat) (m_tape : Nat) (m_refused : Nat) (m_ownLetters : Nat) (m_flats : Nat) (m_corner : Nat) (m_wayX : Nat) (m_wayY : Nat) (m_normal : Nat) (m_low : Nat) (m_high : Nat) (m_clear : Nat) (m_ways : Nat) (m_canBe : Nat) (m_lain : Nat) (m_fewestBy : Nat) (m_sortOf : Nat) (m_seenFlange : Nat) (m_seenLength : Nat) : zCi l g yX9_orders cX9_orders 1 (some .int) { frames := 0, cells := 0, slots := 0, locals := 0 } [.ref h0] [(h0, .inr (9, [.ref m_told, .ref m_read, .ref m_now, .ref m_readNow, .ref m_kept, .int 0, .int 1, .int 0, .ref m_tape, .int 0, .ref m_refused, .int 0, .int (-1), .int 0, .int 0, .int 0, .int 0, .int (-1), .ref m_ownLetters, .ref m_flats, .int 0, .ref m_corner, .ref m_wayX, .ref m_wayY, .ref m_normal, .ref m_low, .ref m_high, .ref m_clear, .ref m_ways, .ref m_canBe, .ref m_lain, .int 0, .ref m_fewestBy, .ref m_sortOf, .int 0, .ref m_seenFlange, .ref m_seenLength]))] (fun (r : Int32) (u : Unit) => r = (-1)) (fun (u : Unit) => []) := by
  refine zCi.mk (by decide) (Nat.le_of_ble_eq_true rfl) ?_
  intro p e s m below meth c A hE hP hD hS ls hl
  obtain ⟨hx, hb, hr, hml, hown, hG, hlocks, hnm, hX, hA⟩ := hE
  have hown : s.vm.findClass RX9 = some m.cls := hown
  have hl : lv_has ls 1 [(0, .ref h0)] := hl
  refine lv_aload_n hx hb dX9_orders_0 rfl (lv_at hl 0 rfl) ?_
  refine va_get (D := g.1) (ci := 9) (v := .int 0) (C := RX9) (T := TX9) (N := 37) hx hb hG iX9 hown hX.1 hP 0 rfl rfl 7 (by decide) (hG _ g1424) (fun _ h9 => h9) rfl dX9_orders_1 ?_
  refine lv_if_eq (tgt := 14) hx hb dX9_orders_4 (by decide) (fun c4 => ?_) (fun c4 => (c4 (by decide)).elim)
  refine lv_iconst (v := (-1)) hx hb dX9_orders_14 (by decide) ?_
  exact zri (rm := { frames := 0, cells := 0, slots := 0, locals := 0 }) (v := (-1)) () hx hb hr hlocks (Nat.le_of_ble_eq_true rfl) (Nat.le_of_ble_eq_true rfl) (rfl) (hP.sub [] rfl) (hD.sub [] (by decide) rfl) hS dX9_orders_15
theorem dX9_order_0 : decode cX9_order 0 = .ok (.aload_n 0, 1) := by decide +kernel
theorem dX9_order_1 : decode cX9_order 1 = .ok (.getfield 32, 3) := by decide +kernel
theorem dX9_order_4 : decode cX9_order 4 = .ok (.ifCond .eq 14, 3) := by decide +kernel
theorem dX9_order_18 : decode cX9_order 18 = .ok (.iconst (-1), 1) := by decide +kernel
theorem dX9_order_19 : decode cX9_order 19 = .ok (.ireturn, 1) := by decide +kernel
set_option maxHeartbeats 4000000 in
set_option maxRecDepth 100000 in
theorem kX9_order (l : Launch) (g : zL) (h0 : Nat) (x : Int32) (m_told : Nat) (m_read : Nat) (m_now : Nat) (m_readNow : Nat) (m_kept : Nat) (m_tape : Nat) (m_refused : Nat) (m_ownLetters : Nat) (m_flats : Nat) (m_corner : Nat) (m_wayX : Nat) (m_wayY : Nat) (m_normal : Nat) (m_low : Nat) (m_high : Nat) (m_clear : Nat) (m_ways : Nat) (m_canBe : Nat) (m_lain : Nat) (m_fewestBy : Nat) (m_sortOf : Nat) (m_seenFlange : Nat) (m_seenLength : Nat) : zCi l g yX9_order cX9_order 5 (some .int) { frames := 0, cells := 0, slots := 0, locals := 0 } [.ref h0, .int x] [(h0, .inr (9, [.ref m_told, .ref m_read, .ref m_now, .ref m_readNow, .ref m_kept, .int 0, .int 1, .int 0, .ref m_tape, .int 0, .ref m_refused, .int 0, .int (-1), .int 0, .int 0, .int 0, .int 0, .int (-1), .ref m_ownLetters, .ref m_flats, .int 0, .ref m_corner, .ref m_wayX, .ref m_wayY, .ref m_normal, .ref m_low, .ref m_high, .ref m_clear, .ref m_ways, .ref m_canBe, .ref m_lain, .int 0, .ref m_fewestBy, .ref m_sortOf, .int 0, .ref m_seenFlange, .ref m_seenLength]))] (fun (r : Int32) (u : Unit) => r = (-1)) (fun (u : Unit) => [(h0, .inr (9, [.ref m_told, .ref m_read, .ref m_now, .ref m_readNow, .ref m_kept, .int 0, .int 1, .int 0, .ref m_tape, .int 0, .ref m_refused, .int 0, .int (-1), .int 0, .int 0, .int 0, .int 0, .int (-1), .ref m_ownLetters, .ref m_flats, .int 0, .ref m_corner, .ref m_wayX, .ref m_wayY, .ref m_normal, .ref m_low, .ref m_high, .ref m_clear, .ref m_ways, .ref m_canBe, .ref m_lain, .int 0, .ref m_fewestBy, .ref m_sortOf, .int 0, .ref m_seenFlange, .ref m_seenLength]))]) := by
  refine zCi.mk (by decide) (Nat.le_of_ble_eq_true rfl) ?_
  intro p e s m below meth c A hE hP hD hS ls hl
  obtain ⟨hx, hb, hr, hml, hown, hG, hlocks, hnm, hX, hA⟩ := hE
  have hown : s.vm.findClass RX9 = some m.cls := hown
  have hl : lv_has ls 5 [(0, .ref h0), (1, .int x)] := hl
  refine lv_aload_n hx hb dX9_order_0 rfl (lv_at hl 0 rfl) ?_
  refine va_get (D := g.1) (ci := 9) (v := .int 0) (C := RX9) (T := TX9) (N := 37) hx hb hG iX9 hown hX.1 hP 0 rfl rfl 7 (by decide) (hG _ g1424) (fun _ h9 => h9) rfl dX9_order_1 ?_
  refine lv_if_eq (tgt := 18) hx hb dX9_order_4 (by decide) (fun c4 => ?_) (fun c4 => (c4 (by decide)).elim)
  refine lv_iconst (v := (-1)) hx hb dX9_order_18 (by decide) ?_
  exact zri (rm := { frames := 0, cells := 0, slots := 0, locals := 0 }) (v := (-1)) () hx hb hr hlocks (Nat.le_of_ble_eq_true rfl) (Nat.le_of_ble_eq_true rfl) (rfl) hP hD hS dX9_order_19
theorem dX9_mayBeLast_0 : decode cX9_mayBeLast 0 = .ok (.aload_n 0, 1) := by decide +kernel
theorem dX9_mayBeLast_1 : decode cX9_mayBeLast 1 = .ok (.iload_n 1, 1) := by decide +kernel
theorem dX9_mayBeLast_2 : decode cX9_mayBeLast 2 = .ok (.invokevirtual 235, 3) := by decide +kernel
theorem dX9_mayBeLast_5 : decode cX9_mayBeLast 5 = .ok (.ifCond .eq 11, 3) := by decide +kernel
theorem dX9_mayBeLast_16 : decode cX9_mayBeLast 16 = .ok (.iconst (-1), 1) := by decide +kernel
theorem dX9_mayBeLast_17 : decode cX9_mayBeLast 17 = .ok (.ireturn, 1) := by decide +kernel
set_option maxHeartbeats 4000000 in
set_option maxRecDepth 100000 in
theorem kX9_mayBeLast (l : Launch) (g : zL) (h0 : Nat) (x : Int32) (m_told : Nat) (m_read : Nat) (m_now : Nat) (m_readNow : Nat) (m_kept : Nat) (m_tape : Nat) (m_refused : Nat) (m_ownLetters : Nat) (m_flats : Nat) (m_corner : Nat) (m_wayX : Nat) (m_wayY : Nat) (m_normal : Nat) (m_low : Nat) (m_high : Nat) (m_clear : Nat) (m_ways : Nat) (m_canBe : Nat) (m_lain : Nat) (m_fewestBy : Nat) (m_sortOf : Nat) (m_seenFlange : Nat) (m_seenLength : Nat) : zCi l g yX9_mayBeLast cX9_mayBeLast 3 (some .int) { frames := 2, cells := 0, slots := 0, locals := 43 } [.ref h0, .int x] [(h0, .inr (9, [.ref m_told, .ref m_read, .ref m_now, .ref m_readNow, .ref m_kept, .int 0, .int 1, .int 0, .ref m_tape, .int 0, .ref m_refused, .int 0, .int (-1), .int 0, .int 0, .int 0, .int 0, .int (-1), .ref m_ownLetters, .ref m_flats, .int 0, .ref m_corner, .ref m_wayX, .ref m_wayY, .ref m_normal, .ref m_low, .ref m_high, .ref m_clear, .ref m_ways, .ref m_canBe, .ref m_lain, .int 0, .ref m_fewestBy, .ref m_sortOf, .int 0, .ref m_seenFlange, .ref m_seenLength]))] (fun (r : Int32) (u : Unit) => r = (-1)) (fun (u : Unit) => []) := by
  refine zCi.mk (by decide) (Nat.le_of_ble_eq_true rfl) ?_
  intro p e s m below meth c A hE hP hD hS ls hl
  obtain ⟨hx, hb, hr, hml, hown, hG, hlocks, hnm, hX, hA⟩ := hE
  have hown : s.vm.findClass RX9 = some m.cls := hown
  have hl : lv_has ls 3 [(0, .ref h0), (1, .int x)] := hl
  refine lv_aload_n hx hb dX9_mayBeLast_0 rfl (lv_at hl 0 rfl) ?_
  refine lv_iload_n hx hb dX9_mayBeLast_1 rfl (lv_at hl 1 rfl) ?_
  refine zfi (wr := []) (va_runV (As := [.int x]) (rest := []) ⟨hx, hb, hml, hown, hG⟩ (kX9_isBend l g h0 x m_told m_read m_now m_readNow m_kept m_tape m_refused m_ownLetters m_flats m_corner m_wayX m_wayY m_normal m_low m_high m_clear m_ways m_canBe m_lain m_fewestBy m_sortOf m_seenFlange m_seenLength _) ⟨callB_of 1 hG (zGood g1673) rfl rfl rfl (hG _ g211) (hG _ g1670) hX9_isBend ⟨Nat.le_of_ble_eq_true rfl, Nat.le_of_ble_eq_true rfl⟩, hG _ g1672, hG _ g149⟩ (zpreV (va_recv hX.1 hP (ci := 9) (q0 := 0) rfl rfl) hX hP hD hS hA [0] rfl (by decide)) rfl rfl hl.1 rfl (lv_room (Nat.le_of_ble_eq_true rfl)) dX9_mayBeLast_2 ⟨Nat.le_of_ble_eq_true rfl, Nat.le_of_ble_eq_true rfl⟩) hP hD hS hA [0] [] rfl rfl (by decide) (by decide) (fun r1 _ H locs hp hP hD hS => ?_)
  refine W.cs (cells' := 0) (slots' := 0) rfl rfl ?_
  have hq2 : r1 = 0 := hp
  subst hq2
  have hP : va_P g.1 vwCl [(h0, .inr (9, [.ref m_told, .ref m_read, .ref m_now, .ref m_readNow, .ref m_kept, .int 0, .int 1, .int 0, .ref m_tape, .int 0, .ref m_refused, .int 0, .int (-1), .int 0, .int 0, .int 0, .int 0, .int (-1), .ref m_ownLetters, .ref m_flats, .int 0, .ref m_corner, .ref m_wayX, .ref m_wayY, .ref m_normal, .ref m_low, .ref m_high, .ref m_clear, .ref m_ways, .ref m_canBe, .ref m_lain, .int 0, .ref m_fewestBy, .ref m_sortOf, .int 0, .ref m_seenFlange, .ref m_seenLength]))] H := hP
  have hD : va_D A [(h0, .inr (9, [.ref m_told, .ref m_read, .ref m_now, .ref m_readNow, .ref m_kept, .int 0, .int 1, .int 0, .ref m_tape, .int 0, .ref m_refused, .int 0, .int (-1), .int 0, .int 0, .int 0, .int 0, .int (-1), .ref m_ownLetters, .ref m_flats, .int 0, .ref m_corner, .ref m_wayX, .ref m_wayY, .ref m_normal, .ref m_low, .ref m_high, .ref m_clear, .ref m_ways, .ref m_canBe, .ref m_lain, .int 0, .ref m_fewestBy, .ref m_sortOf, .int 0, .ref m_seenFlange, .ref m_seenLength]))] := hD
  refine lv_if_eq (tgt := 16) hx hb dX9_mayBeLast_5 (by decide) (fun c5 => ?_) (fun c5 => (c5 (by decide)).elim)
  refine lv_iconst (v := (-1)) hx hb dX9_mayBeLast_16 (by decide) ?_
  exact zri (rm := { frames := 2, cells := 0, slots := 0, locals := 43 }) (v := (-1)) () hx hb hr hlocks (Nat.le_of_ble_eq_true rfl) (Nat.le_of_ble_eq_true rfl) (rfl) (hP.sub [] rfl) (hD.sub [] (by decide) rfl) hS dX9_mayBeLast_17
theorem dX9_ahead_0 : decode cX9_ahead 0 = .ok (.aload_n 0, 1) := by decide +kernel
theorem dX9_ahead_1 : decode cX9_ahead 1 = .ok (.iload_n 1, 1) := by decide +kernel
theorem dX9_ahead_2 : decode cX9_ahead 2 = .ok (.invokevirtual 235, 3) := by decide +kernel
theorem dX9_ahead_5 : decode cX9_ahead 5 = .ok (.ifCond .eq 32, 3) := by decide +kernel
theorem dX9_ahead_37 : decode cX9_ahead 37 = .ok (.iconst (-1), 1) := by decide +kernel
theorem dX9_ahead_38 : decode cX9_ahead 38 = .ok (.ireturn, 1) := by decide +kernel
set_option maxHeartbeats 4000000 in
set_option maxRecDepth 100000 in
theorem kX9_ahead (l : Launch) (g : zL) (h0 : Nat) (x : Int32) (y : Int32) (m_told : Nat) (m_read : Nat) (m_now : Nat) (m_readNow : Nat) (m_kept : Nat) (m_tape : Nat) (m_refused : Nat) (m_ownLetters : Nat) (m_flats : Nat) (m_corner : Nat) (m_wayX : Nat) (m_wayY : Nat) (m_normal : Nat) (m_low : Nat) (m_high : Nat) (m_clear : Nat) (m_ways : Nat) (m_canBe : Nat) (m_lain : Nat) (m_fewestBy : Nat) (m_sortOf : Nat) (m_seenFlange : Nat) (m_seenLength : Nat) : zCi l g yX9_ahead cX9_ahead 4 (some .int) { frames := 2, cells := 0, slots := 0, locals := 43 } [.ref h0, .int x, .int y] [(h0, .inr (9, [.ref m_told, .ref m_read, .ref m_now, .ref m_readNow, .ref m_kept, .int 0, .int 1, .int 0, .ref m_tape, .int 0, .ref m_refused, .int 0, .int (-1), .int 0, .int 0, .int 0, .int 0, .int (-1), .ref m_ownLetters, .ref m_flats, .int 0, .ref m_corner, .ref m_wayX, .ref m_wayY, .ref m_normal, .ref m_low, .ref m_high, .ref m_clear, .ref m_ways, .ref m_canBe, .ref m_lain, .int 0, .ref m_fewestBy, .ref m_sortOf, .int 0, .ref m_seenFlange, .ref m_seenLength]))] (fun (r : Int32) (u : Unit) => r = (-1)) (fun (u : Unit) => []) := by
  refine zCi.mk (by decide) (Nat.le_of_ble_eq_true rfl) ?_
  intro p e s m below meth c A hE hP hD hS ls hl
  obtain ⟨hx, hb, hr, hml, hown, hG, hlocks, hnm, hX, hA⟩ := hE
  have hown : s.vm.findClass RX9 = some m.cls := hown
  have hl : lv_has ls 4 [(0, .ref h0), (1, .int x), (2, .int y)] := hl
  refine lv_aload_n hx hb dX9_ahead_0 rfl (lv_at hl 0 rfl) ?_
  refine lv_iload_n hx hb dX9_ahead_1 rfl (lv_at hl 1 rfl) ?_
  refine zfi (wr := []) (va_runV (As := [.int x]) (rest := []) ⟨hx, hb, hml, hown, hG⟩ (kX9_isBend l g h0 x m_told m_read m_now m_readNow m_kept m_tape m_refused m_ownLetters m_flats m_corner m_wayX m_wayY m_normal m_low m_high m_clear m_ways m_canBe m_lain m_fewestBy m_sortOf m_seenFlange m_seenLength _) ⟨callB_of 1 hG (zGood g1673) rfl rfl rfl (hG _ g211) (hG _ g1670) hX9_isBend ⟨Nat.le_of_ble_eq_true rfl, Nat.le_of_ble_eq_true rfl⟩, hG _ g1672, hG _ g149⟩ (zpreV (va_recv hX.1 hP (ci := 9) (q0 := 0) rfl rfl) hX hP hD hS hA [0] rfl (by decide)) rfl rfl hl.1 rfl (lv_room (Nat.le_of_ble_eq_true rfl)) dX9_ahead_2 ⟨Nat.le_of_ble_eq_true rfl, Nat.le_of_ble_eq_true rfl⟩) hP hD hS hA [0] [] rfl rfl (by decide) (by decide) (fun r1 _ H locs hp hP hD hS => ?_)
  refine W.cs (cells' := 0) (slots' := 0) rfl rfl ?_
  have hq2 : r1 = 0 := hp
  subst hq2
  have hP : va_P g.1 vwCl [(h0, .inr (9, [.ref m_told, .ref m_read, .ref m_now, .ref m_readNow, .ref m_kept, .int 0, .int 1, .int 0, .ref m_tape, .int 0, .ref m_refused, .int 0, .int (-1), .int 0, .int 0, .int 0, .int 0, .int (-1), .ref m_ownLetters, .ref m_flats, .int 0, .ref m_corner, .ref m_wayX, .ref m_wayY, .ref m_normal, .ref m_low, .ref m_high, .ref m_clear, .ref m_ways, .ref m_canBe, .ref m_lain, .int 0, .ref m_fewestBy, .ref m_sortOf, .int 0, .ref m_seenFlange, .ref m_seenLength]))] H := hP
  have hD : va_D A [(h0, .inr (9, [.ref m_told, .ref m_read, .ref m_now, .ref m_readNow, .ref m_kept, .int 0, .int 1, .int 0, .ref m_tape, .int 0, .ref m_refused, .int 0, .int (-1), .int 0, .int 0, .int 0, .int 0, .int (-1), .ref m_ownLetters, .ref m_flats, .int 0, .ref m_corner, .ref m_wayX, .ref m_wayY, .ref m_normal, .ref m_low, .ref m_high, .ref m_clear, .ref m_ways, .ref m_canBe, .ref m_lain, .int 0, .ref m_fewestBy, .ref m_sortOf, .int 0, .ref m_seenFlange, .ref m_seenLength]))] := hD
  refine lv_if_eq (tgt := 37) hx hb dX9_ahead_5 (by decide) (fun c5 => ?_) (fun c5 => (c5 (by decide)).elim)
  refine lv_iconst (v := (-1)) hx hb dX9_ahead_37 (by decide) ?_
  exact zri (rm := { frames := 2, cells := 0, slots := 0, locals := 43 }) (v := (-1)) () hx hb hr hlocks (Nat.le_of_ble_eq_true rfl) (Nat.le_of_ble_eq_true rfl) (rfl) (hP.sub [] rfl) (hD.sub [] (by decide) rfl) hS dX9_ahead_38
theorem dX9_reached_0 : decode cX9_reached 0 = .ok (.aload_n 0, 1) := by decide +kernel
theorem dX9_reached_1 : decode cX9_reached 1 = .ok (.getfield 32, 3) := by decide +kernel
theorem dX9_reached_4 : decode cX9_reached 4 = .ok (.ifCond .eq 12, 3) := by decide +kernel
theorem dX9_reached_16 : decode cX9_reached 16 = .ok (.iconst (-1), 1) := by decide +kernel
theorem dX9_reached_17 : decode cX9_reached 17 = .ok (.ireturn, 1) := by decide +kernel
set_option maxHeartbeats 4000000 in
set_option maxRecDepth 100000 in
theorem kX9_reached (l : Launch) (g : zL) (h0 : Nat) (x : Int32) (m_told : Nat) (m_read : Nat) (m_now : Nat) (m_readNow : Nat) (m_kept : Nat) (m_tape : Nat) (m_refused : Nat) (m_ownLetters : Nat) (m_flats : Nat) (m_corner : Nat) (m_wayX : Nat) (m_wayY : Nat) (m_normal : Nat) (m_low : Nat) (m_high : Nat) (m_clear : Nat) (m_ways : Nat) (m_canBe : Nat) (m_lain : Nat) (m_fewestBy : Nat) (m_sortOf : Nat) (m_seenFlange : Nat) (m_seenLength : Nat) : zCi l g yX9_reached cX9_reached 5 (some .int) { frames := 0, cells := 0, slots := 0, locals := 0 } [.ref h0, .int x] [(h0, .inr (9, [.ref m_told, .ref m_read, .ref m_now, .ref m_readNow, .ref m_kept, .int 0, .int 1, .int 0, .ref m_tape, .int 0, .ref m_refused, .int 0, .int (-1), .int 0, .int 0, .int 0, .int 0, .int (-1), .ref m_ownLetters, .ref m_flats, .int 0, .ref m_corner, .ref m_wayX, .ref m_wayY, .ref m_normal, .ref m_low, .ref m_high, .ref m_clear, .ref m_ways, .ref m_canBe, .ref m_lain, .int 0, .ref m_fewestBy, .ref m_sortOf, .int 0, .ref m_seenFlange, .ref m_seenLength]))] (fun (r : Int32) (u : Unit) => r = (-1)) (fun (u : Unit) => []) := by
  refine zCi.mk (by decide) (Nat.le_of_ble_eq_true rfl) ?_
  intro p e s m below meth c A hE hP hD hS ls hl
  obtain ⟨hx, hb, hr, hml, hown, hG, hlocks, hnm, hX, hA⟩ := hE
  have hown : s.vm.findClass RX9 = some m.cls := hown
  have hl : lv_has ls 5 [(0, .ref h0), (1, .int x)] := hl
  refine lv_aload_n hx hb dX9_reached_0 rfl (lv_at hl 0 rfl) ?_
  refine va_get (D := g.1) (ci := 9) (v := .int 0) (C := RX9) (T := TX9) (N := 37) hx hb hG iX9 hown hX.1 hP 0 rfl rfl 7 (by decide) (hG _ g1424) (fun _ h9 => h9) rfl dX9_reached_1 ?_
  refine lv_if_eq (tgt := 16) hx hb dX9_reached_4 (by decide) (fun c4 => ?_) (fun c4 => (c4 (by decide)).elim)
  refine lv_iconst (v := (-1)) hx hb dX9_reached_16 (by decide) ?_
  exact zri (rm := { frames := 0, cells := 0, slots := 0, locals := 0 }) (v := (-1)) () hx hb hr hlocks (Nat.le_of_ble_eq_true rfl) (Nat.le_of_ble_eq_true rfl) (rfl) (hP.sub [] rfl) (hD.sub [] (by decide) rfl) hS dX9_reached_17
theorem dX9_fewest_0 : decode cX9_fewest 0 = .ok (.aload_n 0, 1) := by decide +kernel
theorem dX9_fewest_1 : decode cX9_fewest 1 = .ok (.getfield 32, 3) := by decide +kernel
theorem dX9_fewest_4 : decode cX9_fewest 4 = .ok (.ifCond .eq 12, 3) := by decide +kernel
theorem dX9_fewest_16 : decode cX9_fewest 16 = .ok (.iconst (-1), 1) := by decide +kernel
theorem dX9_fewest_17 : decode cX9_fewest 17 = .ok (.ireturn, 1) := by decide +kernel
set_option maxHeartbeats 4000000 in
set_option maxRecDepth 100000 in
theorem kX9_fewest (l : Launch) (g : zL) (h0 : Nat) (x : Int32) (m_told : Nat) (m_read : Nat) (m_now : Nat) (m_readNow : Nat) (m_kept : Nat) (m_tape : Nat) (m_refused : Nat) (m_ownLetters : Nat) (m_flats : Nat) (m_corner : Nat) (m_wayX : Nat) (m_wayY : Nat) (m_normal : Nat) (m_low : Nat) (m_high : Nat) (m_clear : Nat) (m_ways : Nat) (m_canBe : Nat) (m_lain : Nat) (m_fewestBy : Nat) (m_sortOf : Nat) (m_seenFlange : Nat) (m_seenLength : Nat) : zCi l g yX9_fewest cX9_fewest 2 (some .int) { frames := 0, cells := 0, slots := 0, locals := 0 } [.ref h0, .int x] [(h0, .inr (9, [.ref m_told, .ref m_read, .ref m_now, .ref m_readNow, .ref m_kept, .int 0, .int 1, .int 0, .ref m_tape, .int 0, .ref m_refused, .int 0, .int (-1), .int 0, .int 0, .int 0, .int 0, .int (-1), .ref m_ownLetters, .ref m_flats, .int 0, .ref m_corner, .ref m_wayX, .ref m_wayY, .ref m_normal, .ref m_low, .ref m_high, .ref m_clear, .ref m_ways, .ref m_canBe, .ref m_lain, .int 0, .ref m_fewestBy, .ref m_sortOf, .int 0, .ref m_seenFlange, .ref m_seenLength]))] (fun (r : Int32) (u : Unit) => r = (-1)) (fun (u : Unit) => [(h0, .inr (9, [.ref m_told, .ref m_read, .ref m_now, .ref m_readNow, .ref m_kept, .int 0, .int 1, .int 0, .ref m_tape, .int 0, .ref m_refused, .int 0, .int (-1), .int 0, .int 0, .int 0, .int 0, .int (-1), .ref m_ownLetters, .ref m_flats, .int 0, .ref m_corner, .ref m_wayX, .ref m_wayY, .ref m_normal, .ref m_low, .ref m_high, .ref m_clear, .ref m_ways, .ref m_canBe, .ref m_lain, .int 0, .ref m_fewestBy, .ref m_sortOf, .int 0, .ref m_seenFlange, .ref m_seenLength]))]) := by
  refine zCi.mk (by decide) (Nat.le_of_ble_eq_true rfl) ?_
  intro p e s m below meth c A hE hP hD hS ls hl
  obtain ⟨hx, hb, hr, hml, hown, hG, hlocks, hnm, hX, hA⟩ := hE
  have hown : s.vm.findClass RX9 = some m.cls := hown
  have hl : lv_has ls 2 [(0, .ref h0), (1, .int x)] := hl
  refine lv_aload_n hx hb dX9_fewest_0 rfl (lv_at hl 0 rfl) ?_
  refine va_get (D := g.1) (ci := 9) (v := .int 0) (C := RX9) (T := TX9) (N := 37) hx hb hG iX9 hown hX.1 hP 0 rfl rfl 7 (by decide) (hG _ g1424) (fun _ h9 => h9) rfl dX9_fewest_1 ?_
  refine lv_if_eq (tgt := 16) hx hb dX9_fewest_4 (by decide) (fun c4 => ?_) (fun c4 => (c4 (by decide)).elim)
  refine lv_iconst (v := (-1)) hx hb dX9_fewest_16 (by decide) ?_
  exact zri (rm := { frames := 0, cells := 0, slots := 0, locals := 0 }) (v := (-1)) () hx hb hr hlocks (Nat.le_of_ble_eq_true rfl) (Nat.le_of_ble_eq_true rfl) (rfl) hP hD hS dX9_fewest_17
theorem dX9_thrifty_0 : decode cX9_thrifty 0 = .ok (.iload_n 2, 1) := by decide +kernel
theorem dX9_thrifty_1 : decode cX9_thrifty 1 = .ok (.ifCond .lt 12, 3) := by decide +kernel
theorem dX9_thrifty_13 : decode cX9_thrifty 13 = .ok (.iconst (-1), 1) := by decide +kernel
theorem dX9_thrifty_14 : decode cX9_thrifty 14 = .ok (.ireturn, 1) := by decide +kernel
theorem dX9_thrifty_4 : decode cX9_thrifty 4 = .ok (.aload_n 0, 1) := by decide +kernel
theorem dX9_thrifty_5 : decode cX9_thrifty 5 = .ok (.iload_n 1, 1) := by decide +kernel
theorem dX9_thrifty_6 : decode cX9_thrifty 6 = .ok (.invokevirtual 369, 3) := by decide +kernel
theorem dX9_thrifty_9 : decode cX9_thrifty 9 = .ok (.iconst (-1), 1) := by decide +kernel
theorem dX9_thrifty_10 : decode cX9_thrifty 10 = .ok (.if_icmp .ne 5, 3) := by decide +kernel
set_option maxHeartbeats 4000000 in
set_option maxRecDepth 100000 in
theorem kX9_thrifty (l : Launch) (g : zL) (h0 : Nat) (x : Int32) (y : Int32) (m_told : Nat) (m_read : Nat) (m_now : Nat) (m_readNow : Nat) (m_kept : Nat) (m_tape : Nat) (m_refused : Nat) (m_ownLetters : Nat) (m_flats : Nat) (m_corner : Nat) (m_wayX : Nat) (m_wayY : Nat) (m_normal : Nat) (m_low : Nat) (m_high : Nat) (m_clear : Nat) (m_ways : Nat) (m_canBe : Nat) (m_lain : Nat) (m_fewestBy : Nat) (m_sortOf : Nat) (m_seenFlange : Nat) (m_seenLength : Nat) : zCi l g yX9_thrifty cX9_thrifty 7 (some .int) { frames := 1, cells := 0, slots := 0, locals := 21 } [.ref h0, .int x, .int y] [(h0, .inr (9, [.ref m_told, .ref m_read, .ref m_now, .ref m_readNow, .ref m_kept, .int 0, .int 1, .int 0, .ref m_tape, .int 0, .ref m_refused, .int 0, .int (-1), .int 0, .int 0, .int 0, .int 0, .int (-1), .ref m_ownLetters, .ref m_flats, .int 0, .ref m_corner, .ref m_wayX, .ref m_wayY, .ref m_normal, .ref m_low, .ref m_high, .ref m_clear, .ref m_ways, .ref m_canBe, .ref m_lain, .int 0, .ref m_fewestBy, .ref m_sortOf, .int 0, .ref m_seenFlange, .ref m_seenLength]))] (fun (r : Int32) (u : Unit) => r = (-1)) (fun (u : Unit) => []) := by
  refine zCi.mk (by decide) (Nat.le_of_ble_eq_true rfl) ?_
  intro p e s m below meth c A hE hP hD hS ls hl
  obtain ⟨hx, hb, hr, hml, hown, hG, hlocks, hnm, hX, hA⟩ := hE
  have hown : s.vm.findClass RX9 = some m.cls := hown
  have hl : lv_has ls 7 [(0, .ref h0), (1, .int x), (2, .int y)] := hl
  refine lv_iload_n hx hb dX9_thrifty_0 rfl (lv_at hl 2 rfl) ?_
  refine lv_if_lt (tgt := 13) hx hb dX9_thrifty_1 (by decide) (fun c1 => ?_) (fun c1 => ?_)
  · skip
    have c1i : y.toInt < 0 := (zc_lt (rfl : y.toInt = _) (show (0 : Int32).toInt = 0 from by decide)).mp c1
    refine lv_iconst (v := (-1)) hx hb dX9_thrifty_13 (by decide) ?_
    exact zri (rm := { frames := 1, cells := 0, slots := 0, locals := 21 }) (v := (-1)) () hx hb hr hlocks (Nat.le_of_ble_eq_true rfl) (Nat.le_of_ble_eq_true rfl) (rfl) (hP.sub [] rfl) (hD.sub [] (by decide) rfl) hS dX9_thrifty_14
  · skip
    have c1i : ¬ y.toInt < 0 := fun q => c1 ((zc_lt (rfl : y.toInt = _) (show (0 : Int32).toInt = 0 from by decide)).mpr q)
    refine lv_aload_n hx hb dX9_thrifty_4 rfl (lv_at hl 0 rfl) ?_
    refine lv_iload_n hx hb dX9_thrifty_5 rfl (lv_at hl 1 rfl) ?_
    refine zfi (wr := []) (va_runV (As := [.int x]) (rest := []) ⟨hx, hb, hml, hown, hG⟩ (kX9_fewest l g h0 x m_told m_read m_now m_readNow m_kept m_tape m_refused m_ownLetters m_flats m_corner m_wayX m_wayY m_normal m_low m_high m_clear m_ways m_canBe m_lain m_fewestBy m_sortOf m_seenFlange m_seenLength _) ⟨callB_of 1 hG (zGood g1931) rfl rfl rfl (hG _ g211) (hG _ g1944) hX9_fewest ⟨Nat.le_of_ble_eq_true rfl, Nat.le_of_ble_eq_true rfl⟩, hG _ g1929, hG _ g1930⟩ (zpreV (va_recv hX.1 hP (ci := 9) (q0 := 0) rfl rfl) hX hP hD hS hA [0] rfl (by decide)) rfl rfl hl.1 rfl (lv_room (Nat.le_of_ble_eq_true rfl)) dX9_thrifty_6 ⟨Nat.le_of_ble_eq_true rfl, Nat.le_of_ble_eq_true rfl⟩) hP hD hS hA [0] [] rfl rfl (by decide) (by decide) (fun r1 _ H locs hp hP hD hS => ?_)
    refine W.cs (cells' := 0) (slots' := 0) rfl rfl ?_
    have hq2 : r1 = (-1) := hp
    subst hq2
    have hP : va_P g.1 vwCl [(h0, .inr (9, [.ref m_told, .ref m_read, .ref m_now, .ref m_readNow, .ref m_kept, .int 0, .int 1, .int 0, .ref m_tape, .int 0, .ref m_refused, .int 0, .int (-1), .int 0, .int 0, .int 0, .int 0, .int (-1), .ref m_ownLetters, .ref m_flats, .int 0, .ref m_corner, .ref m_wayX, .ref m_wayY, .ref m_normal, .ref m_low, .ref m_high, .ref m_clear, .ref m_ways, .ref m_canBe, .ref m_lain, .int 0, .ref m_fewestBy, .ref m_sortOf, .int 0, .ref m_seenFlange, .ref m_seenLength]))] H := hP
    have hD : va_D A [(h0, .inr (9, [.ref m_told, .ref m_read, .ref m_now, .ref m_readNow, .ref m_kept, .int 0, .int 1, .int 0, .ref m_tape, .int 0, .ref m_refused, .int 0, .int (-1), .int 0, .int 0, .int 0, .int 0, .int (-1), .ref m_ownLetters, .ref m_flats, .int 0, .ref m_corner, .ref m_wayX, .ref m_wayY, .ref m_normal, .ref m_low, .ref m_high, .ref m_clear, .ref m_ways, .ref m_canBe, .ref m_lain, .int 0, .ref m_fewestBy, .ref m_sortOf, .int 0, .ref m_seenFlange, .ref m_seenLength]))] := hD
    refine lv_iconst (v := (-1)) hx hb dX9_thrifty_9 (by decide) ?_
    refine lv_icmp_ne (tgt := 15) hx hb dX9_thrifty_10 (by decide) (fun c10 => (c10 (by decide)).elim) (fun c10 => ?_)
    refine lv_iconst (v := (-1)) hx hb dX9_thrifty_13 (by decide) ?_
    exact zri (rm := { frames := 1, cells := 0, slots := 0, locals := 21 }) (v := (-1)) () hx hb hr hlocks (Nat.le_of_ble_eq_true rfl) (Nat.le_of_ble_eq_true rfl) (rfl) (hP.sub [] rfl) (hD.sub [] (by decide) rfl) hS dX9_thrifty_14
theorem dX9_tallest_0 : decode cX9_tallest 0 = .ok (.aload_n 0, 1) := by decide +kernel
theorem dX9_tallest_1 : decode cX9_tallest 1 = .ok (.getfield 32, 3) := by decide +kernel
theorem dX9_tallest_4 : decode cX9_tallest 4 = .ok (.ifCond .eq 11, 3) := by decide +kernel
theorem dX9_tallest_15 : decode cX9_tallest 15 = .ok (.iconst (-1), 1) := by decide +kernel
theorem dX9_tallest_16 : decode cX9_tallest 16 = .ok (.ireturn, 1) := by decide +kernel
set_option maxHeartbeats 4000000 in
set_option maxRecDepth 100000 in
theorem kX9_tallest (l : Launch) (g : zL) (h0 : Nat) (m_told : Nat) (m_read : Nat) (m_now : Nat) (m_readNow : Nat) (m_kept : Nat) (m_tape : Nat) (m_refused : Nat) (m_ownLetters : Nat) (m_flats : Nat) (m_corner : Nat) (m_wayX : Nat) (m_wayY : Nat) (m_normal : Nat) (m_low : Nat) (m_high : Nat) (m_clear : Nat) (m_ways : Nat) (m_canBe : Nat) (m_lain : Nat) (m_fewestBy : Nat) (m_sortOf : Nat) (m_seenFlange : Nat) (m_seenLength : Nat) : zCi l g yX9_tallest cX9_tallest 4 (some .int) { frames := 0, cells := 0, slots := 0, locals := 0 } [.ref h0] [(h0, .inr (9, [.ref m_told, .ref m_read, .ref m_now, .ref m_readNow, .ref m_kept, .int 0, .int 1, .int 0, .ref m_tape, .int 0, .ref m_refused, .int 0, .int (-1), .int 0, .int 0, .int 0, .int 0, .int (-1), .ref m_ownLetters, .ref m_flats, .int 0, .ref m_corner, .ref m_wayX, .ref m_wayY, .ref m_normal, .ref m_low, .ref m_high, .ref m_clear, .ref m_ways, .ref m_canBe, .ref m_lain, .int 0, .ref m_fewestBy, .ref m_sortOf, .int 0, .ref m_seenFlange, .ref m_seenLength]))] (fun (r : Int32) (u : Unit) => r = (-1)) (fun (u : Unit) => []) := by
  refine zCi.mk (by decide) (Nat.le_of_ble_eq_true rfl) ?_
  intro p e s m below meth c A hE hP hD hS ls hl
  obtain ⟨hx, hb, hr, hml, hown, hG, hlocks, hnm, hX, hA⟩ := hE
  have hown : s.vm.findClass RX9 = some m.cls := hown
  have hl : lv_has ls 4 [(0, .ref h0)] := hl
  refine lv_aload_n hx hb dX9_tallest_0 rfl (lv_at hl 0 rfl) ?_
  refine va_get (D := g.1) (ci := 9) (v := .int 0) (C := RX9) (T := TX9) (N := 37) hx hb hG iX9 hown hX.1 hP 0 rfl rfl 7 (by decide) (hG _ g1424) (fun _ h9 => h9) rfl dX9_tallest_1 ?_
  refine lv_if_eq (tgt := 15) hx hb dX9_tallest_4 (by decide) (fun c4 => ?_) (fun c4 => (c4 (by decide)).elim)
  refine lv_iconst (v := (-1)) hx hb dX9_tallest_15 (by decide) ?_
  exact zri (rm := { frames := 0, cells := 0, slots := 0, locals := 0 }) (v := (-1)) () hx hb hr hlocks (Nat.le_of_ble_eq_true rfl) (Nat.le_of_ble_eq_true rfl) (rfl) (hP.sub [] rfl) (hD.sub [] (by decide) rfl) hS dX9_tallest_16
theorem dX9_turned_0 : decode cX9_turned 0 = .ok (.aload_n 0, 1) := by decide +kernel
theorem dX9_turned_1 : decode cX9_turned 1 = .ok (.iload_n 1, 1) := by decide +kernel
theorem dX9_turned_2 : decode cX9_turned 2 = .ok (.invokevirtual 235, 3) := by decide +kernel
theorem dX9_turned_5 : decode cX9_turned 5 = .ok (.ifCond .eq 11, 3) := by decide +kernel
theorem dX9_turned_16 : decode cX9_turned 16 = .ok (.iconst (-1), 1) := by decide +kernel
theorem dX9_turned_17 : decode cX9_turned 17 = .ok (.ireturn, 1) := by decide +kernel
set_option maxHeartbeats 4000000 in
set_option maxRecDepth 100000 in
theorem kX9_turned (l : Launch) (g : zL) (h0 : Nat) (x : Int32) (m_told : Nat) (m_read : Nat) (m_now : Nat) (m_readNow : Nat) (m_kept : Nat) (m_tape : Nat) (m_refused : Nat) (m_ownLetters : Nat) (m_flats : Nat) (m_corner : Nat) (m_wayX : Nat) (m_wayY : Nat) (m_normal : Nat) (m_low : Nat) (m_high : Nat) (m_clear : Nat) (m_ways : Nat) (m_canBe : Nat) (m_lain : Nat) (m_fewestBy : Nat) (m_sortOf : Nat) (m_seenFlange : Nat) (m_seenLength : Nat) : zCi l g yX9_turned cX9_turned 3 (some .int) { frames := 2, cells := 0, slots := 0, locals := 43 } [.ref h0, .int x] [(h0, .inr (9, [.ref m_told, .ref m_read, .ref m_now, .ref m_readNow, .ref m_kept, .int 0, .int 1, .int 0, .ref m_tape, .int 0, .ref m_refused, .int 0, .int (-1), .int 0, .int 0, .int 0, .int 0, .int (-1), .ref m_ownLetters, .ref m_flats, .int 0, .ref m_corner, .ref m_wayX, .ref m_wayY, .ref m_normal, .ref m_low, .ref m_high, .ref m_clear, .ref m_ways, .ref m_canBe, .ref m_lain, .int 0, .ref m_fewestBy, .ref m_sortOf, .int 0, .ref m_seenFlange, .ref m_seenLength]))] (fun (r : Int32) (u : Unit) => r = (-1)) (fun (u : Unit) => []) := by
  refine zCi.mk (by decide) (Nat.le_of_ble_eq_true rfl) ?_
  intro p e s m below meth c A hE hP hD hS ls hl
  obtain ⟨hx, hb, hr, hml, hown, hG, hlocks, hnm, hX, hA⟩ := hE
  have hown : s.vm.findClass RX9 = some m.cls := hown
  have hl : lv_has ls 3 [(0, .ref h0), (1, .int x)] := hl
  refine lv_aload_n hx hb dX9_turned_0 rfl (lv_at hl 0 rfl) ?_
  refine lv_iload_n hx hb dX9_turned_1 rfl (lv_at hl 1 rfl) ?_
  refine zfi (wr := []) (va_runV (As := [.int x]) (rest := []) ⟨hx, hb, hml, hown, hG⟩ (kX9_isBend l g h0 x m_told m_read m_now m_readNow m_kept m_tape m_refused m_ownLetters m_flats m_corner m_wayX m_wayY m_normal m_low m_high m_clear m_ways m_canBe m_lain m_fewestBy m_sortOf m_seenFlange m_seenLength _) ⟨callB_of 1 hG (zGood g1673) rfl rfl rfl (hG _ g211) (hG _ g1670) hX9_isBend ⟨Nat.le_of_ble_eq_true rfl, Nat.le_of_ble_eq_true rfl⟩, hG _ g1672, hG _ g149⟩ (zpreV (va_recv hX.1 hP (ci := 9) (q0 := 0) rfl rfl) hX hP hD hS hA [0] rfl (by decide)) rfl rfl hl.1 rfl (lv_room (Nat.le_of_ble_eq_true rfl)) dX9_turned_2 ⟨Nat.le_of_ble_eq_true rfl, Nat.le_of_ble_eq_true rfl⟩) hP hD hS hA [0] [] rfl rfl (by decide) (by decide) (fun r1 _ H locs hp hP hD hS => ?_)
  refine W.cs (cells' := 0) (slots' := 0) rfl rfl ?_
  have hq2 : r1 = 0 := hp
  subst hq2
  have hP : va_P g.1 vwCl [(h0, .inr (9, [.ref m_told, .ref m_read, .ref m_now, .ref m_readNow, .ref m_kept, .int 0, .int 1, .int 0, .ref m_tape, .int 0, .ref m_refused, .int 0, .int (-1), .int 0, .int 0, .int 0, .int 0, .int (-1), .ref m_ownLetters, .ref m_flats, .int 0, .ref m_corner, .ref m_wayX, .ref m_wayY, .ref m_normal, .ref m_low, .ref m_high, .ref m_clear, .ref m_ways, .ref m_canBe, .ref m_lain, .int 0, .ref m_fewestBy, .ref m_sortOf, .int 0, .ref m_seenFlange, .ref m_seenLength]))] H := hP
  have hD : va_D A [(h0, .inr (9, [.ref m_told, .ref m_read, .ref m_now, .ref m_readNow, .ref m_kept, .int 0, .int 1, .int 0, .ref m_tape, .int 0, .ref m_refused, .int 0, .int (-1), .int 0, .int 0, .int 0, .int 0, .int (-1), .ref m_ownLetters, .ref m_flats, .int 0, .ref m_corner, .ref m_wayX, .ref m_wayY, .ref m_normal, .ref m_low, .ref m_high, .ref m_clear, .ref m_ways, .ref m_canBe, .ref m_lain, .int 0, .ref m_fewestBy, .ref m_sortOf, .int 0, .ref m_seenFlange, .ref m_seenLength]))] := hD
  refine lv_if_eq (tgt := 16) hx hb dX9_turned_5 (by decide) (fun c5 => ?_) (fun c5 => (c5 (by decide)).elim)
  refine lv_iconst (v := (-1)) hx hb dX9_turned_16 (by decide) ?_
  exact zri (rm := { frames := 2, cells := 0, slots := 0, locals := 43 }) (v := (-1)) () hx hb hr hlocks (Nat.le_of_ble_eq_true rfl) (Nat.le_of_ble_eq_true rfl) (rfl) (hP.sub [] rfl) (hD.sub [] (by decide) rfl) hS dX9_turned_17
theorem dX9_mends_0 : decode cX9_mends 0 = .ok (.aload_n 0, 1) := by decide +kernel
theorem dX9_mends_1 : decode cX9_mends 1 = .ok (.getfield 32, 3) := by decide +kernel
theorem dX9_mends_4 : decode cX9_mends 4 = .ok (.ifCond .ne 5, 3) := by decide +kernel
theorem dX9_mends_7 : decode cX9_mends 7 = .ok (.iconst (-1), 1) := by decide +kernel
theorem dX9_mends_8 : decode cX9_mends 8 = .ok (.ireturn, 1) := by decide +kernel
set_option maxHeartbeats 4000000 in
set_option maxRecDepth 100000 in
theorem kX9_mends (l : Launch) (g : zL) (h0 : Nat) (m_told : Nat) (m_read : Nat) (m_now : Nat) (m_readNow : Nat) (m_kept : Nat) (m_tape : Nat) (m_refused : Nat) (m_ownLetters : Nat) (m_flats : Nat) (m_corner : Nat) (m_wayX : Nat) (m_wayY : Nat) (m_normal : Nat) (m_low : Nat) (m_high : Nat) (m_clear : Nat) (m_ways : Nat) (m_canBe : Nat) (m_lain : Nat) (m_fewestBy : Nat) (m_sortOf : Nat) (m_seenFlange : Nat) (m_seenLength : Nat) : zCi l g yX9_mends cX9_mends 3 (some .int) { frames := 0, cells := 0, slots := 0, locals := 0 } [.ref h0] [(h0, .inr (9, [.ref m_told, .ref m_read, .ref m_now, .ref m_readNow, .ref m_kept, .int 0, .int 1, .int 0, .ref m_tape, .int 0, .ref m_refused, .int 0, .int (-1), .int 0, .int 0, .int 0, .int 0, .int (-1), .ref m_ownLetters, .ref m_flats, .int 0, .ref m_corner, .ref m_wayX, .ref m_wayY, .ref m_normal, .ref m_low, .ref m_high, .ref m_clear, .ref m_ways, .ref m_canBe, .ref m_lain, .int 0, .ref m_fewestBy, .ref m_sortOf, .int 0, .ref m_seenFlange, .ref m_seenLength]))] (fun (r : Int32) (u : Unit) => r = (-1)) (fun (u : Unit) => []) := by
  refine zCi.mk (by decide) (Nat.le_of_ble_eq_true rfl) ?_
  intro p e s m below meth c A hE hP hD hS ls hl
  obtain ⟨hx, hb, hr, hml, hown, hG, hlocks, hnm, hX, hA⟩ := hE
  have hown : s.vm.findClass RX9 = some m.cls := hown
  have hl : lv_has ls 3 [(0, .ref h0)] := hl
  refine lv_aload_n hx hb dX9_mends_0 rfl (lv_at hl 0 rfl) ?_
  refine va_get (D := g.1) (ci := 9) (v := .int 0) (C := RX9) (T := TX9) (N := 37) hx hb hG iX9 hown hX.1 hP 0 rfl rfl 7 (by decide) (hG _ g1424) (fun _ h9 => h9) rfl dX9_mends_1 ?_
  refine lv_if_ne (tgt := 9) hx hb dX9_mends_4 (by decide) (fun c4 => (c4 (by decide)).elim) (fun c4 => ?_)
  refine lv_iconst (v := (-1)) hx hb dX9_mends_7 (by decide) ?_
  exact zri (rm := { frames := 0, cells := 0, slots := 0, locals := 0 }) (v := (-1)) () hx hb hr hlocks (Nat.le_of_ble_eq_true rfl) (Nat.le_of_ble_eq_true rfl) (rfl) (hP.sub [] rfl) (hD.sub [] (by decide) rfl) hS dX9_mends_8
theorem dX9_lacks_0 : decode cX9_lacks 0 = .ok (.aload_n 0, 1) := by decide +kernel
theorem dX9_lacks_1 : decode cX9_lacks 1 = .ok (.getfield 32, 3) := by decide +kernel
theorem dX9_lacks_4 : decode cX9_lacks 4 = .ok (.ifCond .eq 12, 3) := by decide +kernel
theorem dX9_lacks_16 : decode cX9_lacks 16 = .ok (.iconst (-1), 1) := by decide +kernel
theorem dX9_lacks_17 : decode cX9_lacks 17 = .ok (.ireturn, 1) := by decide +kernel
set_option maxHeartbeats 4000000 in
set_option maxRecDepth 100000 in
theorem kX9_lacks (l : Launch) (g : zL) (h0 : Nat) (x : Int32) (m_told : Nat) (m_read : Nat) (m_now : Nat) (m_readNow : Nat) (m_kept : Nat) (m_tape : Nat) (m_refused : Nat) (m_ownLetters : Nat) (m_flats : Nat) (m_corner : Nat) (m_wayX : Nat) (m_wayY : Nat) (m_normal : Nat) (m_low : Nat) (m_high : Nat) (m_clear : Nat) (m_ways : Nat) (m_canBe : Nat) (m_lain : Nat) (m_fewestBy : Nat) (m_sortOf : Nat) (m_seenFlange : Nat) (m_seenLength : Nat) : zCi l g yX9_lacks cX9_lacks 5 (some .int) { frames := 0, cells := 0, slots := 0, locals := 0 } [.ref h0, .int x] [(h0, .inr (9, [.ref m_told, .ref m_read, .ref m_now, .ref m_readNow, .ref m_kept, .int 0, .int 1, .int 0, .ref m_tape, .int 0, .ref m_refused, .int 0, .int (-1), .int 0, .int 0, .int 0, .int 0, .int (-1), .ref m_ownLetters, .ref m_flats, .int 0, .ref m_corner, .ref m_wayX, .ref m_wayY, .ref m_normal, .ref m_low, .ref m_high, .ref m_clear, .ref m_ways, .ref m_canBe, .ref m_lain, .int 0, .ref m_fewestBy, .ref m_sortOf, .int 0, .ref m_seenFlange, .ref m_seenLength]))] (fun (r : Int32) (u : Unit) => r = (-1)) (fun (u : Unit) => []) := by
  refine zCi.mk (by decide) (Nat.le_of_ble_eq_true rfl) ?_
  intro p e s m below meth c A hE hP hD hS ls hl
  obtain ⟨hx, hb, hr, hml, hown, hG, hlocks, hnm, hX, hA⟩ := hE
  have hown : s.vm.findClass RX9 = some m.cls := hown
  have hl : lv_has ls 5 [(0, .ref h0), (1, .int x)] := hl
  refine lv_aload_n hx hb dX9_lacks_0 rfl (lv_at hl 0 rfl) ?_
  refine va_get (D := g.1) (ci := 9) (v := .int 0) (C := RX9) (T := TX9) (N := 37) hx hb hG iX9 hown hX.1 hP 0 rfl rfl 7 (by decide) (hG _ g1424) (fun _ h9 => h9) rfl dX9_lacks_1 ?_
  refine lv_if_eq (tgt := 16) hx hb dX9_lacks_4 (by decide) (fun c4 => ?_) (fun c4 => (c4 (by decide)).elim)
  refine lv_iconst (v := (-1)) hx hb dX9_lacks_16 (by decide) ?_
  exact zri (rm := { frames := 0, cells := 0, slots := 0, locals := 0 }) (v := (-1)) () hx hb hr hlocks (Nat.le_of_ble_eq_true rfl) (Nat.le_of_ble_eq_true rfl) (rfl) (hP.sub [] rfl) (hD.sub [] (by decide) rfl) hS dX9_lacks_17
theorem dX9_opens_0 : decode cX9_opens 0 = .ok (.aload_n 0, 1) := by decide +kernel
theorem dX9_opens_1 : decode cX9_opens 1 = .ok (.getfield 32, 3) := by decide +kernel
theorem dX9_opens_4 : decode cX9_opens 4 = .ok (.ifCond .ne 5, 3) := by decide +kernel
theorem dX9_opens_7 : decode cX9_opens 7 = .ok (.iconst (-1), 1) := by decide +kernel
theorem dX9_opens_8 : decode cX9_opens 8 = .ok (.ireturn, 1) := by decide +kernel
set_option maxHeartbeats 4000000 in
set_option maxRecDepth 100000 in
theorem kX9_opens (l : Launch) (g : zL) (h0 : Nat) (m_told : Nat) (m_read : Nat) (m_now : Nat) (m_readNow : Nat) (m_kept : Nat) (m_tape : Nat) (m_refused : Nat) (m_ownLetters : Nat) (m_flats : Nat) (m_corner : Nat) (m_wayX : Nat) (m_wayY : Nat) (m_normal : Nat) (m_low : Nat) (m_high : Nat) (m_clear : Nat) (m_ways : Nat) (m_canBe : Nat) (m_lain : Nat) (m_fewestBy : Nat) (m_sortOf : Nat) (m_seenFlange : Nat) (m_seenLength : Nat) : zCi l g yX9_opens cX9_opens 3 (some .int) { frames := 0, cells := 0, slots := 0, locals := 0 } [.ref h0] [(h0, .inr (9, [.ref m_told, .ref m_read, .ref m_now, .ref m_readNow, .ref m_kept, .int 0, .int 1, .int 0, .ref m_tape, .int 0, .ref m_refused, .int 0, .int (-1), .int 0, .int 0, .int 0, .int 0, .int (-1), .ref m_ownLetters, .ref m_flats, .int 0, .ref m_corner, .ref m_wayX, .ref m_wayY, .ref m_normal, .ref m_low, .ref m_high, .ref m_clear, .ref m_ways, .ref m_canBe, .ref m_lain, .int 0, .ref m_fewestBy, .ref m_sortOf, .int 0, .ref m_seenFlange, .ref m_seenLength]))] (fun (r : Int32) (u : Unit) => r = (-1)) (fun (u : Unit) => []) := by
  refine zCi.mk (by decide) (Nat.le_of_ble_eq_true rfl) ?_
  intro p e s m below meth c A hE hP hD hS ls hl
  obtain ⟨hx, hb, hr, hml, hown, hG, hlocks, hnm, hX, hA⟩ := hE
  have hown : s.vm.findClass RX9 = some m.cls := hown
  have hl : lv_has ls 3 [(0, .ref h0)] := hl
  refine lv_aload_n hx hb dX9_opens_0 rfl (lv_at hl 0 rfl) ?_
  refine va_get (D := g.1) (ci := 9) (v := .int 0) (C := RX9) (T := TX9) (N := 37) hx hb hG iX9 hown hX.1 hP 0 rfl rfl 7 (by decide) (hG _ g1424) (fun _ h9 => h9) rfl dX9_opens_1 ?_
  refine lv_if_ne (tgt := 9) hx hb dX9_opens_4 (by decide) (fun c4 => (c4 (by decide)).elim) (fun c4 => ?_)
  refine lv_iconst (v := (-1)) hx hb dX9_opens_7 (by decide) ?_
  exact zri (rm := { frames := 0, cells := 0, slots := 0, locals := 0 }) (v := (-1)) () hx hb hr hlocks (Nat.le_of_ble_eq_true rfl) (Nat.le_of_ble_eq_true rfl) (rfl) (hP.sub [] rfl) (hD.sub [] (by decide) rfl) hS dX9_opens_8
theorem dX9_smallest_0 : decode cX9_smallest 0 = .ok (.aload_n 0, 1) := by decide +kernel
theorem dX9_smallest_1 : decode cX9_smallest 1 = .ok (.getfield 32, 3) := by decide +kernel
theorem dX9_smallest_4 : decode cX9_smallest 4 = .ok (.ifCond .eq 12, 3) := by decide +kernel
theorem dX9_smallest_16 : decode cX9_smallest 16 = .ok (.iconst (-1), 1) := by decide +kernel
theorem dX9_smallest_17 : decode cX9_smallest 17 = .ok (.ireturn, 1) := by decide +kernel
set_option maxHeartbeats 4000000 in
set_option maxRecDepth 100000 in
theorem kX9_smallest (l : Launch) (g : zL) (h0 : Nat) (x : Int32) (m_told : Nat) (m_read : Nat) (m_now : Nat) (m_readNow : Nat) (m_kept : Nat) (m_tape : Nat) (m_refused : Nat) (m_ownLetters : Nat) (m_flats : Nat) (m_corner : Nat) (m_wayX : Nat) (m_wayY : Nat) (m_normal : Nat) (m_low : Nat) (m_high : Nat) (m_clear : Nat) (m_ways : Nat) (m_canBe : Nat) (m_lain : Nat) (m_fewestBy : Nat) (m_sortOf : Nat) (m_seenFlange : Nat) (m_seenLength : Nat) : zCi l g yX9_smallest cX9_smallest 6 (some .int) { frames := 0, cells := 0, slots := 0, locals := 0 } [.ref h0, .int x] [(h0, .inr (9, [.ref m_told, .ref m_read, .ref m_now, .ref m_readNow, .ref m_kept, .int 0, .int 1, .int 0, .ref m_tape, .int 0, .ref m_refused, .int 0, .int (-1), .int 0, .int 0, .int 0, .int 0, .int (-1), .ref m_ownLetters, .ref m_flats, .int 0, .ref m_corner, .ref m_wayX, .ref m_wayY, .ref m_normal, .ref m_low, .ref m_high, .ref m_clear, .ref m_ways, .ref m_canBe, .ref m_lain, .int 0, .ref m_fewestBy, .ref m_sortOf, .int 0, .ref m_seenFlange, .ref m_seenLength]))] (fun (r : Int32) (u : Unit) => r = (-1)) (fun (u : Unit) => []) := by
  refine zCi.mk (by decide) (Nat.le_of_ble_eq_true rfl) ?_
  intro p e s m below meth c A hE hP hD hS ls hl
  obtain ⟨hx, hb, hr, hml, hown, hG, hlocks, hnm, hX, hA⟩ := hE
  have hown : s.vm.findClass RX9 = some m.cls := hown
  have hl : lv_has ls 6 [(0, .ref h0), (1, .int x)] := hl
  refine lv_aload_n hx hb dX9_smallest_0 rfl (lv_at hl 0 rfl) ?_
  refine va_get (D := g.1) (ci := 9) (v := .int 0) (C := RX9) (T := TX9) (N := 37) hx hb hG iX9 hown hX.1 hP 0 rfl rfl 7 (by decide) (hG _ g1424) (fun _ h9 => h9) rfl dX9_smallest_1 ?_
  refine lv_if_eq (tgt := 16) hx hb dX9_smallest_4 (by decide) (fun c4 => ?_) (fun c4 => (c4 (by decide)).elim)
  refine lv_iconst (v := (-1)) hx hb dX9_smallest_16 (by decide) ?_
  exact zri (rm := { frames := 0, cells := 0, slots := 0, locals := 0 }) (v := (-1)) () hx hb hr hlocks (Nat.le_of_ble_eq_true rfl) (Nat.le_of_ble_eq_true rfl) (rfl) (hP.sub [] rfl) (hD.sub [] (by decide) rfl) hS dX9_smallest_17
theorem dX9_between_0 : decode cX9_between 0 = .ok (.aload_n 0, 1) := by decide +kernel
theorem dX9_between_1 : decode cX9_between 1 = .ok (.iload_n 1, 1) := by decide +kernel
theorem dX9_between_2 : decode cX9_between 2 = .ok (.invokevirtual 229, 3) := by decide +kernel
theorem dX9_between_5 : decode cX9_between 5 = .ok (.ifCond .eq 11, 3) := by decide +kernel
theorem dX9_between_16 : decode cX9_between 16 = .ok (.iconst (-1), 1) := by decide +kernel
theorem dX9_between_17 : decode cX9_between 17 = .ok (.ireturn, 1) := by decide +kernel
set_option maxHeartbeats 4000000 in
set_option maxRecDepth 100000 in
theorem kX9_between (l : Launch) (g : zL) (h0 : Nat) (x : Int32) (y : Int32) (m_told : Nat) (m_read : Nat) (m_now : Nat) (m_readNow : Nat) (m_kept : Nat) (m_tape : Nat) (m_refused : Nat) (m_ownLetters : Nat) (m_flats : Nat) (m_corner : Nat) (m_wayX : Nat) (m_wayY : Nat) (m_normal : Nat) (m_low : Nat) (m_high : Nat) (m_clear : Nat) (m_ways : Nat) (m_canBe : Nat) (m_lain : Nat) (m_fewestBy : Nat) (m_sortOf : Nat) (m_seenFlange : Nat) (m_seenLength : Nat) : zCi l g yX9_between cX9_between 6 (some .int) { frames := 2, cells := 0, slots := 0, locals := 43 } [.ref h0, .int x, .int y] [(h0, .inr (9, [.ref m_told, .ref m_read, .ref m_now, .ref m_readNow, .ref m_kept, .int 0, .int 1, .int 0, .ref m_tape, .int 0, .ref m_refused, .int 0, .int (-1), .int 0, .int 0, .int 0, .int 0, .int (-1), .ref m_ownLetters, .ref m_flats, .int 0, .ref m_corner, .ref m_wayX, .ref m_wayY, .ref m_normal, .ref m_low, .ref m_high, .ref m_clear, .ref m_ways, .ref m_canBe, .ref m_lain, .int 0, .ref m_fewestBy, .ref m_sortOf, .int 0, .ref m_seenFlange, .ref m_seenLength]))] (fun (r : Int32) (u : Unit) => r = (-1)) (fun (u : Unit) => []) := by
  refine zCi.mk (by decide) (Nat.le_of_ble_eq_true rfl) ?_
  intro p e s m below meth c A hE hP hD hS ls hl
  obtain ⟨hx, hb, hr, hml, hown, hG, hlocks, hnm, hX, hA⟩ := hE
  have hown : s.vm.findClass RX9 = some m.cls := hown
  have hl : lv_has ls 6 [(0, .ref h0), (1, .int x), (2, .int y)] := hl
  refine lv_aload_n hx hb dX9_between_0 rfl (lv_at hl 0 rfl) ?_
  refine lv_iload_n hx hb dX9_between_1 rfl (lv_at hl 1 rfl) ?_
  refine zfi (wr := []) (va_runV (As := [.int x]) (rest := []) ⟨hx, hb, hml, hown, hG⟩ (kX9_isFlange l g h0 x m_told m_read m_now m_readNow m_kept m_tape m_refused m_ownLetters m_flats m_corner m_wayX m_wayY m_normal m_low m_high m_clear m_ways m_canBe m_lain m_fewestBy m_sortOf m_seenFlange m_seenLength _) ⟨callB_of 1 hG (zGood g1661) rfl rfl rfl (hG _ g211) (hG _ g1658) hX9_isFlange ⟨Nat.le_of_ble_eq_true rfl, Nat.le_of_ble_eq_true rfl⟩, hG _ g1660, hG _ g147⟩ (zpreV (va_recv hX.1 hP (ci := 9) (q0 := 0) rfl rfl) hX hP hD hS hA [0] rfl (by decide)) rfl rfl hl.1 rfl (lv_room (Nat.le_of_ble_eq_true rfl)) dX9_between_2 ⟨Nat.le_of_ble_eq_true rfl, Nat.le_of_ble_eq_true rfl⟩) hP hD hS hA [0] [] rfl rfl (by decide) (by decide) (fun r1 _ H locs hp hP hD hS => ?_)
  refine W.cs (cells' := 0) (slots' := 0) rfl rfl ?_
  have hq2 : r1 = 0 := hp
  subst hq2
  have hP : va_P g.1 vwCl [(h0, .inr (9, [.ref m_told, .ref m_read, .ref m_now, .ref m_readNow, .ref m_kept, .int 0, .int 1, .int 0, .ref m_tape, .int 0, .ref m_refused, .int 0, .int (-1), .int 0, .int 0, .int 0, .int 0, .int (-1), .ref m_ownLetters, .ref m_flats, .int 0, .ref m_corner, .ref m_wayX, .ref m_wayY, .ref m_normal, .ref m_low, .ref m_high, .ref m_clear, .ref m_ways, .ref m_canBe, .ref m_lain, .int 0, .ref m_fewestBy, .ref m_sortOf, .int 0, .ref m_seenFlange, .ref m_seenLength]))] H := hP
  have hD : va_D A [(h0, .inr (9, [.ref m_told, .ref m_read, .ref m_now, .ref m_readNow, .ref m_kept, .int 0, .int 1, .int 0, .ref m_tape, .int 0, .ref m_refused, .int 0, .int (-1), .int 0, .int 0, .int 0, .int 0, .int (-1), .ref m_ownLetters, .ref m_flats, .int 0, .ref m_corner, .ref m_wayX, .ref m_wayY, .ref m_normal, .ref m_low, .ref m_high, .ref m_clear, .ref m_ways, .ref m_canBe, .ref m_lain, .int 0, .ref m_fewestBy, .ref m_sortOf, .int 0, .ref m_seenFlange, .ref m_seenLength]))] := hD
  refine lv_if_eq (tgt := 16) hx hb dX9_between_5 (by decide) (fun c5 => ?_) (fun c5 => (c5 (by decide)).elim)
  refine lv_iconst (v := (-1)) hx hb dX9_between_16 (by decide) ?_
  exact zri (rm := { frames := 2, cells := 0, slots := 0, locals := 43 }) (v := (-1)) () hx hb hr hlocks (Nat.le_of_ble_eq_true rfl) (Nat.le_of_ble_eq_true rfl) (rfl) (hP.sub [] rfl) (hD.sub [] (by decide) rfl) hS dX9_between_17
theorem dX9_taken_0 : decode cX9_taken 0 = .ok (.aload_n 0, 1) := by decide +kernel
theorem dX9_taken_1 : decode cX9_taken 1 = .ok (.getfield 39, 3) := by decide +kernel
theorem dX9_taken_4 : decode cX9_taken 4 = .ok (.istore_n 1, 1) := by decide +kernel
theorem dX9_taken_5 : decode cX9_taken 5 = .ok (.aload_n 0, 1) := by decide +kernel
theorem dX9_taken_6 : decode cX9_taken 6 = .ok (.iconst 0, 1) := by decide +kernel
theorem dX9_taken_7 : decode cX9_taken 7 = .ok (.putfield 39, 3) := by decide +kernel
theorem dX9_taken_10 : decode cX9_taken 10 = .ok (.iload_n 1, 1) := by decide +kernel
theorem dX9_taken_11 : decode cX9_taken 11 = .ok (.ireturn, 1) := by decide +kernel
set_option maxHeartbeats 4000000 in
set_option maxRecDepth 100000 in
theorem kX9_taken (l : Launch) (g : zL) (h0 : Nat) (m_told : Nat) (m_read : Nat) (m_now : Nat) (m_readNow : Nat) (m_kept : Nat) (m_tape : Nat) (m_refused : Nat) (m_ownLetters : Nat) (m_flats : Nat) (m_corner : Nat) (m_wayX : Nat) (m_wayY : Nat) (m_normal : Nat) (m_low : Nat) (m_high : Nat) (m_clear : Nat) (m_ways : Nat) (m_canBe : Nat) (m_lain : Nat) (m_fewestBy : Nat) (m_sortOf : Nat) (m_seenFlange : Nat) (m_seenLength : Nat) : zCi l g yX9_taken cX9_taken 2 (some .int) { frames := 0, cells := 0, slots := 0, locals := 0 } [.ref h0] [(h0, .inr (9, [.ref m_told, .ref m_read, .ref m_now, .ref m_readNow, .ref m_kept, .int 0, .int 1, .int 0, .ref m_tape, .int 0, .ref m_refused, .int 0, .int (-1), .int 0, .int 0, .int 0, .int 0, .int (-1), .ref m_ownLetters, .ref m_flats, .int 0, .ref m_corner, .ref m_wayX, .ref m_wayY, .ref m_normal, .ref m_low, .ref m_high, .ref m_clear, .ref m_ways, .ref m_canBe, .ref m_lain, .int 0, .ref m_fewestBy, .ref m_sortOf, .int 0, .ref m_seenFlange, .ref m_seenLength]))] (fun (r : Int32) (u : Unit) => r = 0) (fun (u : Unit) => [(h0, .inr (9, [.ref m_told, .ref m_read, .ref m_now, .ref m_readNow, .ref m_kept, .int 0, .int 1, .int 0, .ref m_tape, .int 0, .ref m_refused, .int 0, .int (-1), .int 0, .int 0, .int 0, .int 0, .int (-1), .ref m_ownLetters, .ref m_flats, .int 0, .ref m_corner, .ref m_wayX, .ref m_wayY, .ref m_normal, .ref m_low, .ref m_high, .ref m_clear, .ref m_ways, .ref m_canBe, .ref m_lain, .int 0, .ref m_fewestBy, .ref m_sortOf, .int 0, .ref m_seenFlange, .ref m_seenLength]))]) := by
  refine zCi.mk (by decide) (Nat.le_of_ble_eq_true rfl) ?_
  intro p e s m below meth c A hE hP hD hS ls hl
  obtain ⟨hx, hb, hr, hml, hown, hG, hlocks, hnm, hX, hA⟩ := hE
  have hown : s.vm.findClass RX9 = some m.cls := hown
  have hl : lv_has ls 2 [(0, .ref h0)] := hl
  refine lv_aload_n hx hb dX9_taken_0 rfl (lv_at hl 0 rfl) ?_
  refine va_get (D := g.1) (ci := 9) (v := .int 0) (C := RX9) (T := TX9) (N := 37) hx hb hG iX9 hown hX.1 hP 0 rfl rfl 9 (by decide) (hG _ g1426) (fun _ h9 => h9) rfl dX9_taken_1 ?_
  refine lv_istore_n (lv' := [(1, .int 0), (0, .ref h0)]) hx hb dX9_taken_4 rfl hl (by decide) rfl (fun ls hl => ?_)
  refine lv_aload_n hx hb dX9_taken_5 rfl (lv_at hl 1 rfl) ?_
  refine lv_iconst (v := 0) hx hb dX9_taken_6 (by decide) ?_
  refine va_put (D := g.1) (ci := 9) (v := .int 0) (ty := .int) (C := RX9) (T := TX9) (N := 37) hx hb hG iX9 tyX9 tyX9_ok nmX9 hown hX.1 hP hD hS 0 rfl rfl 9 (by decide) (hG _ g1426) (fun _ h9 => h9) rfl (by decide +kernel) rfl rfl (Nat.le_of_ble_eq_true rfl) dX9_taken_7 (fun H locs hP hD hS => ?_)
  have hP : va_P g.1 vwCl [(h0, .inr (9, [.ref m_told, .ref m_read, .ref m_now, .ref m_readNow, .ref m_kept, .int 0, .int 1, .int 0, .ref m_tape, .int 0, .ref m_refused, .int 0, .int (-1), .int 0, .int 0, .int 0, .int 0, .int (-1), .ref m_ownLetters, .ref m_flats, .int 0, .ref m_corner, .ref m_wayX, .ref m_wayY, .ref m_normal, .ref m_low, .ref m_high, .ref m_clear, .ref m_ways, .ref m_canBe, .ref m_lain, .int 0, .ref m_fewestBy, .ref m_sortOf, .int 0, .ref m_seenFlange, .ref m_seenLength]))] H := hP
  have hD : va_D A [(h0, .inr (9, [.ref m_told, .ref m_read, .ref m_now, .ref m_readNow, .ref m_kept, .int 0, .int 1, .int 0, .ref m_tape, .int 0, .ref m_refused, .int 0, .int (-1), .int 0, .int 0, .int 0, .int 0, .int (-1), .ref m_ownLetters, .ref m_flats, .int 0, .ref m_corner, .ref m_wayX, .ref m_wayY, .ref m_normal, .ref m_low, .ref m_high, .ref m_clear, .ref m_ways, .ref m_canBe, .ref m_lain, .int 0, .ref m_fewestBy, .ref m_sortOf, .int 0, .ref m_seenFlange, .ref m_seenLength]))] := hD
  refine lv_iload_n hx hb dX9_taken_10 rfl (lv_at hl 0 rfl) ?_
  exact zri (rm := { frames := 0, cells := 0, slots := 0, locals := 0 }) (v := 0) () hx hb hr hlocks (Nat.le_of_ble_eq_true rfl) (Nat.le_of_ble_eq_true rfl) (rfl) hP hD hS dX9_taken_11
theorem dX9_see_0 : decode cX9_see 0 = .ok (.aload_n 0, 1) := by decide +kernel
theorem dX9_see_1 : decode cX9_see 1 = .ok (.invokevirtual 210, 3) := by decide +kernel
theorem dX9_see_4 : decode cX9_see 4 = .ok (.istore_n 1, 1) := by decide +kernel
theorem dX9_see_5 : decode cX9_see 5 = .ok (.iload_n 1, 1) := by decide +kernel
theorem dX9_see_6 : decode cX9_see 6 = .ok (.ifCond .le 19, 3) := by decide +kernel
theorem dX9_see_25 : decode cX9_see 25 = .ok (.iconst 0, 1) := by decide +kernel
theorem dX9_see_26 : decode cX9_see 26 = .ok (.istore_n 2, 1) := by decide +kernel
theorem dX9_see_27 : decode cX9_see 27 = .ok (.iconst 0, 1) := by decide +kernel
theorem dX9_see_28 : decode cX9_see 28 = .ok (.istore_n 3, 1) := by decide +kernel
theorem dX9_see_29 : decode cX9_see 29 = .ok (.iload_n 3, 1) := by decide +kernel
theorem dX9_see_30 : decode cX9_see 30 = .ok (.iload_n 1, 1) := by decide +kernel
theorem dX9_see_31 : decode cX9_see 31 = .ok (.if_icmp .ge 24, 3) := by decide +kernel
theorem dX9_see_55 : decode cX9_see 55 = .ok (.iload_n 2, 1) := by decide +kernel
theorem dX9_see_56 : decode cX9_see 56 = .ok (.ifCond .ne 9, 3) := by decide +kernel
theorem dX9_see_59 : decode cX9_see 59 = .ok (.aload_n 0, 1) := by decide +kernel
theorem dX9_see_60 : decode cX9_see 60 = .ok (.iconst 5, 1) := by decide +kernel
theorem dX9_see_61 : decode cX9_see 61 = .ok (.invokevirtual 124, 3) := by decide +kernel
theorem dX9_see_64 : decode cX9_see 64 = .ok (.ireturn, 1) := by decide +kernel
set_option maxHeartbeats 4000000 in
set_option maxRecDepth 100000 in
theorem kX9_see (l : Launch) (g : zL) (h0 : Nat) (m_told : Nat) (m_read : Nat) (m_now : Nat) (m_readNow : Nat) (m_kept : Nat) (m_tape : Nat) (m_refused : Nat) (m_ownLetters : Nat) (m_flats : Nat) (m_corner : Nat) (m_wayX : Nat) (m_wayY : Nat) (m_normal : Nat) (m_low : Nat) (m_high : Nat) (m_clear : Nat) (m_ways : Nat) (m_canBe : Nat) (m_lain : Nat) (m_fewestBy : Nat) (m_sortOf : Nat) (m_seenFlange : Nat) (m_seenLength : Nat) (f : Nat → Int32) : zCi l g yX9_see cX9_see 4 (some .int) { frames := 1, cells := 0, slots := 0, locals := 21 } [.ref h0] [(h0, .inr (9, [.ref m_told, .ref m_read, .ref m_now, .ref m_readNow, .ref m_kept, .int 0, .int 1, .int 0, .ref m_tape, .int 0, .ref m_refused, .int 0, .int (-1), .int 0, .int 0, .int 0, .int 0, .int (-1), .ref m_ownLetters, .ref m_flats, .int 0, .ref m_corner, .ref m_wayX, .ref m_wayY, .ref m_normal, .ref m_low, .ref m_high, .ref m_clear, .ref m_ways, .ref m_canBe, .ref m_lain, .int 0, .ref m_fewestBy, .ref m_sortOf, .int 0, .ref m_seenFlange, .ref m_seenLength])), (m_refused, .inl (g.2.1.1, 6, .inl f))] (fun (r : Int32) (u : Unit) => r = (-1)) (fun (u : Unit) => []) := by
  refine zCi.mk (by decide) (Nat.le_of_ble_eq_true rfl) ?_
  intro p e s m below meth c A hE hP hD hS ls hl
  obtain ⟨hx, hb, hr, hml, hown, hG, hlocks, hnm, hX, hA⟩ := hE
  have hown : s.vm.findClass RX9 = some m.cls := hown
  have hl : lv_has ls 4 [(0, .ref h0)] := hl
  refine lv_aload_n hx hb dX9_see_0 rfl (lv_at hl 0 rfl) ?_
  refine zfi (wr := [(m_refused, .inl (g.2.1.1, 6, .inl f))]) (va_runV (As := []) (rest := []) ⟨hx, hb, hml, hown, hG⟩ (kX9_taken l g h0 m_told m_read m_now m_readNow m_kept m_tape m_refused m_ownLetters m_flats m_corner m_wayX m_wayY m_normal m_low m_high m_clear m_ways m_canBe m_lain m_fewestBy m_sortOf m_seenFlange m_seenLength _) ⟨callB_of 0 hG (zGood g1557) rfl rfl rfl (hG _ g211) (hG _ g1554) hX9_taken ⟨Nat.le_of_ble_eq_true rfl, Nat.le_of_ble_eq_true rfl⟩, hG _ g1556, hG _ g127⟩ (zpreV (va_recv hX.1 hP (ci := 9) (q0 := 0) rfl rfl) hX hP hD hS hA [0] rfl (by decide)) rfl rfl hl.1 rfl (lv_room (Nat.le_of_ble_eq_true rfl)) dX9_see_1 ⟨Nat.le_of_ble_eq_true rfl, Nat.le_of_ble_eq_true rfl⟩) hP hD hS hA [0] [1] rfl rfl (by decide) (by decide) (fun r1 _ H locs hp hP hD hS => ?_)
  refine W.cs (cells' := 0) (slots' := 0) rfl rfl ?_
  have hq2 : r1 = 0 := hp
  subst hq2
  have hP : va_P g.1 vwCl [(m_refused, .inl (g.2.1.1, 6, .inl f)), (h0, .inr (9, [.ref m_told, .ref m_read, .ref m_now, .ref m_readNow, .ref m_kept, .int 0, .int 1, .int 0, .ref m_tape, .int 0, .ref m_refused, .int 0, .int (-1), .int 0, .int 0, .int 0, .int 0, .int (-1), .ref m_ownLetters, .ref m_flats, .int 0, .ref m_corner, .ref m_wayX, .ref m_wayY, .ref m_normal, .ref m_low, .ref m_high, .ref m_clear, .ref m_ways, .ref m_canBe, .ref m_lain, .int 0, .ref m_fewestBy, .ref m_sortOf, .int 0, .ref m_seenFlange, .ref m_seenLength]))] H := hP
  have hD : va_D A [(m_refused, .inl (g.2.1.1, 6, .inl f)), (h0, .inr (9, [.ref m_told, .ref m_read, .ref m_now, .ref m_readNow, .ref m_kept, .int 0, .int 1, .int 0, .ref m_tape, .int 0, .ref m_refused, .int 0, .int (-1), .int 0, .int 0, .int 0, .int 0, .int (-1), .ref m_ownLetters, .ref m_flats, .int 0, .ref m_corner, .ref m_wayX, .ref m_wayY, .ref m_normal, .ref m_low, .ref m_high, .ref m_clear, .ref m_ways, .ref m_canBe, .ref m_lain, .int 0, .ref m_fewestBy, .ref m_sortOf, .int 0, .ref m_seenFlange, .ref m_seenLength]))] := hD
  refine lv_istore_n (lv' := [(1, .int 0), (0, .ref h0)]) hx hb dX9_see_4 rfl hl (by decide) rfl (fun ls hl => ?_)
  refine lv_iload_n hx hb dX9_see_5 rfl (lv_at hl 0 rfl) ?_
  refine lv_if_le (tgt := 25) hx hb dX9_see_6 (by decide) (fun c6 => ?_) (fun c6 => (c6 (by decide)).elim)
  refine lv_iconst (v := 0) hx hb dX9_see_25 (by decide) ?_
  refine lv_istore_n (lv' := [(2, .int 0), (1, .int 0), (0, .ref h0)]) hx hb dX9_see_26 rfl hl (by decide) rfl (fun ls hl => ?_)
  refine lv_iconst (v := 0) hx hb dX9_see_27 (by decide) ?_
  refine lv_istore_n (lv' := [(3, .int 0), (2, .int 0), (1, .int 0), (0, .ref h0)]) hx hb dX9_see_28 rfl hl (by decide) rfl (fun ls hl => ?_)
  refine lv_iload_n hx hb dX9_see_29 rfl (lv_at hl 0 rfl) ?_
  refine lv_iload_n hx hb dX9_see_30 rfl (lv_at hl 2 rfl) ?_
  refine lv_icmp_ge (tgt := 55) hx hb dX9_see_31 (by decide) (fun c31 => ?_) (fun c31 => (c31 (by decide)).elim)
  refine lv_iload_n hx hb dX9_see_55 rfl (lv_at hl 1 rfl) ?_
  refine lv_if_ne (tgt := 65) hx hb dX9_see_56 (by decide) (fun c56 => (c56 (by decide)).elim) (fun c56 => ?_)
  refine lv_aload_n hx hb dX9_see_59 rfl (lv_at hl 3 rfl) ?_
  refine lv_iconst (v := 5) hx hb dX9_see_60 (by decide) ?_
  refine zfi (wr := []) (va_runV (As := [.int 5]) (rest := []) ⟨hx, hb, hml, hown, hG⟩ (kX9_refuses5 l g h0 m_told m_read m_now m_readNow m_kept m_tape m_refused m_ownLetters m_flats m_corner m_wayX m_wayY m_normal m_low m_high m_clear m_ways m_canBe m_lain m_fewestBy m_sortOf m_seenFlange m_seenLength f _) ⟨callB_of 1 hG (zGood g1537) rfl rfl rfl (hG _ g211) (hG _ g1534) hX9_refuses ⟨Nat.le_of_ble_eq_true rfl, Nat.le_of_ble_eq_true rfl⟩, hG _ g1536, hG _ g124⟩ (zpreV (va_recv hX.1 hP (ci := 9) (q0 := 1) rfl rfl) hX hP hD hS hA [1, 0] rfl (by decide)) rfl rfl hl.1 rfl (lv_room (Nat.le_of_ble_eq_true rfl)) dX9_see_61 ⟨Nat.le_of_ble_eq_true rfl, Nat.le_of_ble_eq_true rfl⟩) hP hD hS hA [1, 0] [] rfl rfl (by decide) (by decide) (fun r3 u4 H locs hp hP hD hS => ?_)
  refine W.cs (cells' := 0) (slots' := 0) rfl rfl ?_
  have hq5 : r3 = (-1) := hp
  subst hq5
  have hP : va_P g.1 vwCl [(h0, .inr (9, [.ref m_told, .ref m_read, .ref m_now, .ref m_readNow, .ref m_kept, .int 0, .int 1, .int 0, .ref m_tape, .int 0, .ref m_refused, .int 0, .int (-1), .int 0, .int 0, .int 0, .int 0, .int (-1), .ref m_ownLetters, .ref m_flats, .int 0, .ref m_corner, .ref m_wayX, .ref m_wayY, .ref m_normal, .ref m_low, .ref m_high, .ref m_clear, .ref m_ways, .ref m_canBe, .ref m_lain, .int 0, .ref m_fewestBy, .ref m_sortOf, .int 0, .ref m_seenFlange, .ref m_seenLength])), (m_refused, .inl (g.2.1.1, 6, .inl u4))] H := hP
  have hD : va_D A [(h0, .inr (9, [.ref m_told, .ref m_read, .ref m_now, .ref m_readNow, .ref m_kept, .int 0, .int 1, .int 0, .ref m_tape, .int 0, .ref m_refused, .int 0, .int (-1), .int 0, .int 0, .int 0, .int 0, .int (-1), .ref m_ownLetters, .ref m_flats, .int 0, .ref m_corner, .ref m_wayX, .ref m_wayY, .ref m_normal, .ref m_low, .ref m_high, .ref m_clear, .ref m_ways, .ref m_canBe, .ref m_lain, .int 0, .ref m_fewestBy, .ref m_sortOf, .int 0, .ref m_seenFlange, .ref m_seenLength])), (m_refused, .inl (g.2.1.1, 6, .inl u4))] := hD
  exact zri (rm := { frames := 1, cells := 0, slots := 0, locals := 21 }) (v := (-1)) () hx hb hr hlocks (Nat.le_of_ble_eq_true rfl) (Nat.le_of_ble_eq_true rfl) (rfl) (hP.sub [] rfl) (hD.sub [] (by decide) rfl) hS dX9_see_64
theorem dX9_fits_0 : decode cX9_fits 0 = .ok (.aload_n 0, 1) := by decide +kernel
theorem dX9_fits_1 : decode cX9_fits 1 = .ok (.getfield 115, 3) := by decide +kernel
theorem dX9_fits_4 : decode cX9_fits 4 = .ok (.ifCond .eq 18, 3) := by decide +kernel
theorem dX9_fits_22 : decode cX9_fits 22 = .ok (.iconst (-1), 1) := by decide +kernel
theorem dX9_fits_23 : decode cX9_fits 23 = .ok (.ireturn, 1) := by decide +kernel
set_option maxHeartbeats 4000000 in
set_option maxRecDepth 100000 in
theorem kX9_fits (l : Launch) (g : zL) (h0 : Nat) (x : Int32) (y : Int32) (m_told : Nat) (m_read : Nat) (m_now : Nat) (m_readNow : Nat) (m_kept : Nat) (m_tape : Nat) (m_refused : Nat) (m_ownLetters : Nat) (m_flats : Nat) (m_corner : Nat) (m_wayX : Nat) (m_wayY : Nat) (m_normal : Nat) (m_low : Nat) (m_high : Nat) (m_clear : Nat) (m_ways : Nat) (m_canBe : Nat) (m_lain : Nat) (m_fewestBy : Nat) (m_sortOf : Nat) (m_seenFlange : Nat) (m_seenLength : Nat) : zCi l g yX9_fits cX9_fits 5 (some .int) { frames := 0, cells := 0, slots := 0, locals := 0 } [.ref h0, .int x, .int y] [(h0, .inr (9, [.ref m_told, .ref m_read, .ref m_now, .ref m_readNow, .ref m_kept, .int 0, .int 1, .int 0, .ref m_tape, .int 0, .ref m_refused, .int 0, .int (-1), .int 0, .int 0, .int 0, .int 0, .int (-1), .ref m_ownLetters, .ref m_flats, .int 0, .ref m_corner, .ref m_wayX, .ref m_wayY, .ref m_normal, .ref m_low, .ref m_high, .ref m_clear, .ref m_ways, .ref m_canBe, .ref m_lain, .int 0, .ref m_fewestBy, .ref m_sortOf, .int 0, .ref m_seenFlange, .ref m_seenLength]))] (fun (r : Int32) (u : Unit) => r = (-1)) (fun (u : Unit) => [(h0, .inr (9, [.ref m_told, .ref m_read, .ref m_now, .ref m_readNow, .ref m_kept, .int 0, .int 1, .int 0, .ref m_tape, .int 0, .ref m_refused, .int 0, .int (-1), .int 0, .int 0, .int 0, .int 0, .int (-1), .ref m_ownLetters, .ref m_flats, .int 0, .ref m_corner, .ref m_wayX, .ref m_wayY, .ref m_normal, .ref m_low, .ref m_high, .ref m_clear, .ref m_ways, .ref m_canBe, .ref m_lain, .int 0, .ref m_fewestBy, .ref m_sortOf, .int 0, .ref m_seenFlange, .ref m_seenLength]))]) := by
  refine zCi.mk (by decide) (Nat.le_of_ble_eq_true rfl) ?_
  intro p e s m below meth c A hE hP hD hS ls hl
  obtain ⟨hx, hb, hr, hml, hown, hG, hlocks, hnm, hX, hA⟩ := hE
  have hown : s.vm.findClass RX9 = some m.cls := hown
  have hl : lv_has ls 5 [(0, .ref h0), (1, .int x), (2, .int y)] := hl
  refine lv_aload_n hx hb dX9_fits_0 rfl (lv_at hl 0 rfl) ?_
  refine va_get (D := g.1) (ci := 9) (v := .int 0) (C := RX9) (T := TX9) (N := 37) hx hb hG iX9 hown hX.1 hP 0 rfl rfl 34 (by decide) (hG _ g1451) (fun _ h9 => h9) rfl dX9_fits_1 ?_
  refine lv_if_eq (tgt := 22) hx hb dX9_fits_4 (by decide) (fun c4 => ?_) (fun c4 => (c4 (by decide)).elim)
  refine lv_iconst (v := (-1)) hx hb dX9_fits_22 (by decide) ?_
  exact zri (rm := { frames := 0, cells := 0, slots := 0, locals := 0 }) (v := (-1)) () hx hb hr hlocks (Nat.le_of_ble_eq_true rfl) (Nat.le_of_ble_eq_true rfl) (rfl) hP hD hS dX9_fits_23
theorem dX9_tells_0 : decode cX9_tells 0 = .ok (.iload_n 2, 1) := by decide +kernel
theorem dX9_tells_1 : decode cX9_tells 1 = .ok (.iconst 0, 1) := by decide +kernel
theorem dX9_tells_2 : decode cX9_tells 2 = .ok (.iconst 1, 1) := by decide +kernel
theorem dX9_tells_3 : decode cX9_tells 3 = .ok (.invokestatic 163, 3) := by decide +kernel
theorem dX9_tells_6 : decode cX9_tells 6 = .ok (.ifCond .eq 13, 3) := by decide +kernel
theorem dX9_tells_19 : decode cX9_tells 19 = .ok (.iconst (-1), 1) := by decide +kernel
theorem dX9_tells_20 : decode cX9_tells 20 = .ok (.ireturn, 1) := by decide +kernel
theorem dX9_tells_9 : decode cX9_tells 9 = .ok (.aload_n 0, 1) := by decide +kernel
theorem dX9_tells_10 : decode cX9_tells 10 = .ok (.iload_n 1, 1) := by decide +kernel
theorem dX9_tells_11 : decode cX9_tells 11 = .ok (.iconst (-1), 1) := by decide +kernel
theorem dX9_tells_12 : decode cX9_tells 12 = .ok (.invokevirtual 384, 3) := by decide +kernel
theorem dX9_tells_15 : decode cX9_tells 15 = .ok (.iconst 1, 1) := by decide +kernel
theorem dX9_tells_16 : decode cX9_tells 16 = .ok (.if_icmp .ge 5, 3) := by decide +kernel
set_option maxHeartbeats 4000000 in
set_option maxRecDepth 100000 in
theorem kX9_tells (l : Launch) (g : zL) (h0 : Nat) (x : Int32) (y : Int32) (m_told : Nat) (m_read : Nat) (m_now : Nat) (m_readNow : Nat) (m_kept : Nat) (m_tape : Nat) (m_refused : Nat) (m_ownLetters : Nat) (m_flats : Nat) (m_corner : Nat) (m_wayX : Nat) (m_wayY : Nat) (m_normal : Nat) (m_low : Nat) (m_high : Nat) (m_clear : Nat) (m_ways : Nat) (m_canBe : Nat) (m_lain : Nat) (m_fewestBy : Nat) (m_sortOf : Nat) (m_seenFlange : Nat) (m_seenLength : Nat) : zCi l g yX9_tells cX9_tells 7 (some .int) { frames := 1, cells := 0, slots := 0, locals := 24 } [.ref h0, .int x, .int y] [(h0, .inr (9, [.ref m_told, .ref m_read, .ref m_now, .ref m_readNow, .ref m_kept, .int 0, .int 1, .int 0, .ref m_tape, .int 0, .ref m_refused, .int 0, .int (-1), .int 0, .int 0, .int 0, .int 0, .int (-1), .ref m_ownLetters, .ref m_flats, .int 0, .ref m_corner, .ref m_wayX, .ref m_wayY, .ref m_normal, .ref m_low, .ref m_high, .ref m_clear, .ref m_ways, .ref m_canBe, .ref m_lain, .int 0, .ref m_fewestBy, .ref m_sortOf, .int 0, .ref m_seenFlange, .ref m_seenLength]))] (fun (r : Int32) (u : Unit) => r = (-1)) (fun (u : Unit) => []) := by
  refine zCi.mk (by decide) (Nat.le_of_ble_eq_true rfl) ?_
  intro p e s m below meth c A hE hP hD hS ls hl
  obtain ⟨hx, hb, hr, hml, hown, hG, hlocks, hnm, hX, hA⟩ := hE
  have hown : s.vm.findClass RX9 = some m.cls := hown
  have hl : lv_has ls 7 [(0, .ref h0), (1, .int x), (2, .int y)] := hl
  refine lv_iload_n hx hb dX9_tells_0 rfl (lv_at hl 2 rfl) ?_
  refine lv_iconst (v := 0) hx hb dX9_tells_1 (by decide) ?_
  refine lv_iconst (v := 1) hx hb dX9_tells_2 (by decide) ?_
  refine zfi (wr := [(h0, .inr (9, [.ref m_told, .ref m_read, .ref m_now, .ref m_readNow, .ref m_kept, .int 0, .int 1, .int 0, .ref m_tape, .int 0, .ref m_refused, .int 0, .int (-1), .int 0, .int 0, .int 0, .int 0, .int (-1), .ref m_ownLetters, .ref m_flats, .int 0, .ref m_corner, .ref m_wayX, .ref m_wayY, .ref m_normal, .ref m_low, .ref m_high, .ref m_clear, .ref m_ways, .ref m_canBe, .ref m_lain, .int 0, .ref m_fewestBy, .ref m_sortOf, .int 0, .ref m_seenFlange, .ref m_seenLength]))]) (va_runS (As := [.int y, .int 0, .int 1]) (rest := []) ⟨hx, hb, hml, hown, hG⟩ (kX9_isIng l g y 0 1 _) ⟨callB_of 3 hG (zGood g1608) rfl rfl rfl (hG _ g211) (hG _ g1606) hX9_isIn ⟨Nat.le_of_ble_eq_true rfl, Nat.le_of_ble_eq_true rfl⟩, hG _ g1607⟩ (zpreS hX hP hD hS hA [] rfl (by decide)) rfl rfl hl.1 rfl (lv_room (Nat.le_of_ble_eq_true rfl)) dX9_tells_3 ⟨Nat.le_of_ble_eq_true rfl, Nat.le_of_ble_eq_true rfl⟩) hP hD hS hA [] [0] rfl rfl (by decide) (by decide) (fun r1 _ H locs hp hP hD hS => ?_)
  refine W.cs (cells' := 0) (slots' := 0) rfl rfl ?_
  have hq2 : r1 = sp_in y 0 1 := hp
  subst hq2
  have hP : va_P g.1 vwCl [(h0, .inr (9, [.ref m_told, .ref m_read, .ref m_now, .ref m_readNow, .ref m_kept, .int 0, .int 1, .int 0, .ref m_tape, .int 0, .ref m_refused, .int 0, .int (-1), .int 0, .int 0, .int 0, .int 0, .int (-1), .ref m_ownLetters, .ref m_flats, .int 0, .ref m_corner, .ref m_wayX, .ref m_wayY, .ref m_normal, .ref m_low, .ref m_high, .ref m_clear, .ref m_ways, .ref m_canBe, .ref m_lain, .int 0, .ref m_fewestBy, .ref m_sortOf, .int 0, .ref m_seenFlange, .ref m_seenLength]))] H := hP
  have hD : va_D A [(h0, .inr (9, [.ref m_told, .ref m_read, .ref m_now, .ref m_readNow, .ref m_kept, .int 0, .int 1, .int 0, .ref m_tape, .int 0, .ref m_refused, .int 0, .int (-1), .int 0, .int 0, .int 0, .int 0, .int (-1), .ref m_ownLetters, .ref m_flats, .int 0, .ref m_corner, .ref m_wayX, .ref m_wayY, .ref m_normal, .ref m_low, .ref m_high, .ref m_clear, .ref m_ways, .ref m_canBe, .ref m_lain, .int 0, .ref m_fewestBy, .ref m_sortOf, .int 0, .ref m_seenFlange, .ref m_seenLength]))] := hD
  refine lv_if_eq (tgt := 19) hx hb dX9_tells_6 (by decide) (fun c6 => ?_) (fun c6 => ?_)
  · skip
    have c6i : (sp_in y 0 1).toInt = 0 := (zc_eq (rfl : (sp_in y 0 1).toInt = _) (show (0 : Int32).toInt = 0 from by decide)).mp c6
    refine lv_iconst (v := (-1)) hx hb dX9_tells_19 (by decide) ?_
    exact zri (rm := { frames := 1, cells := 0, slots := 0, locals := 24 }) (v := (-1)) () hx hb hr hlocks (Nat.le_of_ble_eq_true rfl) (Nat.le_of_ble_eq_true rfl) (rfl) (hP.sub [] rfl) (hD.sub [] (by decide) rfl) hS dX9_tells_20
  · skip
    have c6i : ¬ (sp_in y 0 1).toInt = 0 := fun q => c6 ((zc_eq (rfl : (sp_in y 0 1).toInt = _) (show (0 : Int32).toInt = 0 from by decide)).mpr q)
    refine lv_aload_n hx hb dX9_tells_9 rfl (lv_at hl 0 rfl) ?_
    refine lv_iload_n hx hb dX9_tells_10 rfl (lv_at hl 1 rfl) ?_
    refine lv_iconst (v := (-1)) hx hb dX9_tells_11 (by decide) ?_
    refine zfi (wr := []) (va_runV (As := [.int x, .int (-1)]) (rest := []) ⟨hx, hb, hml, hown, hG⟩ (kX9_fits l g h0 x (-1) m_told m_read m_now m_readNow m_kept m_tape m_refused m_ownLetters m_flats m_corner m_wayX m_wayY m_normal m_low m_high m_clear m_ways m_canBe m_lain m_fewestBy m_sortOf m_seenFlange m_seenLength _) ⟨callB_of 2 hG (zGood g1976) rfl rfl rfl (hG _ g211) (hG _ g1989) hX9_fits ⟨Nat.le_of_ble_eq_true rfl, Nat.le_of_ble_eq_true rfl⟩, hG _ g1974, hG _ g1975⟩ (zpreV (va_recv hX.1 hP (ci := 9) (q0 := 0) rfl rfl) hX hP hD hS hA [0] rfl (by decide)) rfl rfl hl.1 rfl (lv_room (Nat.le_of_ble_eq_true rfl)) dX9_tells_12 ⟨Nat.le_of_ble_eq_true rfl, Nat.le_of_ble_eq_true rfl⟩) hP hD hS hA [0] [] rfl rfl (by decide) (by decide) (fun r3 _ H locs hp hP hD hS => ?_)
    refine W.cs (cells' := 0) (slots' := 0) rfl rfl ?_
    have hq4 : r3 = (-1) := hp
    subst hq4
    have hP : va_P g.1 vwCl [(h0, .inr (9, [.ref m_told, .ref m_read, .ref m_now, .ref m_readNow, .ref m_kept, .int 0, .int 1, .int 0, .ref m_tape, .int 0, .ref m_refused, .int 0, .int (-1), .int 0, .int 0, .int 0, .int 0, .int (-1), .ref m_ownLetters, .ref m_flats, .int 0, .ref m_corner, .ref m_wayX, .ref m_wayY, .ref m_normal, .ref m_low, .ref m_high, .ref m_clear, .ref m_ways, .ref m_canBe, .ref m_lain, .int 0, .ref m_fewestBy, .ref m_sortOf, .int 0, .ref m_seenFlange, .ref m_seenLength]))] H := hP
    have hD : va_D A [(h0, .inr (9, [.ref m_told, .ref m_read, .ref m_now, .ref m_readNow, .ref m_kept, .int 0, .int 1, .int 0, .ref m_tape, .int 0, .ref m_refused, .int 0, .int (-1), .int 0, .int 0, .int 0, .int 0, .int (-1), .ref m_ownLetters, .ref m_flats, .int 0, .ref m_corner, .ref m_wayX, .ref m_wayY, .ref m_normal, .ref m_low, .ref m_high, .ref m_clear, .ref m_ways, .ref m_canBe, .ref m_lain, .int 0, .ref m_fewestBy, .ref m_sortOf, .int 0, .ref m_seenFlange, .ref m_seenLength]))] := hD
    refine lv_iconst (v := 1) hx hb dX9_tells_15 (by decide) ?_
    refine lv_icmp_ge (tgt := 21) hx hb dX9_tells_16 (by decide) (fun c16 => absurd c16 (by decide)) (fun c16 => ?_)
    refine lv_iconst (v := (-1)) hx hb dX9_tells_19 (by decide) ?_
    exact zri (rm := { frames := 1, cells := 0, slots := 0, locals := 24 }) (v := (-1)) () hx hb hr hlocks (Nat.le_of_ble_eq_true rfl) (Nat.le_of_ble_eq_true rfl) (rfl) (hP.sub [] rfl) (hD.sub [] (by decide) rfl) hS dX9_tells_20
theorem dX9_bend_0 : decode cX9_bend 0 = .ok (.aload_n 0, 1) := by decide +kernel
theorem dX9_bend_1 : decode cX9_bend 1 = .ok (.iload_n 1, 1) := by decide +kernel
theorem dX9_bend_2 : decode cX9_bend 2 = .ok (.invokevirtual 235, 3) := by decide +kernel
theorem dX9_bend_5 : decode cX9_bend 5 = .ok (.ifCond .ne 9, 3) := by decide +kernel
theorem dX9_bend_8 : decode cX9_bend 8 = .ok (.aload_n 0, 1) := by decide +kernel
theorem dX9_bend_9 : decode cX9_bend 9 = .ok (.iconst 2, 1) := by decide +kernel
theorem dX9_bend_10 : decode cX9_bend 10 = .ok (.invokevirtual 124, 3) := by decide +kernel
theorem dX9_bend_13 : decode cX9_bend 13 = .ok (.ireturn, 1) := by decide +kernel
set_option maxHeartbeats 4000000 in
set_option maxRecDepth 100000 in
theorem kX9_bend (l : Launch) (g : zL) (h0 : Nat) (x : Int32) (m_told : Nat) (m_read : Nat) (m_now : Nat) (m_readNow : Nat) (m_kept : Nat) (m_tape : Nat) (m_refused : Nat) (m_ownLetters : Nat) (m_flats : Nat) (m_corner : Nat) (m_wayX : Nat) (m_wayY : Nat) (m_normal : Nat) (m_low : Nat) (m_high : Nat) (m_clear : Nat) (m_ways : Nat) (m_canBe : Nat) (m_lain : Nat) (m_fewestBy : Nat) (m_sortOf : Nat) (m_seenFlange : Nat) (m_seenLength : Nat) (f : Nat → Int32) : zCi l g yX9_bend cX9_bend 3 (some .int) { frames := 2, cells := 0, slots := 0, locals := 43 } [.ref h0, .int x] [(h0, .inr (9, [.ref m_told, .ref m_read, .ref m_now, .ref m_readNow, .ref m_kept, .int 0, .int 1, .int 0, .ref m_tape, .int 0, .ref m_refused, .int 0, .int (-1), .int 0, .int 0, .int 0, .int 0, .int (-1), .ref m_ownLetters, .ref m_flats, .int 0, .ref m_corner, .ref m_wayX, .ref m_wayY, .ref m_normal, .ref m_low, .ref m_high, .ref m_clear, .ref m_ways, .ref m_canBe, .ref m_lain, .int 0, .ref m_fewestBy, .ref m_sortOf, .int 0, .ref m_seenFlange, .ref m_seenLength])), (m_refused, .inl (g.2.1.1, 6, .inl f))] (fun (r : Int32) (u : Unit) => r = (-1)) (fun (u : Unit) => []) := by
  refine zCi.mk (by decide) (Nat.le_of_ble_eq_true rfl) ?_
  intro p e s m below meth c A hE hP hD hS ls hl
  obtain ⟨hx, hb, hr, hml, hown, hG, hlocks, hnm, hX, hA⟩ := hE
  have hown : s.vm.findClass RX9 = some m.cls := hown
  have hl : lv_has ls 3 [(0, .ref h0), (1, .int x)] := hl
  refine lv_aload_n hx hb dX9_bend_0 rfl (lv_at hl 0 rfl) ?_
  refine lv_iload_n hx hb dX9_bend_1 rfl (lv_at hl 1 rfl) ?_
  refine zfi (wr := [(m_refused, .inl (g.2.1.1, 6, .inl f))]) (va_runV (As := [.int x]) (rest := []) ⟨hx, hb, hml, hown, hG⟩ (kX9_isBend l g h0 x m_told m_read m_now m_readNow m_kept m_tape m_refused m_ownLetters m_flats m_corner m_wayX m_wayY m_normal m_low m_high m_clear m_ways m_canBe m_lain m_fewestBy m_sortOf m_seenFlange m_seenLength _) ⟨callB_of 1 hG (zGood g1673) rfl rfl rfl (hG _ g211) (hG _ g1670) hX9_isBend ⟨Nat.le_of_ble_eq_true rfl, Nat.le_of_ble_eq_true rfl⟩, hG _ g1672, hG _ g149⟩ (zpreV (va_recv hX.1 hP (ci := 9) (q0 := 0) rfl rfl) hX hP hD hS hA [0] rfl (by decide)) rfl rfl hl.1 rfl (lv_room (Nat.le_of_ble_eq_true rfl)) dX9_bend_2 ⟨Nat.le_of_ble_eq_true rfl, Nat.le_of_ble_eq_true rfl⟩) hP hD hS hA [0] [1] rfl rfl (by decide) (by decide) (fun r1 _ H locs hp hP hD hS => ?_)
  refine W.cs (cells' := 0) (slots' := 0) rfl rfl ?_
  have hq2 : r1 = 0 := hp
  subst hq2
  have hP : va_P g.1 vwCl [(m_refused, .inl (g.2.1.1, 6, .inl f)), (h0, .inr (9, [.ref m_told, .ref m_read, .ref m_now, .ref m_readNow, .ref m_kept, .int 0, .int 1, .int 0, .ref m_tape, .int 0, .ref m_refused, .int 0, .int (-1), .int 0, .int 0, .int 0, .int 0, .int (-1), .ref m_ownLetters, .ref m_flats, .int 0, .ref m_corner, .ref m_wayX, .ref m_wayY, .ref m_normal, .ref m_low, .ref m_high, .ref m_clear, .ref m_ways, .ref m_canBe, .ref m_lain, .int 0, .ref m_fewestBy, .ref m_sortOf, .int 0, .ref m_seenFlange, .ref m_seenLength]))] H := hP
  have hD : va_D A [(m_refused, .inl (g.2.1.1, 6, .inl f)), (h0, .inr (9, [.ref m_told, .ref m_read, .ref m_now, .ref m_readNow, .ref m_kept, .int 0, .int 1, .int 0, .ref m_tape, .int 0, .ref m_refused, .int 0, .int (-1), .int 0, .int 0, .int 0, .int 0, .int (-1), .ref m_ownLetters, .ref m_flats, .int 0, .ref m_corner, .ref m_wayX, .ref m_wayY, .ref m_normal, .ref m_low, .ref m_high, .ref m_clear, .ref m_ways, .ref m_canBe, .ref m_lain, .int 0, .ref m_fewestBy, .ref m_sortOf, .int 0, .ref m_seenFlange, .ref m_seenLength]))] := hD
  refine lv_if_ne (tgt := 14) hx hb dX9_bend_5 (by decide) (fun c5 => (c5 (by decide)).elim) (fun c5 => ?_)
  refine lv_aload_n hx hb dX9_bend_8 rfl (lv_at hl 0 rfl) ?_
  refine lv_iconst (v := 2) hx hb dX9_bend_9 (by decide) ?_
  refine zfi (wr := []) (va_runV (As := [.int 2]) (rest := []) ⟨hx, hb, hml, hown, hG⟩ (kX9_refuses2 l g h0 m_told m_read m_now m_readNow m_kept m_tape m_refused m_ownLetters m_flats m_corner m_wayX m_wayY m_normal m_low m_high m_clear m_ways m_canBe m_lain m_fewestBy m_sortOf m_seenFlange m_seenLength f _) ⟨callB_of 1 hG (zGood g1537) rfl rfl rfl (hG _ g211) (hG _ g1534) hX9_refuses ⟨Nat.le_of_ble_eq_true rfl, Nat.le_of_ble_eq_true rfl⟩, hG _ g1536, hG _ g124⟩ (zpreV (va_recv hX.1 hP (ci := 9) (q0 := 1) rfl rfl) hX hP hD hS hA [1, 0] rfl (by decide)) rfl rfl hl.1 rfl (lv_room (Nat.le_of_ble_eq_true rfl)) dX9_bend_10 ⟨Nat.le_of_ble_eq_true rfl, Nat.le_of_ble_eq_true rfl⟩) hP hD hS hA [1, 0] [] rfl rfl (by decide) (by decide) (fun r3 u4 H locs hp hP hD hS => ?_)
  refine W.cs (cells' := 0) (slots' := 0) rfl rfl ?_
  have hq5 : r3 = (-1) := hp
  subst hq5
  have hP : va_P g.1 vwCl [(h0, .inr (9, [.ref m_told, .ref m_read, .ref m_now, .ref m_readNow, .ref m_kept, .int 0, .int 1, .int 0, .ref m_tape, .int 0, .ref m_refused, .int 0, .int (-1), .int 0, .int 0, .int 0, .int 0, .int (-1), .ref m_ownLetters, .ref m_flats, .int 0, .ref m_corner, .ref m_wayX, .ref m_wayY, .ref m_normal, .ref m_low, .ref m_high, .ref m_clear, .ref m_ways, .ref m_canBe, .ref m_lain, .int 0, .ref m_fewestBy, .ref m_sortOf, .int 0, .ref m_seenFlange, .ref m_seenLength])), (m_refused, .inl (g.2.1.1, 6, .inl u4))] H := hP
  have hD : va_D A [(h0, .inr (9, [.ref m_told, .ref m_read, .ref m_now, .ref m_readNow, .ref m_kept, .int 0, .int 1, .int 0, .ref m_tape, .int 0, .ref m_refused, .int 0, .int (-1), .int 0, .int 0, .int 0, .int 0, .int (-1), .ref m_ownLetters, .ref m_flats, .int 0, .ref m_corner, .ref m_wayX, .ref m_wayY, .ref m_normal, .ref m_low, .ref m_high, .ref m_clear, .ref m_ways, .ref m_canBe, .ref m_lain, .int 0, .ref m_fewestBy, .ref m_sortOf, .int 0, .ref m_seenFlange, .ref m_seenLength])), (m_refused, .inl (g.2.1.1, 6, .inl u4))] := hD
  exact zri (rm := { frames := 2, cells := 0, slots := 0, locals := 43 }) (v := (-1)) () hx hb hr hlocks (Nat.le_of_ble_eq_true rfl) (Nat.le_of_ble_eq_true rfl) (rfl) (hP.sub [] rfl) (hD.sub [] (by decide) rfl) hS dX9_bend_13
theorem dX9_open_0 : decode cX9_open 0 = .ok (.aload_n 0, 1) := by decide +kernel
theorem dX9_open_1 : decode cX9_open 1 = .ok (.iload_n 1, 1) := by decide +kernel
theorem dX9_open_2 : decode cX9_open 2 = .ok (.invokevirtual 235, 3) := by decide +kernel
theorem dX9_open_5 : decode cX9_open 5 = .ok (.ifCond .eq 11, 3) := by decide +kernel
theorem dX9_open_16 : decode cX9_open 16 = .ok (.aload_n 0, 1) := by decide +kernel
theorem dX9_open_17 : decode cX9_open 17 = .ok (.iconst 2, 1) := by decide +kernel
theorem dX9_open_18 : decode cX9_open 18 = .ok (.invokevirtual 132, 3) := by decide +kernel
theorem dX9_open_21 : decode cX9_open 21 = .ok (.ireturn, 1) := by decide +kernel
set_option maxHeartbeats 4000000 in
set_option maxRecDepth 100000 in
theorem kX9_open (l : Launch) (g : zL) (h0 : Nat) (x : Int32) (m_told : Nat) (m_read : Nat) (m_now : Nat) (m_readNow : Nat) (m_kept : Nat) (m_tape : Nat) (m_refused : Nat) (m_ownLetters : Nat) (m_flats : Nat) (m_corner : Nat) (m_wayX : Nat) (m_wayY : Nat) (m_normal : Nat) (m_low : Nat) (m_high : Nat) (m_clear : Nat) (m_ways : Nat) (m_canBe : Nat) (m_lain : Nat) (m_fewestBy : Nat) (m_sortOf : Nat) (m_seenFlange : Nat) (m_seenLength : Nat) (f : Nat → Int32) : zCi l g yX9_open cX9_open 2 (some .boolean) { frames := 2, cells := 0, slots := 0, locals := 43 } [.ref h0, .int x] [(h0, .inr (9, [.ref m_told, .ref m_read, .ref m_now, .ref m_readNow, .ref m_kept, .int 0, .int 1, .int 0, .ref m_tape, .int 0, .ref m_refused, .int 0, .int (-1), .int 0, .int 0, .int 0, .int 0, .int (-1), .ref m_ownLetters, .ref m_flats, .int 0, .ref m_corner, .ref m_wayX, .ref m_wayY, .ref m_normal, .ref m_low, .ref m_high, .ref m_clear, .ref m_ways, .ref m_canBe, .ref m_lain, .int 0, .ref m_fewestBy, .ref m_sortOf, .int 0, .ref m_seenFlange, .ref m_seenLength])), (m_refused, .inl (g.2.1.1, 6, .inl f))] (fun (r : Int32) (u : Unit) => r = 0) (fun (u : Unit) => []) := by
  refine zCi.mk (by decide) (Nat.le_of_ble_eq_true rfl) ?_
  intro p e s m below meth c A hE hP hD hS ls hl
  obtain ⟨hx, hb, hr, hml, hown, hG, hlocks, hnm, hX, hA⟩ := hE
  have hown : s.vm.findClass RX9 = some m.cls := hown
  have hl : lv_has ls 2 [(0, .ref h0), (1, .int x)] := hl
  refine lv_aload_n hx hb dX9_open_0 rfl (lv_at hl 0 rfl) ?_
  refine lv_iload_n hx hb dX9_open_1 rfl (lv_at hl 1 rfl) ?_
  refine zfi (wr := [(m_refused, .inl (g.2.1.1, 6, .inl f))]) (va_runV (As := [.int x]) (rest := []) ⟨hx, hb, hml, hown, hG⟩ (kX9_isBend l g h0 x m_told m_read m_now m_readNow m_kept m_tape m_refused m_ownLetters m_flats m_corner m_wayX m_wayY m_normal m_low m_high m_clear m_ways m_canBe m_lain m_fewestBy m_sortOf m_seenFlange m_seenLength _) ⟨callB_of 1 hG (zGood g1673) rfl rfl rfl (hG _ g211) (hG _ g1670) hX9_isBend ⟨Nat.le_of_ble_eq_true rfl, Nat.le_of_ble_eq_true rfl⟩, hG _ g1672, hG _ g149⟩ (zpreV (va_recv hX.1 hP (ci := 9) (q0 := 0) rfl rfl) hX hP hD hS hA [0] rfl (by decide)) rfl rfl hl.1 rfl (lv_room (Nat.le_of_ble_eq_true rfl)) dX9_open_2 ⟨Nat.le_of_ble_eq_true rfl, Nat.le_of_ble_eq_true rfl⟩) hP hD hS hA [0] [1] rfl rfl (by decide) (by decide) (fun r1 _ H locs hp hP hD hS => ?_)
  refine W.cs (cells' := 0) (slots' := 0) rfl rfl ?_
  have hq2 : r1 = 0 := hp
  subst hq2
  have hP : va_P g.1 vwCl [(m_refused, .inl (g.2.1.1, 6, .inl f)), (h0, .inr (9, [.ref m_told, .ref m_read, .ref m_now, .ref m_readNow, .ref m_kept, .int 0, .int 1, .int 0, .ref m_tape, .int 0, .ref m_refused, .int 0, .int (-1), .int 0, .int 0, .int 0, .int 0, .int (-1), .ref m_ownLetters, .ref m_flats, .int 0, .ref m_corner, .ref m_wayX, .ref m_wayY, .ref m_normal, .ref m_low, .ref m_high, .ref m_clear, .ref m_ways, .ref m_canBe, .ref m_lain, .int 0, .ref m_fewestBy, .ref m_sortOf, .int 0, .ref m_seenFlange, .ref m_seenLength]))] H := hP
  have hD : va_D A [(m_refused, .inl (g.2.1.1, 6, .inl f)), (h0, .inr (9, [.ref m_told, .ref m_read, .ref m_now, .ref m_readNow, .ref m_kept, .int 0, .int 1, .int 0, .ref m_tape, .int 0, .ref m_refused, .int 0, .int (-1), .int 0, .int 0, .int 0, .int 0, .int (-1), .ref m_ownLetters, .ref m_flats, .int 0, .ref m_corner, .ref m_wayX, .ref m_wayY, .ref m_normal, .ref m_low, .ref m_high, .ref m_clear, .ref m_ways, .ref m_canBe, .ref m_lain, .int 0, .ref m_fewestBy, .ref m_sortOf, .int 0, .ref m_seenFlange, .ref m_seenLength]))] := hD
  refine lv_if_eq (tgt := 16) hx hb dX9_open_5 (by decide) (fun c5 => ?_) (fun c5 => (c5 (by decide)).elim)
  refine lv_aload_n hx hb dX9_open_16 rfl (lv_at hl 0 rfl) ?_
  refine lv_iconst (v := 2) hx hb dX9_open_17 (by decide) ?_
  refine zfi (wr := []) (va_runV (As := [.int 2]) (rest := []) ⟨hx, hb, hml, hown, hG⟩ (kX9_isRefused2 l g h0 m_told m_read m_now m_readNow m_kept m_tape m_refused m_ownLetters m_flats m_corner m_wayX m_wayY m_normal m_low m_high m_clear m_ways m_canBe m_lain m_fewestBy m_sortOf m_seenFlange m_seenLength f _) ⟨callB_of 1 hG (zGood g1549) rfl rfl rfl (hG _ g211) (hG _ g1546) hX9_isRefused ⟨Nat.le_of_ble_eq_true rfl, Nat.le_of_ble_eq_true rfl⟩, hG _ g1548, hG _ g126⟩ (zpreV (va_recv hX.1 hP (ci := 9) (q0 := 1) rfl rfl) hX hP hD hS hA [1, 0] rfl (by decide)) rfl rfl hl.1 rfl (lv_room (Nat.le_of_ble_eq_true rfl)) dX9_open_18 ⟨Nat.le_of_ble_eq_true rfl, Nat.le_of_ble_eq_true rfl⟩) hP hD hS hA [1, 0] [] rfl rfl (by decide) (by decide) (fun r3 u4 H locs hp hP hD hS => ?_)
  refine W.cs (cells' := 0) (slots' := 0) rfl rfl ?_
  have hq5 : r3 = 0 := hp
  subst hq5
  have hP : va_P g.1 vwCl [(h0, .inr (9, [.ref m_told, .ref m_read, .ref m_now, .ref m_readNow, .ref m_kept, .int 0, .int 1, .int 0, .ref m_tape, .int 0, .ref m_refused, .int 0, .int (-1), .int 0, .int 0, .int 0, .int 0, .int (-1), .ref m_ownLetters, .ref m_flats, .int 0, .ref m_corner, .ref m_wayX, .ref m_wayY, .ref m_normal, .ref m_low, .ref m_high, .ref m_clear, .ref m_ways, .ref m_canBe, .ref m_lain, .int 0, .ref m_fewestBy, .ref m_sortOf, .int 0, .ref m_seenFlange, .ref m_seenLength])), (m_refused, .inl (g.2.1.1, 6, .inl u4))] H := hP
  have hD : va_D A [(h0, .inr (9, [.ref m_told, .ref m_read, .ref m_now, .ref m_readNow, .ref m_kept, .int 0, .int 1, .int 0, .ref m_tape, .int 0, .ref m_refused, .int 0, .int (-1), .int 0, .int 0, .int 0, .int 0, .int (-1), .ref m_ownLetters, .ref m_flats, .int 0, .ref m_corner, .ref m_wayX, .ref m_wayY, .ref m_normal, .ref m_low, .ref m_high, .ref m_clear, .ref m_ways, .ref m_canBe, .ref m_lain, .int 0, .ref m_fewestBy, .ref m_sortOf, .int 0, .ref m_seenFlange, .ref m_seenLength])), (m_refused, .inl (g.2.1.1, 6, .inl u4))] := hD
  exact zrz (rm := { frames := 2, cells := 0, slots := 0, locals := 43 }) (v := 0) () hx hb hr hlocks (rfl) (Nat.le_of_ble_eq_true rfl) (Nat.le_of_ble_eq_true rfl) (rfl) (hP.sub [] rfl) (hD.sub [] (by decide) rfl) hS dX9_open_21
theorem dX9_turn_0 : decode cX9_turn 0 = .ok (.aload_n 0, 1) := by decide +kernel
theorem dX9_turn_1 : decode cX9_turn 1 = .ok (.iload_n 1, 1) := by decide +kernel
theorem dX9_turn_2 : decode cX9_turn 2 = .ok (.invokevirtual 235, 3) := by decide +kernel
theorem dX9_turn_5 : decode cX9_turn 5 = .ok (.ifCond .eq 11, 3) := by decide +kernel
theorem dX9_turn_16 : decode cX9_turn 16 = .ok (.aload_n 0, 1) := by decide +kernel
theorem dX9_turn_17 : decode cX9_turn 17 = .ok (.iconst 2, 1) := by decide +kernel
theorem dX9_turn_18 : decode cX9_turn 18 = .ok (.invokevirtual 132, 3) := by decide +kernel
theorem dX9_turn_21 : decode cX9_turn 21 = .ok (.ireturn, 1) := by decide +kernel
set_option maxHeartbeats 4000000 in
set_option maxRecDepth 100000 in
theorem kX9_turn (l : Launch) (g : zL) (h0 : Nat) (x : Int32) (m_told : Nat) (m_read : Nat) (m_now : Nat) (m_readNow : Nat) (m_kept : Nat) (m_tape : Nat) (m_refused : Nat) (m_ownLetters : Nat) (m_flats : Nat) (m_corner : Nat) (m_wayX : Nat) (m_wayY : Nat) (m_normal : Nat) (m_low : Nat) (m_high : Nat) (m_clear : Nat) (m_ways : Nat) (m_canBe : Nat) (m_lain : Nat) (m_fewestBy : Nat) (m_sortOf : Nat) (m_seenFlange : Nat) (m_seenLength : Nat) (f : Nat → Int32) : zCi l g yX9_turn cX9_turn 2 (some .boolean) { frames := 2, cells := 0, slots := 0, locals := 43 } [.ref h0, .int x] [(h0, .inr (9, [.ref m_told, .ref m_read, .ref m_now, .ref m_readNow, .ref m_kept, .int 0, .int 1, .int 0, .ref m_tape, .int 0, .ref m_refused, .int 0, .int (-1), .int 0, .int 0, .int 0, .int 0, .int (-1), .ref m_ownLetters, .ref m_flats, .int 0, .ref m_corner, .ref m_wayX, .ref m_wayY, .ref m_normal, .ref m_low, .ref m_high, .ref m_clear, .ref m_ways, .ref m_canBe, .ref m_lain, .int 0, .ref m_fewestBy, .ref m_sortOf, .int 0, .ref m_seenFlange, .ref m_seenLength])), (m_refused, .inl (g.2.1.1, 6, .inl f))] (fun (r : Int32) (u : Unit) => r = 0) (fun (u : Unit) => []) := by
  refine zCi.mk (by decide) (Nat.le_of_ble_eq_true rfl) ?_
  intro p e s m below meth c A hE hP hD hS ls hl
  obtain ⟨hx, hb, hr, hml, hown, hG, hlocks, hnm, hX, hA⟩ := hE
  have hown : s.vm.findClass RX9 = some m.cls := hown
  have hl : lv_has ls 2 [(0, .ref h0), (1, .int x)] := hl
  refine lv_aload_n hx hb dX9_turn_0 rfl (lv_at hl 0 rfl) ?_
  refine lv_iload_n hx hb dX9_turn_1 rfl (lv_at hl 1 rfl) ?_
  refine zfi (wr := [(m_refused, .inl (g.2.1.1, 6, .inl f))]) (va_runV (As := [.int x]) (rest := []) ⟨hx, hb, hml, hown, hG⟩ (kX9_isBend l g h0 x m_told m_read m_now m_readNow m_kept m_tape m_refused m_ownLetters m_flats m_corner m_wayX m_wayY m_normal m_low m_high m_clear m_ways m_canBe m_lain m_fewestBy m_sortOf m_seenFlange m_seenLength _) ⟨callB_of 1 hG (zGood g1673) rfl rfl rfl (hG _ g211) (hG _ g1670) hX9_isBend ⟨Nat.le_of_ble_eq_true rfl, Nat.le_of_ble_eq_true rfl⟩, hG _ g1672, hG _ g149⟩ (zpreV (va_recv hX.1 hP (ci := 9) (q0 := 0) rfl rfl) hX hP hD hS hA [0] rfl (by decide)) rfl rfl hl.1 rfl (lv_room (Nat.le_of_ble_eq_true rfl)) dX9_turn_2 ⟨Nat.le_of_ble_eq_true rfl, Nat.le_of_ble_eq_true rfl⟩) hP hD hS hA [0] [1] rfl rfl (by decide) (by decide) (fun r1 _ H locs hp hP hD hS => ?_)
  refine W.cs (cells' := 0) (slots' := 0) rfl rfl ?_
  have hq2 : r1 = 0 := hp
  subst hq2
  have hP : va_P g.1 vwCl [(m_refused, .inl (g.2.1.1, 6, .inl f)), (h0, .inr (9, [.ref m_told, .ref m_read, .ref m_now, .ref m_readNow, .ref m_kept, .int 0, .int 1, .int 0, .ref m_tape, .int 0, .ref m_refused, .int 0, .int (-1), .int 0, .int 0, .int 0, .int 0, .int (-1), .ref m_ownLetters, .ref m_flats, .int 0, .ref m_corner, .ref m_wayX, .ref m_wayY, .ref m_normal, .ref m_low, .ref m_high, .ref m_clear, .ref m_ways, .ref m_canBe, .ref m_lain, .int 0, .ref m_fewestBy, .ref m_sortOf, .int 0, .ref m_seenFlange, .ref m_seenLength]))] H := hP
  have hD : va_D A [(m_refused, .inl (g.2.1.1, 6, .inl f)), (h0, .inr (9, [.ref m_told, .ref m_read, .ref m_now, .ref m_readNow, .ref m_kept, .int 0, .int 1, .int 0, .ref m_tape, .int 0, .ref m_refused, .int 0, .int (-1), .int 0, .int 0, .int 0, .int 0, .int (-1), .ref m_ownLetters, .ref m_flats, .int 0, .ref m_corner, .ref m_wayX, .ref m_wayY, .ref m_normal, .ref m_low, .ref m_high, .ref m_clear, .ref m_ways, .ref m_canBe, .ref m_lain, .int 0, .ref m_fewestBy, .ref m_sortOf, .int 0, .ref m_seenFlange, .ref m_seenLength]))] := hD
  refine lv_if_eq (tgt := 16) hx hb dX9_turn_5 (by decide) (fun c5 => ?_) (fun c5 => (c5 (by decide)).elim)
  refine lv_aload_n hx hb dX9_turn_16 rfl (lv_at hl 0 rfl) ?_
  refine lv_iconst (v := 2) hx hb dX9_turn_17 (by decide) ?_
  refine zfi (wr := []) (va_runV (As := [.int 2]) (rest := []) ⟨hx, hb, hml, hown, hG⟩ (kX9_isRefused2 l g h0 m_told m_read m_now m_readNow m_kept m_tape m_refused m_ownLetters m_flats m_corner m_wayX m_wayY m_normal m_low m_high m_clear m_ways m_canBe m_lain m_fewestBy m_sortOf m_seenFlange m_seenLength f _) ⟨callB_of 1 hG (zGood g1549) rfl rfl rfl (hG _ g211) (hG _ g1546) hX9_isRefused ⟨Nat.le_of_ble_eq_true rfl, Nat.le_of_ble_eq_true rfl⟩, hG _ g1548, hG _ g126⟩ (zpreV (va_recv hX.1 hP (ci := 9) (q0 := 1) rfl rfl) hX hP hD hS hA [1, 0] rfl (by decide)) rfl rfl hl.1 rfl (lv_room (Nat.le_of_ble_eq_true rfl)) dX9_turn_18 ⟨Nat.le_of_ble_eq_true rfl, Nat.le_of_ble_eq_true rfl⟩) hP hD hS hA [1, 0] [] rfl rfl (by decide) (by decide) (fun r3 u4 H locs hp hP hD hS => ?_)
  refine W.cs (cells' := 0) (slots' := 0) rfl rfl ?_
  have hq5 : r3 = 0 := hp
  subst hq5
  have hP : va_P g.1 vwCl [(h0, .inr (9, [.ref m_told, .ref m_read, .ref m_now, .ref m_readNow, .ref m_kept, .int 0, .int 1, .int 0, .ref m_tape, .int 0, .ref m_refused, .int 0, .int (-1), .int 0, .int 0, .int 0, .int 0, .int (-1), .ref m_ownLetters, .ref m_flats, .int 0, .ref m_corner, .ref m_wayX, .ref m_wayY, .ref m_normal, .ref m_low, .ref m_high, .ref m_clear, .ref m_ways, .ref m_canBe, .ref m_lain, .int 0, .ref m_fewestBy, .ref m_sortOf, .int 0, .ref m_seenFlange, .ref m_seenLength])), (m_refused, .inl (g.2.1.1, 6, .inl u4))] H := hP
  have hD : va_D A [(h0, .inr (9, [.ref m_told, .ref m_read, .ref m_now, .ref m_readNow, .ref m_kept, .int 0, .int 1, .int 0, .ref m_tape, .int 0, .ref m_refused, .int 0, .int (-1), .int 0, .int 0, .int 0, .int 0, .int (-1), .ref m_ownLetters, .ref m_flats, .int 0, .ref m_corner, .ref m_wayX, .ref m_wayY, .ref m_normal, .ref m_low, .ref m_high, .ref m_clear, .ref m_ways, .ref m_canBe, .ref m_lain, .int 0, .ref m_fewestBy, .ref m_sortOf, .int 0, .ref m_seenFlange, .ref m_seenLength])), (m_refused, .inl (g.2.1.1, 6, .inl u4))] := hD
  exact zrz (rm := { frames := 2, cells := 0, slots := 0, locals := 43 }) (v := 0) () hx hb hr hlocks (rfl) (Nat.le_of_ble_eq_true rfl) (Nat.le_of_ble_eq_true rfl) (rfl) (hP.sub [] rfl) (hD.sub [] (by decide) rfl) hS dX9_turn_21
theorem dX9_lay_0 : decode cX9_lay 0 = .ok (.aload_n 0, 1) := by decide +kernel
theorem dX9_lay_1 : decode cX9_lay 1 = .ok (.iload_n 1, 1) := by decide +kernel
theorem dX9_lay_2 : decode cX9_lay 2 = .ok (.invokevirtual 310, 3) := by decide +kernel
theorem dX9_lay_5 : decode cX9_lay 5 = .ok (.ifCond .eq 23, 3) := by decide +kernel
theorem dX9_lay_28 : decode cX9_lay 28 = .ok (.aload_n 0, 1) := by decide +kernel
theorem dX9_lay_29 : decode cX9_lay 29 = .ok (.iconst 2, 1) := by decide +kernel
theorem dX9_lay_30 : decode cX9_lay 30 = .ok (.invokevirtual 132, 3) := by decide +kernel
theorem dX9_lay_33 : decode cX9_lay 33 = .ok (.ireturn, 1) := by decide +kernel
set_option maxHeartbeats 4000000 in
set_option maxRecDepth 100000 in
theorem kX9_lay (l : Launch) (g : zL) (h0 : Nat) (x : Int32) (m_told : Nat) (m_read : Nat) (m_now : Nat) (m_readNow : Nat) (m_kept : Nat) (m_tape : Nat) (m_refused : Nat) (m_ownLetters : Nat) (m_flats : Nat) (m_corner : Nat) (m_wayX : Nat) (m_wayY : Nat) (m_normal : Nat) (m_low : Nat) (m_high : Nat) (m_clear : Nat) (m_ways : Nat) (m_canBe : Nat) (m_lain : Nat) (m_fewestBy : Nat) (m_sortOf : Nat) (m_seenFlange : Nat) (m_seenLength : Nat) (f : Nat → Int32) : zCi l g yX9_lay cX9_lay 2 (some .boolean) { frames := 1, cells := 0, slots := 0, locals := 21 } [.ref h0, .int x] [(h0, .inr (9, [.ref m_told, .ref m_read, .ref m_now, .ref m_readNow, .ref m_kept, .int 0, .int 1, .int 0, .ref m_tape, .int 0, .ref m_refused, .int 0, .int (-1), .int 0, .int 0, .int 0, .int 0, .int (-1), .ref m_ownLetters, .ref m_flats, .int 0, .ref m_corner, .ref m_wayX, .ref m_wayY, .ref m_normal, .ref m_low, .ref m_high, .ref m_clear, .ref m_ways, .ref m_canBe, .ref m_lain, .int 0, .ref m_fewestBy, .ref m_sortOf, .int 0, .ref m_seenFlange, .ref m_seenLength])), (m_refused, .inl (g.2.1.1, 6, .inl f))] (fun (r : Int32) (u : Unit) => r = 0) (fun (u : Unit) => []) := by
  refine zCi.mk (by decide) (Nat.le_of_ble_eq_true rfl) ?_
  intro p e s m below meth c A hE hP hD hS ls hl
  obtain ⟨hx, hb, hr, hml, hown, hG, hlocks, hnm, hX, hA⟩ := hE
  have hown : s.vm.findClass RX9 = some m.cls := hown
  have hl : lv_has ls 2 [(0, .ref h0), (1, .int x)] := hl
  refine lv_aload_n hx hb dX9_lay_0 rfl (lv_at hl 0 rfl) ?_
  refine lv_iload_n hx hb dX9_lay_1 rfl (lv_at hl 1 rfl) ?_
  refine zfi (wr := [(m_refused, .inl (g.2.1.1, 6, .inl f))]) (va_runV (As := [.int x]) (rest := []) ⟨hx, hb, hml, hown, hG⟩ (kX9_isState l g h0 x m_told m_read m_now m_readNow m_kept m_tape m_refused m_ownLetters m_flats m_corner m_wayX m_wayY m_normal m_low m_high m_clear m_ways m_canBe m_lain m_fewestBy m_sortOf m_seenFlange m_seenLength _) ⟨callB_of 1 hG (zGood g1874) rfl rfl rfl (hG _ g211) (hG _ g1871) hX9_isState ⟨Nat.le_of_ble_eq_true rfl, Nat.le_of_ble_eq_true rfl⟩, hG _ g1873, hG _ g185⟩ (zpreV (va_recv hX.1 hP (ci := 9) (q0 := 0) rfl rfl) hX hP hD hS hA [0] rfl (by decide)) rfl rfl hl.1 rfl (lv_room (Nat.le_of_ble_eq_true rfl)) dX9_lay_2 ⟨Nat.le_of_ble_eq_true rfl, Nat.le_of_ble_eq_true rfl⟩) hP hD hS hA [0] [1] rfl rfl (by decide) (by decide) (fun r1 _ H locs hp hP hD hS => ?_)
  refine W.cs (cells' := 0) (slots' := 0) rfl rfl ?_
  have hq2 : r1 = 0 := hp
  subst hq2
  have hP : va_P g.1 vwCl [(m_refused, .inl (g.2.1.1, 6, .inl f)), (h0, .inr (9, [.ref m_told, .ref m_read, .ref m_now, .ref m_readNow, .ref m_kept, .int 0, .int 1, .int 0, .ref m_tape, .int 0, .ref m_refused, .int 0, .int (-1), .int 0, .int 0, .int 0, .int 0, .int (-1), .ref m_ownLetters, .ref m_flats, .int 0, .ref m_corner, .ref m_wayX, .ref m_wayY, .ref m_normal, .ref m_low, .ref m_high, .ref m_clear, .ref m_ways, .ref m_canBe, .ref m_lain, .int 0, .ref m_fewestBy, .ref m_sortOf, .int 0, .ref m_seenFlange, .ref m_seenLength]))] H := hP
  have hD : va_D A [(m_refused, .inl (g.2.1.1, 6, .inl f)), (h0, .inr (9, [.ref m_told, .ref m_read, .ref m_now, .ref m_readNow, .ref m_kept, .int 0, .int 1, .int 0, .ref m_tape, .int 0, .ref m_refused, .int 0, .int (-1), .int 0, .int 0, .int 0, .int 0, .int (-1), .ref m_ownLetters, .ref m_flats, .int 0, .ref m_corner, .ref m_wayX, .ref m_wayY, .ref m_normal, .ref m_low, .ref m_high, .ref m_clear, .ref m_ways, .ref m_canBe, .ref m_lain, .int 0, .ref m_fewestBy, .ref m_sortOf, .int 0, .ref m_seenFlange, .ref m_seenLength]))] := hD
  refine lv_if_eq (tgt := 28) hx hb dX9_lay_5 (by decide) (fun c5 => ?_) (fun c5 => (c5 (by decide)).elim)
  refine lv_aload_n hx hb dX9_lay_28 rfl (lv_at hl 0 rfl) ?_
  refine lv_iconst (v := 2) hx hb dX9_lay_29 (by decide) ?_
  refine zfi (wr := []) (va_runV (As := [.int 2]) (rest := []) ⟨hx, hb, hml, hown, hG⟩ (kX9_isRefused2 l g h0 m_told m_read m_now m_readNow m_kept m_tape m_refused m_ownLetters m_flats m_corner m_wayX m_wayY m_normal m_low m_high m_clear m_ways m_canBe m_lain m_fewestBy m_sortOf m_seenFlange m_seenLength f _) ⟨callB_of 1 hG (zGood g1549) rfl rfl rfl (hG _ g211) (hG _ g1546) hX9_isRefused ⟨Nat.le_of_ble_eq_true rfl, Nat.le_of_ble_eq_true rfl⟩, hG _ g1548, hG _ g126⟩ (zpreV (va_recv hX.1 hP (ci := 9) (q0 := 1) rfl rfl) hX hP hD hS hA [1, 0] rfl (by decide)) rfl rfl hl.1 rfl (lv_room (Nat.le_of_ble_eq_true rfl)) dX9_lay_30 ⟨Nat.le_of_ble_eq_true rfl, Nat.le_of_ble_eq_true rfl⟩) hP hD hS hA [1, 0] [] rfl rfl (by decide) (by decide) (fun r3 u4 H locs hp hP hD hS => ?_)
  refine W.cs (cells' := 0) (slots' := 0) rfl rfl ?_
  have hq5 : r3 = 0 := hp
  subst hq5
  have hP : va_P g.1 vwCl [(h0, .inr (9, [.ref m_told, .ref m_read, .ref m_now, .ref m_readNow, .ref m_kept, .int 0, .int 1, .int 0, .ref m_tape, .int 0, .ref m_refused, .int 0, .int (-1), .int 0, .int 0, .int 0, .int 0, .int (-1), .ref m_ownLetters, .ref m_flats, .int 0, .ref m_corner, .ref m_wayX, .ref m_wayY, .ref m_normal, .ref m_low, .ref m_high, .ref m_clear, .ref m_ways, .ref m_canBe, .ref m_lain, .int 0, .ref m_fewestBy, .ref m_sortOf, .int 0, .ref m_seenFlange, .ref m_seenLength])), (m_refused, .inl (g.2.1.1, 6, .inl u4))] H := hP
  have hD : va_D A [(h0, .inr (9, [.ref m_told, .ref m_read, .ref m_now, .ref m_readNow, .ref m_kept, .int 0, .int 1, .int 0, .ref m_tape, .int 0, .ref m_refused, .int 0, .int (-1), .int 0, .int 0, .int 0, .int 0, .int (-1), .ref m_ownLetters, .ref m_flats, .int 0, .ref m_corner, .ref m_wayX, .ref m_wayY, .ref m_normal, .ref m_low, .ref m_high, .ref m_clear, .ref m_ways, .ref m_canBe, .ref m_lain, .int 0, .ref m_fewestBy, .ref m_sortOf, .int 0, .ref m_seenFlange, .ref m_seenLength])), (m_refused, .inl (g.2.1.1, 6, .inl u4))] := hD
  exact zrz (rm := { frames := 1, cells := 0, slots := 0, locals := 21 }) (v := 0) () hx hb hr hlocks (rfl) (Nat.le_of_ble_eq_true rfl) (Nat.le_of_ble_eq_true rfl) (rfl) (hP.sub [] rfl) (hD.sub [] (by decide) rfl) hS dX9_lay_33
theorem dX9_follow_0 : decode cX9_follow 0 = .ok (.iload_n 1, 1) := by decide +kernel
theorem dX9_follow_1 : decode cX9_follow 1 = .ok (.iconst 1, 1) := by decide +kernel
theorem dX9_follow_2 : decode cX9_follow 2 = .ok (.if_icmp .lt 14, 3) := by decide +kernel
theorem dX9_follow_16 : decode cX9_follow 16 = .ok (.aload_n 0, 1) := by decide +kernel
theorem dX9_follow_17 : decode cX9_follow 17 = .ok (.iconst 3, 1) := by decide +kernel
theorem dX9_follow_18 : decode cX9_follow 18 = .ok (.invokevirtual 124, 3) := by decide +kernel
theorem dX9_follow_21 : decode cX9_follow 21 = .ok (.ireturn, 1) := by decide +kernel
theorem dX9_follow_5 : decode cX9_follow 5 = .ok (.aload_n 0, 1) := by decide +kernel
theorem dX9_follow_6 : decode cX9_follow 6 = .ok (.iload_n 1, 1) := by decide +kernel
theorem dX9_follow_7 : decode cX9_follow 7 = .ok (.iconst 1, 1) := by decide +kernel
theorem dX9_follow_8 : decode cX9_follow 8 = .ok (.isub, 1) := by decide +kernel
theorem dX9_follow_9 : decode cX9_follow 9 = .ok (.invokevirtual 396, 3) := by decide +kernel
theorem dX9_follow_12 : decode cX9_follow 12 = .ok (.iconst (-1), 1) := by decide +kernel
theorem dX9_follow_13 : decode cX9_follow 13 = .ok (.if_icmp .ne 9, 3) := by decide +kernel
set_option maxHeartbeats 4000000 in
set_option maxRecDepth 100000 in
theorem kX9_follow (l : Launch) (g : zL) (h0 : Nat) (x : Int32) (m_told : Nat) (m_read : Nat) (m_now : Nat) (m_readNow : Nat) (m_kept : Nat) (m_tape : Nat) (m_refused : Nat) (m_ownLetters : Nat) (m_flats : Nat) (m_corner : Nat) (m_wayX : Nat) (m_wayY : Nat) (m_normal : Nat) (m_low : Nat) (m_high : Nat) (m_clear : Nat) (m_ways : Nat) (m_canBe : Nat) (m_lain : Nat) (m_fewestBy : Nat) (m_sortOf : Nat) (m_seenFlange : Nat) (m_seenLength : Nat) (f : Nat → Int32) : zCi l g yX9_follow cX9_follow 4 (some .int) { frames := 1, cells := 0, slots := 0, locals := 24 } [.ref h0, .int x] [(h0, .inr (9, [.ref m_told, .ref m_read, .ref m_now, .ref m_readNow, .ref m_kept, .int 0, .int 1, .int 0, .ref m_tape, .int 0, .ref m_refused, .int 0, .int (-1), .int 0, .int 0, .int 0, .int 0, .int (-1), .ref m_ownLetters, .ref m_flats, .int 0, .ref m_corner, .ref m_wayX, .ref m_wayY, .ref m_normal, .ref m_low, .ref m_high, .ref m_clear, .ref m_ways, .ref m_canBe, .ref m_lain, .int 0, .ref m_fewestBy, .ref m_sortOf, .int 0, .ref m_seenFlange, .ref m_seenLength])), (m_refused, .inl (g.2.1.1, 6, .inl f))] (fun (r : Int32) (u : Unit) => r = (-1)) (fun (u : Unit) => []) := by
  refine zCi.mk (by decide) (Nat.le_of_ble_eq_true rfl) ?_
  intro p e s m below meth c A hE hP hD hS ls hl
  obtain ⟨hx, hb, hr, hml, hown, hG, hlocks, hnm, hX, hA⟩ := hE
  have hown : s.vm.findClass RX9 = some m.cls := hown
  have hl : lv_has ls 4 [(0, .ref h0), (1, .int x)] := hl
  refine lv_iload_n hx hb dX9_follow_0 rfl (lv_at hl 1 rfl) ?_
  refine lv_iconst (v := 1) hx hb dX9_follow_1 (by decide) ?_
  refine lv_icmp_lt (tgt := 16) hx hb dX9_follow_2 (by decide) (fun c2 => ?_) (fun c2 => ?_)
  · skip
    have c2i : x.toInt < 1 := (zc_lt (rfl : x.toInt = _) (show (1 : Int32).toInt = 1 from by decide)).mp c2
    refine lv_aload_n hx hb dX9_follow_16 rfl (lv_at hl 0 rfl) ?_
    refine lv_iconst (v := 3) hx hb dX9_follow_17 (by decide) ?_
    refine zfi (wr := []) (va_runV (As := [.int 3]) (rest := []) ⟨hx, hb, hml, hown, hG⟩ (kX9_refuses3 l g h0 m_told m_read m_now m_readNow m_kept m_tape m_refused m_ownLetters m_flats m_corner m_wayX m_wayY m_normal m_low m_high m_clear m_ways m_canBe m_lain m_fewestBy m_sortOf m_seenFlange m_seenLength f _) ⟨callB_of 1 hG (zGood g1537) rfl rfl rfl (hG _ g211) (hG _ g1534) hX9_refuses ⟨Nat.le_of_ble_eq_true rfl, Nat.le_of_ble_eq_true rfl⟩, hG _ g1536, hG _ g124⟩ (zpreV (va_recv hX.1 hP (ci := 9) (q0 := 0) rfl rfl) hX hP hD hS hA [0, 1] rfl (by decide)) rfl rfl hl.1 rfl (lv_room (Nat.le_of_ble_eq_true rfl)) dX9_follow_18 ⟨Nat.le_of_ble_eq_true rfl, Nat.le_of_ble_eq_true rfl⟩) hP hD hS hA [0, 1] [] rfl rfl (by decide) (by decide) (fun r1 u2 H locs hp hP hD hS => ?_)
    refine W.cs (cells' := 0) (slots' := 0) rfl rfl ?_
    have hq3 : r1 = (-1) := hp
    subst hq3
    have hP : va_P g.1 vwCl [(h0, .inr (9, [.ref m_told, .ref m_read, .ref m_now, .ref m_readNow, .ref m_kept, .int 0, .int 1, .int 0, .ref m_tape, .int 0, .ref m_refused, .int 0, .int (-1), .int 0, .int 0, .int 0, .int 0, .int (-1), .ref m_ownLetters, .ref m_flats, .int 0, .ref m_corner, .ref m_wayX, .ref m_wayY, .ref m_normal, .ref m_low, .ref m_high, .ref m_clear, .ref m_ways, .ref m_canBe, .ref m_lain, .int 0, .ref m_fewestBy, .ref m_sortOf, .int 0, .ref m_seenFlange, .ref m_seenLength])), (m_refused, .inl (g.2.1.1, 6, .inl u2))] H := hP
    have hD : va_D A [(h0, .inr (9, [.ref m_told, .ref m_read, .ref m_now, .ref m_readNow, .ref m_kept, .int 0, .int 1, .int 0, .ref m_tape, .int 0, .ref m_refused, .int 0, .int (-1), .int 0, .int 0, .int 0, .int 0, .int (-1), .ref m_ownLetters, .ref m_flats, .int 0, .ref m_corner, .ref m_wayX, .ref m_wayY, .ref m_normal, .ref m_low, .ref m_high, .ref m_clear, .ref m_ways, .ref m_canBe, .ref m_lain, .int 0, .ref m_fewestBy, .ref m_sortOf, .int 0, .ref m_seenFlange, .ref m_seenLength])), (m_refused, .inl (g.2.1.1, 6, .inl u2))] := hD
    exact zri (rm := { frames := 1, cells := 0, slots := 0, locals := 24 }) (v := (-1)) () hx hb hr hlocks (Nat.le_of_ble_eq_true rfl) (Nat.le_of_ble_eq_true rfl) (rfl) (hP.sub [] rfl) (hD.sub [] (by decide) rfl) hS dX9_follow_21
  · skip
    have c2i : ¬ x.toInt < 1 := fun q => c2 ((zc_lt (rfl : x.toInt = _) (show (1 : Int32).toInt = 1 from by decide)).mpr q)
    refine lv_aload_n hx hb dX9_follow_5 rfl (lv_at hl 0 rfl) ?_
    refine lv_iload_n hx hb dX9_follow_6 rfl (lv_at hl 1 rfl) ?_
    refine lv_iconst (v := 1) hx hb dX9_follow_7 (by decide) ?_
    refine lv_isub hx hb dX9_follow_8 ?_
    refine zfi (wr := [(m_refused, .inl (g.2.1.1, 6, .inl f))]) (va_runV (As := [.int (x - 1)]) (rest := []) ⟨hx, hb, hml, hown, hG⟩ (kX9_order l g h0 (x - 1) m_told m_read m_now m_readNow m_kept m_tape m_refused m_ownLetters m_flats m_corner m_wayX m_wayY m_normal m_low m_high m_clear m_ways m_canBe m_lain m_fewestBy m_sortOf m_seenFlange m_seenLength _) ⟨callB_of 1 hG (zGood g1907) rfl rfl rfl (hG _ g211) (hG _ g2026) hX9_order ⟨Nat.le_of_ble_eq_true rfl, Nat.le_of_ble_eq_true rfl⟩, hG _ g1905, hG _ g1906⟩ (zpreV (va_recv hX.1 hP (ci := 9) (q0 := 0) rfl rfl) hX hP hD hS hA [0] rfl (by decide)) rfl rfl hl.1 rfl (lv_room (Nat.le_of_ble_eq_true rfl)) dX9_follow_9 ⟨Nat.le_of_ble_eq_true rfl, Nat.le_of_ble_eq_true rfl⟩) hP hD hS hA [0] [1] rfl rfl (by decide) (by decide) (fun r4 _ H locs hp hP hD hS => ?_)
    refine W.cs (cells' := 0) (slots' := 0) rfl rfl ?_
    have hq5 : r4 = (-1) := hp
    subst hq5
    have hP : va_P g.1 vwCl [(m_refused, .inl (g.2.1.1, 6, .inl f)), (h0, .inr (9, [.ref m_told, .ref m_read, .ref m_now, .ref m_readNow, .ref m_kept, .int 0, .int 1, .int 0, .ref m_tape, .int 0, .ref m_refused, .int 0, .int (-1), .int 0, .int 0, .int 0, .int 0, .int (-1), .ref m_ownLetters, .ref m_flats, .int 0, .ref m_corner, .ref m_wayX, .ref m_wayY, .ref m_normal, .ref m_low, .ref m_high, .ref m_clear, .ref m_ways, .ref m_canBe, .ref m_lain, .int 0, .ref m_fewestBy, .ref m_sortOf, .int 0, .ref m_seenFlange, .ref m_seenLength]))] H := hP
    have hD : va_D A [(m_refused, .inl (g.2.1.1, 6, .inl f)), (h0, .inr (9, [.ref m_told, .ref m_read, .ref m_now, .ref m_readNow, .ref m_kept, .int 0, .int 1, .int 0, .ref m_tape, .int 0, .ref m_refused, .int 0, .int (-1), .int 0, .int 0, .int 0, .int 0, .int (-1), .ref m_ownLetters, .ref m_flats, .int 0, .ref m_corner, .ref m_wayX, .ref m_wayY, .ref m_normal, .ref m_low, .ref m_high, .ref m_clear, .ref m_ways, .ref m_canBe, .ref m_lain, .int 0, .ref m_fewestBy, .ref m_sortOf, .int 0, .ref m_seenFlange, .ref m_seenLength]))] := hD
    refine lv_iconst (v := (-1)) hx hb dX9_follow_12 (by decide) ?_
    refine lv_icmp_ne (tgt := 22) hx hb dX9_follow_13 (by decide) (fun c13 => (c13 (by decide)).elim) (fun c13 => ?_)
    refine lv_aload_n hx hb dX9_follow_16 rfl (lv_at hl 0 rfl) ?_
    refine lv_iconst (v := 3) hx hb dX9_follow_17 (by decide) ?_
    refine zfi (wr := []) (va_runV (As := [.int 3]) (rest := []) ⟨hx, hb, hml, hown, hG⟩ (kX9_refuses3 l g h0 m_told m_read m_now m_readNow m_kept m_tape m_refused m_ownLetters m_flats m_corner m_wayX m_wayY m_normal m_low m_high m_clear m_ways m_canBe m_lain m_fewestBy m_sortOf m_seenFlange m_seenLength f _) ⟨callB_of 1 hG (zGood g1537) rfl rfl rfl (hG _ g211) (hG _ g1534) hX9_refuses ⟨Nat.le_of_ble_eq_true rfl, Nat.le_of_ble_eq_true rfl⟩, hG _ g1536, hG _ g124⟩ (zpreV (va_recv hX.1 hP (ci := 9) (q0 := 1) rfl rfl) hX hP hD hS hA [1, 0] rfl (by decide)) rfl rfl hl.1 rfl (lv_room (Nat.le_of_ble_eq_true rfl)) dX9_follow_18 ⟨Nat.le_of_ble_eq_true rfl, Nat.le_of_ble_eq_true rfl⟩) hP hD hS hA [1, 0] [] rfl rfl (by decide) (by decide) (fun r6 u7 H locs hp hP hD hS => ?_)
    refine W.cs (cells' := 0) (slots' := 0) rfl rfl ?_
    have hq8 : r6 = (-1) := hp
    subst hq8
    have hP : va_P g.1 vwCl [(h0, .inr (9, [.ref m_told, .ref m_read, .ref m_now, .ref m_readNow, .ref m_kept, .int 0, .int 1, .int 0, .ref m_tape, .int 0, .ref m_refused, .int 0, .int (-1), .int 0, .int 0, .int 0, .int 0, .int (-1), .ref m_ownLetters, .ref m_flats, .int 0, .ref m_corner, .ref m_wayX, .ref m_wayY, .ref m_normal, .ref m_low, .ref m_high, .ref m_clear, .ref m_ways, .ref m_canBe, .ref m_lain, .int 0, .ref m_fewestBy, .ref m_sortOf, .int 0, .ref m_seenFlange, .ref m_seenLength])), (m_refused, .inl (g.2.1.1, 6, .inl u7))] H := hP
    have hD : va_D A [(h0, .inr (9, [.ref m_told, .ref m_read, .ref m_now, .ref m_readNow, .ref m_kept, .int 0, .int 1, .int 0, .ref m_tape, .int 0, .ref m_refused, .int 0, .int (-1), .int 0, .int 0, .int 0, .int 0, .int (-1), .ref m_ownLetters, .ref m_flats, .int 0, .ref m_corner, .ref m_wayX, .ref m_wayY, .ref m_normal, .ref m_low, .ref m_high, .ref m_clear, .ref m_ways, .ref m_canBe, .ref m_lain, .int 0, .ref m_fewestBy, .ref m_sortOf, .int 0, .ref m_seenFlange, .ref m_seenLength])), (m_refused, .inl (g.2.1.1, 6, .inl u7))] := hD
    exact zri (rm := { frames := 1, cells := 0, slots := 0, locals := 24 }) (v := (-1)) () hx hb hr hlocks (Nat.le_of_ble_eq_true rfl) (Nat.le_of_ble_eq_true rfl) (rfl) (hP.sub [] rfl) (hD.sub [] (by decide) rfl) hS dX9_follow_21
theorem dX9_allow_0 : decode cX9_allow 0 = .ok (.aload_n 0, 1) := by decide +kernel
theorem dX9_allow_1 : decode cX9_allow 1 = .ok (.getfield 32, 3) := by decide +kernel
theorem dX9_allow_4 : decode cX9_allow 4 = .ok (.ifCond .eq 32, 3) := by decide +kernel
theorem dX9_allow_36 : decode cX9_allow 36 = .ok (.aload_n 0, 1) := by decide +kernel
theorem dX9_allow_37 : decode cX9_allow 37 = .ok (.iconst 3, 1) := by decide +kernel
theorem dX9_allow_38 : decode cX9_allow 38 = .ok (.invokevirtual 132, 3) := by decide +kernel
theorem dX9_allow_41 : decode cX9_allow 41 = .ok (.ireturn, 1) := by decide +kernel
set_option maxHeartbeats 4000000 in
set_option maxRecDepth 100000 in
theorem kX9_allow (l : Launch) (g : zL) (h0 : Nat) (x : Int32) (y : Int32) (m_told : Nat) (m_read : Nat) (m_now : Nat) (m_readNow : Nat) (m_kept : Nat) (m_tape : Nat) (m_refused : Nat) (m_ownLetters : Nat) (m_flats : Nat) (m_corner : Nat) (m_wayX : Nat) (m_wayY : Nat) (m_normal : Nat) (m_low : Nat) (m_high : Nat) (m_clear : Nat) (m_ways : Nat) (m_canBe : Nat) (m_lain : Nat) (m_fewestBy : Nat) (m_sortOf : Nat) (m_seenFlange : Nat) (m_seenLength : Nat) (f : Nat → Int32) : zCi l g yX9_allow cX9_allow 3 (some .boolean) { frames := 1, cells := 0, slots := 0, locals := 21 } [.ref h0, .int x, .int y] [(h0, .inr (9, [.ref m_told, .ref m_read, .ref m_now, .ref m_readNow, .ref m_kept, .int 0, .int 1, .int 0, .ref m_tape, .int 0, .ref m_refused, .int 0, .int (-1), .int 0, .int 0, .int 0, .int 0, .int (-1), .ref m_ownLetters, .ref m_flats, .int 0, .ref m_corner, .ref m_wayX, .ref m_wayY, .ref m_normal, .ref m_low, .ref m_high, .ref m_clear, .ref m_ways, .ref m_canBe, .ref m_lain, .int 0, .ref m_fewestBy, .ref m_sortOf, .int 0, .ref m_seenFlange, .ref m_seenLength])), (m_refused, .inl (g.2.1.1, 6, .inl f))] (fun (r : Int32) (u : Unit) => r = 0) (fun (u : Unit) => []) := by
  refine zCi.mk (by decide) (Nat.le_of_ble_eq_true rfl) ?_
  intro p e s m below meth c A hE hP hD hS ls hl
  obtain ⟨hx, hb, hr, hml, hown, hG, hlocks, hnm, hX, hA⟩ := hE
  have hown : s.vm.findClass RX9 = some m.cls := hown
  have hl : lv_has ls 3 [(0, .ref h0), (1, .int x), (2, .int y)] := hl
  refine lv_aload_n hx hb dX9_allow_0 rfl (lv_at hl 0 rfl) ?_
  refine va_get (D := g.1) (ci := 9) (v := .int 0) (C := RX9) (T := TX9) (N := 37) hx hb hG iX9 hown hX.1 hP 0 rfl rfl 7 (by decide) (hG _ g1424) (fun _ h9 => h9) rfl dX9_allow_1 ?_
  refine lv_if_eq (tgt := 36) hx hb dX9_allow_4 (by decide) (fun c4 => ?_) (fun c4 => (c4 (by decide)).elim)
  refine lv_aload_n hx hb dX9_allow_36 rfl (lv_at hl 0 rfl) ?_
  refine lv_iconst (v := 3) hx hb dX9_allow_37 (by decide) ?_
  refine zfi (wr := []) (va_runV (As := [.int 3]) (rest := []) ⟨hx, hb, hml, hown, hG⟩ (kX9_isRefused3 l g h0 m_told m_read m_now m_readNow m_kept m_tape m_refused m_ownLetters m_flats m_corner m_wayX m_wayY m_normal m_low m_high m_clear m_ways m_canBe m_lain m_fewestBy m_sortOf m_seenFlange m_seenLength f _) ⟨callB_of 1 hG (zGood g1549) rfl rfl rfl (hG _ g211) (hG _ g1546) hX9_isRefused ⟨Nat.le_of_ble_eq_true rfl, Nat.le_of_ble_eq_true rfl⟩, hG _ g1548, hG _ g126⟩ (zpreV (va_recv hX.1 hP (ci := 9) (q0 := 0) rfl rfl) hX hP hD hS hA [0, 1] rfl (by decide)) rfl rfl hl.1 rfl (lv_room (Nat.le_of_ble_eq_true rfl)) dX9_allow_38 ⟨Nat.le_of_ble_eq_true rfl, Nat.le_of_ble_eq_true rfl⟩) hP hD hS hA [0, 1] [] rfl rfl (by decide) (by decide) (fun r1 u2 H locs hp hP hD hS => ?_)
  refine W.cs (cells' := 0) (slots' := 0) rfl rfl ?_
  have hq3 : r1 = 0 := hp
  subst hq3
  have hP : va_P g.1 vwCl [(h0, .inr (9, [.ref m_told, .ref m_read, .ref m_now, .ref m_readNow, .ref m_kept, .int 0, .int 1, .int 0, .ref m_tape, .int 0, .ref m_refused, .int 0, .int (-1), .int 0, .int 0, .int 0, .int 0, .int (-1), .ref m_ownLetters, .ref m_flats, .int 0, .ref m_corner, .ref m_wayX, .ref m_wayY, .ref m_normal, .ref m_low, .ref m_high, .ref m_clear, .ref m_ways, .ref m_canBe, .ref m_lain, .int 0, .ref m_fewestBy, .ref m_sortOf, .int 0, .ref m_seenFlange, .ref m_seenLength])), (m_refused, .inl (g.2.1.1, 6, .inl u2))] H := hP
  have hD : va_D A [(h0, .inr (9, [.ref m_told, .ref m_read, .ref m_now, .ref m_readNow, .ref m_kept, .int 0, .int 1, .int 0, .ref m_tape, .int 0, .ref m_refused, .int 0, .int (-1), .int 0, .int 0, .int 0, .int 0, .int (-1), .ref m_ownLetters, .ref m_flats, .int 0, .ref m_corner, .ref m_wayX, .ref m_wayY, .ref m_normal, .ref m_low, .ref m_high, .ref m_clear, .ref m_ways, .ref m_canBe, .ref m_lain, .int 0, .ref m_fewestBy, .ref m_sortOf, .int 0, .ref m_seenFlange, .ref m_seenLength])), (m_refused, .inl (g.2.1.1, 6, .inl u2))] := hD
  exact zrz (rm := { frames := 1, cells := 0, slots := 0, locals := 21 }) (v := 0) () hx hb hr hlocks (rfl) (Nat.le_of_ble_eq_true rfl) (Nat.le_of_ble_eq_true rfl) (rfl) (hP.sub [] rfl) (hD.sub [] (by decide) rfl) hS dX9_allow_41
theorem dX9_press_0 : decode cX9_press 0 = .ok (.aload_n 0, 1) := by decide +kernel
theorem dX9_press_1 : decode cX9_press 1 = .ok (.getfield 32, 3) := by decide +kernel
theorem dX9_press_4 : decode cX9_press 4 = .ok (.ifCond .eq 23, 3) := by decide +kernel
theorem dX9_press_27 : decode cX9_press 27 = .ok (.aload_n 0, 1) := by decide +kernel
theorem dX9_press_28 : decode cX9_press 28 = .ok (.iconst 3, 1) := by decide +kernel
theorem dX9_press_29 : decode cX9_press 29 = .ok (.invokevirtual 132, 3) := by decide +kernel
theorem dX9_press_32 : decode cX9_press 32 = .ok (.ireturn, 1) := by decide +kernel
set_option maxHeartbeats 4000000 in
set_option maxRecDepth 100000 in
theorem kX9_press (l : Launch) (g : zL) (h0 : Nat) (x : Int32) (m_told : Nat) (m_read : Nat) (m_now : Nat) (m_readNow : Nat) (m_kept : Nat) (m_tape : Nat) (m_refused : Nat) (m_ownLetters : Nat) (m_flats : Nat) (m_corner : Nat) (m_wayX : Nat) (m_wayY : Nat) (m_normal : Nat) (m_low : Nat) (m_high : Nat) (m_clear : Nat) (m_ways : Nat) (m_canBe : Nat) (m_lain : Nat) (m_fewestBy : Nat) (m_sortOf : Nat) (m_seenFlange : Nat) (m_seenLength : Nat) (f : Nat → Int32) : zCi l g yX9_press cX9_press 2 (some .boolean) { frames := 1, cells := 0, slots := 0, locals := 21 } [.ref h0, .int x] [(h0, .inr (9, [.ref m_told, .ref m_read, .ref m_now, .ref m_readNow, .ref m_kept, .int 0, .int 1, .int 0, .ref m_tape, .int 0, .ref m_refused, .int 0, .int (-1), .int 0, .int 0, .int 0, .int 0, .int (-1), .ref m_ownLetters, .ref m_flats, .int 0, .ref m_corner, .ref m_wayX, .ref m_wayY, .ref m_normal, .ref m_low, .ref m_high, .ref m_clear, .ref m_ways, .ref m_canBe, .ref m_lain, .int 0, .ref m_fewestBy, .ref m_sortOf, .int 0, .ref m_seenFlange, .ref m_seenLength])), (m_refused, .inl (g.2.1.1, 6, .inl f))] (fun (r : Int32) (u : Unit) => r = 0) (fun (u : Unit) => []) := by
  refine zCi.mk (by decide) (Nat.le_of_ble_eq_true rfl) ?_
  intro p e s m below meth c A hE hP hD hS ls hl
  obtain ⟨hx, hb, hr, hml, hown, hG, hlocks, hnm, hX, hA⟩ := hE
  have hown : s.vm.findClass RX9 = some m.cls := hown
  have hl : lv_has ls 2 [(0, .ref h0), (1, .int x)] := hl
  refine lv_aload_n hx hb dX9_press_0 rfl (lv_at hl 0 rfl) ?_
  refine va_get (D := g.1) (ci := 9) (v := .int 0) (C := RX9) (T := TX9) (N := 37) hx hb hG iX9 hown hX.1 hP 0 rfl rfl 7 (by decide) (hG _ g1424) (fun _ h9 => h9) rfl dX9_press_1 ?_
  refine lv_if_eq (tgt := 27) hx hb dX9_press_4 (by decide) (fun c4 => ?_) (fun c4 => (c4 (by decide)).elim)
  refine lv_aload_n hx hb dX9_press_27 rfl (lv_at hl 0 rfl) ?_
  refine lv_iconst (v := 3) hx hb dX9_press_28 (by decide) ?_
  refine zfi (wr := []) (va_runV (As := [.int 3]) (rest := []) ⟨hx, hb, hml, hown, hG⟩ (kX9_isRefused3 l g h0 m_told m_read m_now m_readNow m_kept m_tape m_refused m_ownLetters m_flats m_corner m_wayX m_wayY m_normal m_low m_high m_clear m_ways m_canBe m_lain m_fewestBy m_sortOf m_seenFlange m_seenLength f _) ⟨callB_of 1 hG (zGood g1549) rfl rfl rfl (hG _ g211) (hG _ g1546) hX9_isRefused ⟨Nat.le_of_ble_eq_true rfl, Nat.le_of_ble_eq_true rfl⟩, hG _ g1548, hG _ g126⟩ (zpreV (va_recv hX.1 hP (ci := 9) (q0 := 0) rfl rfl) hX hP hD hS hA [0, 1] rfl (by decide)) rfl rfl hl.1 rfl (lv_room (Nat.le_of_ble_eq_true rfl)) dX9_press_29 ⟨Nat.le_of_ble_eq_true rfl, Nat.le_of_ble_eq_true rfl⟩) hP hD hS hA [0, 1] [] rfl rfl (by decide) (by decide) (fun r1 u2 H locs hp hP hD hS => ?_)
  refine W.cs (cells' := 0) (slots' := 0) rfl rfl ?_
  have hq3 : r1 = 0 := hp
  subst hq3
  have hP : va_P g.1 vwCl [(h0, .inr (9, [.ref m_told, .ref m_read, .ref m_now, .ref m_readNow, .ref m_kept, .int 0, .int 1, .int 0, .ref m_tape, .int 0, .ref m_refused, .int 0, .int (-1), .int 0, .int 0, .int 0, .int 0, .int (-1), .ref m_ownLetters, .ref m_flats, .int 0, .ref m_corner, .ref m_wayX, .ref m_wayY, .ref m_normal, .ref m_low, .ref m_high, .ref m_clear, .ref m_ways, .ref m_canBe, .ref m_lain, .int 0, .ref m_fewestBy, .ref m_sortOf, .int 0, .ref m_seenFlange, .ref m_seenLength])), (m_refused, .inl (g.2.1.1, 6, .inl u2))] H := hP
  have hD : va_D A [(h0, .inr (9, [.ref m_told, .ref m_read, .ref m_now, .ref m_readNow, .ref m_kept, .int 0, .int 1, .int 0, .ref m_tape, .int 0, .ref m_refused, .int 0, .int (-1), .int 0, .int 0, .int 0, .int 0, .int (-1), .ref m_ownLetters, .ref m_flats, .int 0, .ref m_corner, .ref m_wayX, .ref m_wayY, .ref m_normal, .ref m_low, .ref m_high, .ref m_clear, .ref m_ways, .ref m_canBe, .ref m_lain, .int 0, .ref m_fewestBy, .ref m_sortOf, .int 0, .ref m_seenFlange, .ref m_seenLength])), (m_refused, .inl (g.2.1.1, 6, .inl u2))] := hD
  exact zrz (rm := { frames := 1, cells := 0, slots := 0, locals := 21 }) (v := 0) () hx hb hr hlocks (rfl) (Nat.le_of_ble_eq_true rfl) (Nat.le_of_ble_eq_true rfl) (rfl) (hP.sub [] rfl) (hD.sub [] (by decide) rfl) hS dX9_press_32
theorem dX9_chance_0 : decode cX9_chance 0 = .ok (.aload_n 0, 1) := by decide +kernel
theorem dX9_chance_1 : decode cX9_chance 1 = .ok (.invokevirtual 216, 3) := by decide +kernel
theorem dX9_chance_4 : decode cX9_chance 4 = .ok (.ifCond .eq 13, 3) := by decide +kernel
theorem dX9_chance_17 : decode cX9_chance 17 = .ok (.aload_n 0, 1) := by decide +kernel
theorem dX9_chance_18 : decode cX9_chance 18 = .ok (.iconst 3, 1) := by decide +kernel
theorem dX9_chance_19 : decode cX9_chance 19 = .ok (.invokevirtual 124, 3) := by decide +kernel
theorem dX9_chance_22 : decode cX9_chance 22 = .ok (.ireturn, 1) := by decide +kernel
set_option maxHeartbeats 4000000 in
set_option maxRecDepth 100000 in
theorem kX9_chance (l : Launch) (g : zL) (h0 : Nat) (x : Int32) (m_told : Nat) (m_read : Nat) (m_now : Nat) (m_readNow : Nat) (m_kept : Nat) (m_tape : Nat) (m_refused : Nat) (m_ownLetters : Nat) (m_flats : Nat) (m_corner : Nat) (m_wayX : Nat) (m_wayY : Nat) (m_normal : Nat) (m_low : Nat) (m_high : Nat) (m_clear : Nat) (m_ways : Nat) (m_canBe : Nat) (m_lain : Nat) (m_fewestBy : Nat) (m_sortOf : Nat) (m_seenFlange : Nat) (m_seenLength : Nat) (f : Nat → Int32) : zCi l g yX9_chance cX9_chance 5 (some .int) { frames := 1, cells := 0, slots := 0, locals := 21 } [.ref h0, .int x] [(h0, .inr (9, [.ref m_told, .ref m_read, .ref m_now, .ref m_readNow, .ref m_kept, .int 0, .int 1, .int 0, .ref m_tape, .int 0, .ref m_refused, .int 0, .int (-1), .int 0, .int 0, .int 0, .int 0, .int (-1), .ref m_ownLetters, .ref m_flats, .int 0, .ref m_corner, .ref m_wayX, .ref m_wayY, .ref m_normal, .ref m_low, .ref m_high, .ref m_clear, .ref m_ways, .ref m_canBe, .ref m_lain, .int 0, .ref m_fewestBy, .ref m_sortOf, .int 0, .ref m_seenFlange, .ref m_seenLength])), (m_refused, .inl (g.2.1.1, 6, .inl f))] (fun (r : Int32) (u : Unit) => r = (-1)) (fun (u : Unit) => []) := by
  refine zCi.mk (by decide) (Nat.le_of_ble_eq_true rfl) ?_
  intro p e s m below meth c A hE hP hD hS ls hl
  obtain ⟨hx, hb, hr, hml, hown, hG, hlocks, hnm, hX, hA⟩ := hE
  have hown : s.vm.findClass RX9 = some m.cls := hown
  have hl : lv_has ls 5 [(0, .ref h0), (1, .int x)] := hl
  refine lv_aload_n hx hb dX9_chance_0 rfl (lv_at hl 0 rfl) ?_
  refine zfi (wr := [(m_refused, .inl (g.2.1.1, 6, .inl f))]) (va_runV (As := []) (rest := []) ⟨hx, hb, hml, hown, hG⟩ (kX9_bendMany l g h0 m_told m_read m_now m_readNow m_kept m_tape m_refused m_ownLetters m_flats m_corner m_wayX m_wayY m_normal m_low m_high m_clear m_ways m_canBe m_lain m_fewestBy m_sortOf m_seenFlange m_seenLength _) ⟨callB_of 0 hG (zGood g1677) rfl rfl rfl (hG _ g211) (hG _ g1674) hX9_bendMany ⟨Nat.le_of_ble_eq_true rfl, Nat.le_of_ble_eq_true rfl⟩, hG _ g1676, hG _ g150⟩ (zpreV (va_recv hX.1 hP (ci := 9) (q0 := 0) rfl rfl) hX hP hD hS hA [0] rfl (by decide)) rfl rfl hl.1 rfl (lv_room (Nat.le_of_ble_eq_true rfl)) dX9_chance_1 ⟨Nat.le_of_ble_eq_true rfl, Nat.le_of_ble_eq_true rfl⟩) hP hD hS hA [0] [1] rfl rfl (by decide) (by decide) (fun r1 _ H locs hp hP hD hS => ?_)
  refine W.cs (cells' := 0) (slots' := 0) rfl rfl ?_
  have hq2 : r1 = 0 := hp
  subst hq2
  have hP : va_P g.1 vwCl [(m_refused, .inl (g.2.1.1, 6, .inl f)), (h0, .inr (9, [.ref m_told, .ref m_read, .ref m_now, .ref m_readNow, .ref m_kept, .int 0, .int 1, .int 0, .ref m_tape, .int 0, .ref m_refused, .int 0, .int (-1), .int 0, .int 0, .int 0, .int 0, .int (-1), .ref m_ownLetters, .ref m_flats, .int 0, .ref m_corner, .ref m_wayX, .ref m_wayY, .ref m_normal, .ref m_low, .ref m_high, .ref m_clear, .ref m_ways, .ref m_canBe, .ref m_lain, .int 0, .ref m_fewestBy, .ref m_sortOf, .int 0, .ref m_seenFlange, .ref m_seenLength]))] H := hP
  have hD : va_D A [(m_refused, .inl (g.2.1.1, 6, .inl f)), (h0, .inr (9, [.ref m_told, .ref m_read, .ref m_now, .ref m_readNow, .ref m_kept, .int 0, .int 1, .int 0, .ref m_tape, .int 0, .ref m_refused, .int 0, .int (-1), .int 0, .int 0, .int 0, .int 0, .int (-1), .ref m_ownLetters, .ref m_flats, .int 0, .ref m_corner, .ref m_wayX, .ref m_wayY, .ref m_normal, .ref m_low, .ref m_high, .ref m_clear, .ref m_ways, .ref m_canBe, .ref m_lain, .int 0, .ref m_fewestBy, .ref m_sortOf, .int 0, .ref m_seenFlange, .ref m_seenLength]))] := hD
  refine lv_if_eq (tgt := 17) hx hb dX9_chance_4 (by decide) (fun c4 => ?_) (fun c4 => (c4 (by decide)).elim)
  refine lv_aload_n hx hb dX9_chance_17 rfl (lv_at hl 0 rfl) ?_
  refine lv_iconst (v := 3) hx hb dX9_chance_18 (by decide) ?_
  refine zfi (wr := []) (va_runV (As := [.int 3]) (rest := []) ⟨hx, hb, hml, hown, hG⟩ (kX9_refuses3 l g h0 m_told m_read m_now m_readNow m_kept m_tape m_refused m_ownLetters m_flats m_corner m_wayX m_wayY m_normal m_low m_high m_clear m_ways m_canBe m_lain m_fewestBy m_sortOf m_seenFlange m_seenLength f _) ⟨callB_of 1 hG (zGood g1537) rfl rfl rfl (hG _ g211) (hG _ g1534) hX9_refuses ⟨Nat.le_of_ble_eq_true rfl, Nat.le_of_ble_eq_true rfl⟩, hG _ g1536, hG _ g124⟩ (zpreV (va_recv hX.1 hP (ci := 9) (q0 := 1) rfl rfl) hX hP hD hS hA [1, 0] rfl (by decide)) rfl rfl hl.1 rfl (lv_room (Nat.le_of_ble_eq_true rfl)) dX9_chance_19 ⟨Nat.le_of_ble_eq_true rfl, Nat.le_of_ble_eq_true rfl⟩) hP hD hS hA [1, 0] [] rfl rfl (by decide) (by decide) (fun r3 u4 H locs hp hP hD hS => ?_)
  refine W.cs (cells' := 0) (slots' := 0) rfl rfl ?_
  have hq5 : r3 = (-1) := hp
  subst hq5
  have hP : va_P g.1 vwCl [(h0, .inr (9, [.ref m_told, .ref m_read, .ref m_now, .ref m_readNow, .ref m_kept, .int 0, .int 1, .int 0, .ref m_tape, .int 0, .ref m_refused, .int 0, .int (-1), .int 0, .int 0, .int 0, .int 0, .int (-1), .ref m_ownLetters, .ref m_flats, .int 0, .ref m_corner, .ref m_wayX, .ref m_wayY, .ref m_normal, .ref m_low, .ref m_high, .ref m_clear, .ref m_ways, .ref m_canBe, .ref m_lain, .int 0, .ref m_fewestBy, .ref m_sortOf, .int 0, .ref m_seenFlange, .ref m_seenLength])), (m_refused, .inl (g.2.1.1, 6, .inl u4))] H := hP
  have hD : va_D A [(h0, .inr (9, [.ref m_told, .ref m_read, .ref m_now, .ref m_readNow, .ref m_kept, .int 0, .int 1, .int 0, .ref m_tape, .int 0, .ref m_refused, .int 0, .int (-1), .int 0, .int 0, .int 0, .int 0, .int (-1), .ref m_ownLetters, .ref m_flats, .int 0, .ref m_corner, .ref m_wayX, .ref m_wayY, .ref m_normal, .ref m_low, .ref m_high, .ref m_clear, .ref m_ways, .ref m_canBe, .ref m_lain, .int 0, .ref m_fewestBy, .ref m_sortOf, .int 0, .ref m_seenFlange, .ref m_seenLength])), (m_refused, .inl (g.2.1.1, 6, .inl u4))] := hD
  exact zri (rm := { frames := 1, cells := 0, slots := 0, locals := 21 }) (v := (-1)) () hx hb hr hlocks (Nat.le_of_ble_eq_true rfl) (Nat.le_of_ble_eq_true rfl) (rfl) (hP.sub [] rfl) (hD.sub [] (by decide) rfl) hS dX9_chance_22
theorem dX9_undo_0 : decode cX9_undo 0 = .ok (.aload_n 0, 1) := by decide +kernel
theorem dX9_undo_1 : decode cX9_undo 1 = .ok (.getfield 25, 3) := by decide +kernel
theorem dX9_undo_4 : decode cX9_undo 4 = .ok (.ifCond .ne 9, 3) := by decide +kernel
theorem dX9_undo_7 : decode cX9_undo 7 = .ok (.aload_n 0, 1) := by decide +kernel
theorem dX9_undo_8 : decode cX9_undo 8 = .ok (.iconst 4, 1) := by decide +kernel
theorem dX9_undo_9 : decode cX9_undo 9 = .ok (.invokevirtual 132, 3) := by decide +kernel
theorem dX9_undo_12 : decode cX9_undo 12 = .ok (.ireturn, 1) := by decide +kernel
set_option maxHeartbeats 4000000 in
set_option maxRecDepth 100000 in
theorem kX9_undo (l : Launch) (g : zL) (h0 : Nat) (m_told : Nat) (m_read : Nat) (m_now : Nat) (m_readNow : Nat) (m_kept : Nat) (m_tape : Nat) (m_refused : Nat) (m_ownLetters : Nat) (m_flats : Nat) (m_corner : Nat) (m_wayX : Nat) (m_wayY : Nat) (m_normal : Nat) (m_low : Nat) (m_high : Nat) (m_clear : Nat) (m_ways : Nat) (m_canBe : Nat) (m_lain : Nat) (m_fewestBy : Nat) (m_sortOf : Nat) (m_seenFlange : Nat) (m_seenLength : Nat) (f : Nat → Int32) : zCi l g yX9_undo cX9_undo 2 (some .boolean) { frames := 1, cells := 0, slots := 0, locals := 21 } [.ref h0] [(h0, .inr (9, [.ref m_told, .ref m_read, .ref m_now, .ref m_readNow, .ref m_kept, .int 0, .int 1, .int 0, .ref m_tape, .int 0, .ref m_refused, .int 0, .int (-1), .int 0, .int 0, .int 0, .int 0, .int (-1), .ref m_ownLetters, .ref m_flats, .int 0, .ref m_corner, .ref m_wayX, .ref m_wayY, .ref m_normal, .ref m_low, .ref m_high, .ref m_clear, .ref m_ways, .ref m_canBe, .ref m_lain, .int 0, .ref m_fewestBy, .ref m_sortOf, .int 0, .ref m_seenFlange, .ref m_seenLength])), (m_refused, .inl (g.2.1.1, 6, .inl f))] (fun (r : Int32) (u : Unit) => r = 0) (fun (u : Unit) => []) := by
  refine zCi.mk (by decide) (Nat.le_of_ble_eq_true rfl) ?_
  intro p e s m below meth c A hE hP hD hS ls hl
  obtain ⟨hx, hb, hr, hml, hown, hG, hlocks, hnm, hX, hA⟩ := hE
  have hown : s.vm.findClass RX9 = some m.cls := hown
  have hl : lv_has ls 2 [(0, .ref h0)] := hl
  refine lv_aload_n hx hb dX9_undo_0 rfl (lv_at hl 0 rfl) ?_
  refine va_get (D := g.1) (ci := 9) (v := .int 0) (C := RX9) (T := TX9) (N := 37) hx hb hG iX9 hown hX.1 hP 0 rfl rfl 5 (by decide) (hG _ g1422) (fun _ h9 => h9) rfl dX9_undo_1 ?_
  refine lv_if_ne (tgt := 13) hx hb dX9_undo_4 (by decide) (fun c4 => (c4 (by decide)).elim) (fun c4 => ?_)
  refine lv_aload_n hx hb dX9_undo_7 rfl (lv_at hl 0 rfl) ?_
  refine lv_iconst (v := 4) hx hb dX9_undo_8 (by decide) ?_
  refine zfi (wr := []) (va_runV (As := [.int 4]) (rest := []) ⟨hx, hb, hml, hown, hG⟩ (kX9_isRefused4 l g h0 m_told m_read m_now m_readNow m_kept m_tape m_refused m_ownLetters m_flats m_corner m_wayX m_wayY m_normal m_low m_high m_clear m_ways m_canBe m_lain m_fewestBy m_sortOf m_seenFlange m_seenLength f _) ⟨callB_of 1 hG (zGood g1549) rfl rfl rfl (hG _ g211) (hG _ g1546) hX9_isRefused ⟨Nat.le_of_ble_eq_true rfl, Nat.le_of_ble_eq_true rfl⟩, hG _ g1548, hG _ g126⟩ (zpreV (va_recv hX.1 hP (ci := 9) (q0 := 0) rfl rfl) hX hP hD hS hA [0, 1] rfl (by decide)) rfl rfl hl.1 rfl (lv_room (Nat.le_of_ble_eq_true rfl)) dX9_undo_9 ⟨Nat.le_of_ble_eq_true rfl, Nat.le_of_ble_eq_true rfl⟩) hP hD hS hA [0, 1] [] rfl rfl (by decide) (by decide) (fun r1 u2 H locs hp hP hD hS => ?_)
  refine W.cs (cells' := 0) (slots' := 0) rfl rfl ?_
  have hq3 : r1 = 0 := hp
  subst hq3
  have hP : va_P g.1 vwCl [(h0, .inr (9, [.ref m_told, .ref m_read, .ref m_now, .ref m_readNow, .ref m_kept, .int 0, .int 1, .int 0, .ref m_tape, .int 0, .ref m_refused, .int 0, .int (-1), .int 0, .int 0, .int 0, .int 0, .int (-1), .ref m_ownLetters, .ref m_flats, .int 0, .ref m_corner, .ref m_wayX, .ref m_wayY, .ref m_normal, .ref m_low, .ref m_high, .ref m_clear, .ref m_ways, .ref m_canBe, .ref m_lain, .int 0, .ref m_fewestBy, .ref m_sortOf, .int 0, .ref m_seenFlange, .ref m_seenLength])), (m_refused, .inl (g.2.1.1, 6, .inl u2))] H := hP
  have hD : va_D A [(h0, .inr (9, [.ref m_told, .ref m_read, .ref m_now, .ref m_readNow, .ref m_kept, .int 0, .int 1, .int 0, .ref m_tape, .int 0, .ref m_refused, .int 0, .int (-1), .int 0, .int 0, .int 0, .int 0, .int (-1), .ref m_ownLetters, .ref m_flats, .int 0, .ref m_corner, .ref m_wayX, .ref m_wayY, .ref m_normal, .ref m_low, .ref m_high, .ref m_clear, .ref m_ways, .ref m_canBe, .ref m_lain, .int 0, .ref m_fewestBy, .ref m_sortOf, .int 0, .ref m_seenFlange, .ref m_seenLength])), (m_refused, .inl (g.2.1.1, 6, .inl u2))] := hD
  exact zrz (rm := { frames := 1, cells := 0, slots := 0, locals := 21 }) (v := 0) () hx hb hr hlocks (rfl) (Nat.le_of_ble_eq_true rfl) (Nat.le_of_ble_eq_true rfl) (rfl) (hP.sub [] rfl) (hD.sub [] (by decide) rfl) hS dX9_undo_12
theorem dX9_seed_0 : decode cX9_seed 0 = .ok (.iload_n 1, 1) := by decide +kernel
theorem dX9_seed_1 : decode cX9_seed 1 = .ok (.ifCond .ge 9, 3) := by decide +kernel
theorem dX9_seed_10 : decode cX9_seed 10 = .ok (.aload_n 0, 1) := by decide +kernel
theorem dX9_seed_11 : decode cX9_seed 11 = .ok (.iload_n 1, 1) := by decide +kernel
theorem dX9_seed_12 : decode cX9_seed 12 = .ok (.putfield 29, 3) := by decide +kernel
theorem dX9_seed_15 : decode cX9_seed 15 = .ok (.iconst 1, 1) := by decide +kernel
theorem dX9_seed_16 : decode cX9_seed 16 = .ok (.ireturn, 1) := by decide +kernel
theorem dX9_seed_4 : decode cX9_seed 4 = .ok (.aload_n 0, 1) := by decide +kernel
theorem dX9_seed_5 : decode cX9_seed 5 = .ok (.iconst 5, 1) := by decide +kernel
theorem dX9_seed_6 : decode cX9_seed 6 = .ok (.invokevirtual 132, 3) := by decide +kernel
theorem dX9_seed_9 : decode cX9_seed 9 = .ok (.ireturn, 1) := by decide +kernel
set_option maxHeartbeats 4000000 in
set_option maxRecDepth 100000 in
theorem kX9_seed (l : Launch) (g : zL) (h0 : Nat) (x : Int32) (m_told : Nat) (m_read : Nat) (m_now : Nat) (m_readNow : Nat) (m_kept : Nat) (m_tape : Nat) (m_refused : Nat) (m_ownLetters : Nat) (m_flats : Nat) (m_corner : Nat) (m_wayX : Nat) (m_wayY : Nat) (m_normal : Nat) (m_low : Nat) (m_high : Nat) (m_clear : Nat) (m_ways : Nat) (m_canBe : Nat) (m_lain : Nat) (m_fewestBy : Nat) (m_sortOf : Nat) (m_seenFlange : Nat) (m_seenLength : Nat) (f : Nat → Int32) : zCi l g yX9_seed cX9_seed 2 (some .boolean) { frames := 1, cells := 0, slots := 0, locals := 21 } [.ref h0, .int x] [(h0, .inr (9, [.ref m_told, .ref m_read, .ref m_now, .ref m_readNow, .ref m_kept, .int 0, .int 1, .int 0, .ref m_tape, .int 0, .ref m_refused, .int 0, .int (-1), .int 0, .int 0, .int 0, .int 0, .int (-1), .ref m_ownLetters, .ref m_flats, .int 0, .ref m_corner, .ref m_wayX, .ref m_wayY, .ref m_normal, .ref m_low, .ref m_high, .ref m_clear, .ref m_ways, .ref m_canBe, .ref m_lain, .int 0, .ref m_fewestBy, .ref m_sortOf, .int 0, .ref m_seenFlange, .ref m_seenLength])), (m_refused, .inl (g.2.1.1, 6, .inl f))] (fun (r : Int32) (u : Unit) => r = sp_seed x) (fun (u : Unit) => []) := by
  refine zCi.mk (by decide) (Nat.le_of_ble_eq_true rfl) ?_
  intro p e s m below meth c A hE hP hD hS ls hl
  obtain ⟨hx, hb, hr, hml, hown, hG, hlocks, hnm, hX, hA⟩ := hE
  have hown : s.vm.findClass RX9 = some m.cls := hown
  have hl : lv_has ls 2 [(0, .ref h0), (1, .int x)] := hl
  refine lv_iload_n hx hb dX9_seed_0 rfl (lv_at hl 1 rfl) ?_
  refine lv_if_ge (tgt := 10) hx hb dX9_seed_1 (by decide) (fun c1 => ?_) (fun c1 => ?_)
  · skip
    have c1i : 0 ≤ x.toInt := (zc_le (show (0 : Int32).toInt = 0 from by decide) (rfl : x.toInt = _)).mp c1
    refine lv_aload_n hx hb dX9_seed_10 rfl (lv_at hl 0 rfl) ?_
    refine lv_iload_n hx hb dX9_seed_11 rfl (lv_at hl 1 rfl) ?_
    refine va_put (D := g.1) (ci := 9) (v := .int x) (ty := .int) (C := RX9) (T := TX9) (N := 37) hx hb hG iX9 tyX9 tyX9_ok nmX9 hown hX.1 hP hD hS 0 rfl rfl 6 (by decide) (hG _ g1423) (fun _ h9 => h9) rfl (by decide +kernel) rfl rfl (Nat.le_of_ble_eq_true rfl) dX9_seed_12 (fun H locs hP hD hS => ?_)
    have hP : va_P g.1 vwCl [(h0, .inr (9, [.ref m_told, .ref m_read, .ref m_now, .ref m_readNow, .ref m_kept, .int 0, .int x, .int 0, .ref m_tape, .int 0, .ref m_refused, .int 0, .int (-1), .int 0, .int 0, .int 0, .int 0, .int (-1), .ref m_ownLetters, .ref m_flats, .int 0, .ref m_corner, .ref m_wayX, .ref m_wayY, .ref m_normal, .ref m_low, .ref m_high, .ref m_clear, .ref m_ways, .ref m_canBe, .ref m_lain, .int 0, .ref m_fewestBy, .ref m_sortOf, .int 0, .ref m_seenFlange, .ref m_seenLength])), (m_refused, .inl (g.2.1.1, 6, .inl f))] H := hP
    have hD : va_D A [(h0, .inr (9, [.ref m_told, .ref m_read, .ref m_now, .ref m_readNow, .ref m_kept, .int 0, .int x, .int 0, .ref m_tape, .int 0, .ref m_refused, .int 0, .int (-1), .int 0, .int 0, .int 0, .int 0, .int (-1), .ref m_ownLetters, .ref m_flats, .int 0, .ref m_corner, .ref m_wayX, .ref m_wayY, .ref m_normal, .ref m_low, .ref m_high, .ref m_clear, .ref m_ways, .ref m_canBe, .ref m_lain, .int 0, .ref m_fewestBy, .ref m_sortOf, .int 0, .ref m_seenFlange, .ref m_seenLength])), (m_refused, .inl (g.2.1.1, 6, .inl f))] := hD
    refine lv_iconst (v := 1) hx hb dX9_seed_15 (by decide) ?_
    exact zrz (rm := { frames := 1, cells := 0, slots := 0, locals := 21 }) (v := 1) () hx hb hr hlocks (rfl) (Nat.le_of_ble_eq_true rfl) (Nat.le_of_ble_eq_true rfl) (by first | exact (sp_seed_t (by omega)).symm | exact (sp_seed_f (by omega)).symm) (hP.sub [] rfl) (hD.sub [] (by decide) rfl) hS dX9_seed_16
  · skip
    have c1i : ¬ 0 ≤ x.toInt := fun q => c1 ((zc_le (show (0 : Int32).toInt = 0 from by decide) (rfl : x.toInt = _)).mpr q)
    refine lv_aload_n hx hb dX9_seed_4 rfl (lv_at hl 0 rfl) ?_
    refine lv_iconst (v := 5) hx hb dX9_seed_5 (by decide) ?_
    refine zfi (wr := []) (va_runV (As := [.int 5]) (rest := []) ⟨hx, hb, hml, hown, hG⟩ (kX9_isRefused5 l g h0 m_told m_read m_now m_readNow m_kept m_tape m_refused m_ownLetters m_flats m_corner m_wayX m_wayY m_normal m_low m_high m_clear m_ways m_canBe m_lain m_fewestBy m_sortOf m_seenFlange m_seenLength f _) ⟨callB_of 1 hG (zGood g1549) rfl rfl rfl (hG _ g211) (hG _ g1546) hX9_isRefused ⟨Nat.le_of_ble_eq_true rfl, Nat.le_of_ble_eq_true rfl⟩, hG _ g1548, hG _ g126⟩ (zpreV (va_recv hX.1 hP (ci := 9) (q0 := 0) rfl rfl) hX hP hD hS hA [0, 1] rfl (by decide)) rfl rfl hl.1 rfl (lv_room (Nat.le_of_ble_eq_true rfl)) dX9_seed_6 ⟨Nat.le_of_ble_eq_true rfl, Nat.le_of_ble_eq_true rfl⟩) hP hD hS hA [0, 1] [] rfl rfl (by decide) (by decide) (fun r1 u2 H locs hp hP hD hS => ?_)
    refine W.cs (cells' := 0) (slots' := 0) rfl rfl ?_
    have hq3 : r1 = 0 := hp
    subst hq3
    have hP : va_P g.1 vwCl [(h0, .inr (9, [.ref m_told, .ref m_read, .ref m_now, .ref m_readNow, .ref m_kept, .int 0, .int 1, .int 0, .ref m_tape, .int 0, .ref m_refused, .int 0, .int (-1), .int 0, .int 0, .int 0, .int 0, .int (-1), .ref m_ownLetters, .ref m_flats, .int 0, .ref m_corner, .ref m_wayX, .ref m_wayY, .ref m_normal, .ref m_low, .ref m_high, .ref m_clear, .ref m_ways, .ref m_canBe, .ref m_lain, .int 0, .ref m_fewestBy, .ref m_sortOf, .int 0, .ref m_seenFlange, .ref m_seenLength])), (m_refused, .inl (g.2.1.1, 6, .inl u2))] H := hP
    have hD : va_D A [(h0, .inr (9, [.ref m_told, .ref m_read, .ref m_now, .ref m_readNow, .ref m_kept, .int 0, .int 1, .int 0, .ref m_tape, .int 0, .ref m_refused, .int 0, .int (-1), .int 0, .int 0, .int 0, .int 0, .int (-1), .ref m_ownLetters, .ref m_flats, .int 0, .ref m_corner, .ref m_wayX, .ref m_wayY, .ref m_normal, .ref m_low, .ref m_high, .ref m_clear, .ref m_ways, .ref m_canBe, .ref m_lain, .int 0, .ref m_fewestBy, .ref m_sortOf, .int 0, .ref m_seenFlange, .ref m_seenLength])), (m_refused, .inl (g.2.1.1, 6, .inl u2))] := hD
    exact zrz (rm := { frames := 1, cells := 0, slots := 0, locals := 21 }) (v := 0) () hx hb hr hlocks (rfl) (Nat.le_of_ble_eq_true rfl) (Nat.le_of_ble_eq_true rfl) (by first | exact (sp_seed_t (by omega)).symm | exact (sp_seed_f (by omega)).symm) (hP.sub [] rfl) (hD.sub [] (by decide) rfl) hS dX9_seed_9
theorem dX9_status_0 : decode cX9_status 0 = .ok (.iload_n 1, 1) := by decide +kernel
theorem dX9_status_1 : decode cX9_status 1 = .ok (.iconst 0, 1) := by decide +kernel
theorem dX9_status_2 : decode cX9_status 2 = .ok (.iconst 5, 1) := by decide +kernel
theorem dX9_status_3 : decode cX9_status 3 = .ok (.invokestatic 163, 3) := by decide +kernel
theorem dX9_status_6 : decode cX9_status 6 = .ok (.ifCond .eq 12, 3) := by decide +kernel
theorem dX9_status_18 : decode cX9_status 18 = .ok (.iconst (-1), 1) := by decide +kernel
theorem dX9_status_19 : decode cX9_status 19 = .ok (.ireturn, 1) := by decide +kernel
theorem dX9_status_9 : decode cX9_status 9 = .ok (.aload_n 0, 1) := by decide +kernel
theorem dX9_status_10 : decode cX9_status 10 = .ok (.getfield 42, 3) := by decide +kernel
theorem dX9_status_13 : decode cX9_status 13 = .ok (.iload_n 1, 1) := by decide +kernel
theorem dX9_status_14 : decode cX9_status 14 = .ok (.iaload, 1) := by decide +kernel
theorem dX9_status_15 : decode cX9_status 15 = .ok (.goto 4, 3) := by decide +kernel
set_option maxHeartbeats 4000000 in
set_option maxRecDepth 100000 in
theorem kX9_status (l : Launch) (g : zL) (h0 : Nat) (x : Int32) (m_told : Nat) (m_read : Nat) (m_now : Nat) (m_readNow : Nat) (m_kept : Nat) (m_tape : Nat) (m_refused : Nat) (m_ownLetters : Nat) (m_flats : Nat) (m_corner : Nat) (m_wayX : Nat) (m_wayY : Nat) (m_normal : Nat) (m_low : Nat) (m_high : Nat) (m_clear : Nat) (m_ways : Nat) (m_canBe : Nat) (m_lain : Nat) (m_fewestBy : Nat) (m_sortOf : Nat) (m_seenFlange : Nat) (m_seenLength : Nat) : zCi l g yX9_status cX9_status 2 (some .int) { frames := 1, cells := 0, slots := 0, locals := 22 } [.ref h0, .int x] [(h0, .inr (9, [.ref m_told, .ref m_read, .ref m_now, .ref m_readNow, .ref m_kept, .int 0, .int 1, .int 0, .ref m_tape, .int 0, .ref m_refused, .int 0, .int (-1), .int 0, .int 0, .int 0, .int 0, .int (-1), .ref m_ownLetters, .ref m_flats, .int 0, .ref m_corner, .ref m_wayX, .ref m_wayY, .ref m_normal, .ref m_low, .ref m_high, .ref m_clear, .ref m_ways, .ref m_canBe, .ref m_lain, .int 0, .ref m_fewestBy, .ref m_sortOf, .int 0, .ref m_seenFlange, .ref m_seenLength])), (m_refused, .inl (g.2.1.1, 6, .inl (fun _ => 0)))] (fun (r : Int32) (u : Unit) => r = sp_status x) (fun (u : Unit) => []) := by
  refine zCi.mk (by decide) (Nat.le_of_ble_eq_true rfl) ?_
  intro p e s m below meth c A hE hP hD hS ls hl
  obtain ⟨hx, hb, hr, hml, hown, hG, hlocks, hnm, hX, hA⟩ := hE
  have hown : s.vm.findClass RX9 = some m.cls := hown
  have hl : lv_has ls 2 [(0, .ref h0), (1, .int x)] := hl
  refine lv_iload_n hx hb dX9_status_0 rfl (lv_at hl 1 rfl) ?_
  refine lv_iconst (v := 0) hx hb dX9_status_1 (by decide) ?_
  refine lv_iconst (v := 5) hx hb dX9_status_2 (by decide) ?_
  refine zfi (wr := [(h0, .inr (9, [.ref m_told, .ref m_read, .ref m_now, .ref m_readNow, .ref m_kept, .int 0, .int 1, .int 0, .ref m_tape, .int 0, .ref m_refused, .int 0, .int (-1), .int 0, .int 0, .int 0, .int 0, .int (-1), .ref m_ownLetters, .ref m_flats, .int 0, .ref m_corner, .ref m_wayX, .ref m_wayY, .ref m_normal, .ref m_low, .ref m_high, .ref m_clear, .ref m_ways, .ref m_canBe, .ref m_lain, .int 0, .ref m_fewestBy, .ref m_sortOf, .int 0, .ref m_seenFlange, .ref m_seenLength])), (m_refused, .inl (g.2.1.1, 6, .inl (fun _ => 0)))]) (va_runS (As := [.int x, .int 0, .int 5]) (rest := []) ⟨hx, hb, hml, hown, hG⟩ (kX9_isIng l g x 0 5 _) ⟨callB_of 3 hG (zGood g1608) rfl rfl rfl (hG _ g211) (hG _ g1606) hX9_isIn ⟨Nat.le_of_ble_eq_true rfl, Nat.le_of_ble_eq_true rfl⟩, hG _ g1607⟩ (zpreS hX hP hD hS hA [] rfl (by decide)) rfl rfl hl.1 rfl (lv_room (Nat.le_of_ble_eq_true rfl)) dX9_status_3 ⟨Nat.le_of_ble_eq_true rfl, Nat.le_of_ble_eq_true rfl⟩) hP hD hS hA [] [0, 1] rfl rfl (by decide) (by decide) (fun r1 _ H locs hp hP hD hS => ?_)
  refine W.cs (cells' := 0) (slots' := 0) rfl rfl ?_
  have hq2 : r1 = sp_in x 0 5 := hp
  subst hq2
  have hP : va_P g.1 vwCl [(h0, .inr (9, [.ref m_told, .ref m_read, .ref m_now, .ref m_readNow, .ref m_kept, .int 0, .int 1, .int 0, .ref m_tape, .int 0, .ref m_refused, .int 0, .int (-1), .int 0, .int 0, .int 0, .int 0, .int (-1), .ref m_ownLetters, .ref m_flats, .int 0, .ref m_corner, .ref m_wayX, .ref m_wayY, .ref m_normal, .ref m_low, .ref m_high, .ref m_clear, .ref m_ways, .ref m_canBe, .ref m_lain, .int 0, .ref m_fewestBy, .ref m_sortOf, .int 0, .ref m_seenFlange, .ref m_seenLength])), (m_refused, .inl (g.2.1.1, 6, .inl (fun _ => 0)))] H := hP
  have hD : va_D A [(h0, .inr (9, [.ref m_told, .ref m_read, .ref m_now, .ref m_readNow, .ref m_kept, .int 0, .int 1, .int 0, .ref m_tape, .int 0, .ref m_refused, .int 0, .int (-1), .int 0, .int 0, .int 0, .int 0, .int (-1), .ref m_ownLetters, .ref m_flats, .int 0, .ref m_corner, .ref m_wayX, .ref m_wayY, .ref m_normal, .ref m_low, .ref m_high, .ref m_clear, .ref m_ways, .ref m_canBe, .ref m_lain, .int 0, .ref m_fewestBy, .ref m_sortOf, .int 0, .ref m_seenFlange, .ref m_seenLength])), (m_refused, .inl (g.2.1.1, 6, .inl (fun _ => 0)))] := hD
  refine lv_if_eq (tgt := 18) hx hb dX9_status_6 (by decide) (fun c6 => ?_) (fun c6 => ?_)
  · skip
    have c6i : (sp_in x 0 5).toInt = 0 := (zc_eq (rfl : (sp_in x 0 5).toInt = _) (show (0 : Int32).toInt = 0 from by decide)).mp c6
    refine lv_iconst (v := (-1)) hx hb dX9_status_18 (by decide) ?_
    exact zri (rm := { frames := 1, cells := 0, slots := 0, locals := 22 }) (v := (-1)) () hx hb hr hlocks (Nat.le_of_ble_eq_true rfl) (Nat.le_of_ble_eq_true rfl) (by first | exact (sp_status_x (by assumption)).symm | exact (sp_status_y (by assumption)).symm) (hP.sub [] rfl) (hD.sub [] (by decide) rfl) hS dX9_status_19
  · skip
    have c6i : ¬ (sp_in x 0 5).toInt = 0 := fun q => c6 ((zc_eq (rfl : (sp_in x 0 5).toInt = _) (show (0 : Int32).toInt = 0 from by decide)).mpr q)
    refine lv_aload_n hx hb dX9_status_9 rfl (lv_at hl 0 rfl) ?_
    refine va_get (D := g.1) (ci := 9) (v := .ref m_refused) (C := RX9) (T := TX9) (N := 37) hx hb hG iX9 hown hX.1 hP 0 rfl rfl 10 (by decide) (hG _ g1427) (fun _ h9 => h9) rfl dX9_status_10 ?_
    refine lv_iload_n hx hb dX9_status_13 rfl (lv_at hl 1 rfl) ?_
    refine va_iald hx hb hX.1 hP 1 0 rfl rfl (sp_in_05 (by assumption)) dX9_status_14 ?_
    refine zt (z := 0) rfl ?_
    refine lv_goto (tgt := 19) hx hb dX9_status_15 (by decide) ?_
    exact zri (rm := { frames := 1, cells := 0, slots := 0, locals := 22 }) (v := 0) () hx hb hr hlocks (Nat.le_of_ble_eq_true rfl) (Nat.le_of_ble_eq_true rfl) (by first | exact (sp_status_x (by assumption)).symm | exact (sp_status_y (by assumption)).symm) (hP.sub [] rfl) (hD.sub [] (by decide) rfl) hS dX9_status_19
