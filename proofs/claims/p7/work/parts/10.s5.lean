theorem ox_438 {a0 a1 : Int} (h0 : 0 ≤ a0 ∧ a0 ≤ 200) (h1 : 0 ≤ a1 ∧ a1 ≤ 200) (h2 : a0 < a1) : ¬ (a0 < (0 : Int)) := by omega
theorem ox_439 {a0 a1 : Int} (h0 : 0 ≤ a0 ∧ a0 ≤ 200) (h1 : 0 ≤ a1 ∧ a1 ≤ 200) (h2 : a0 < a1) : a0 < a1 := by omega
theorem ox_440 {a0 a1 : Int} (h0 : 0 ≤ a0 ∧ a0 ≤ 200) (h1 : 0 ≤ a1 ∧ a1 ≤ 200) (h2 : a0 < a1) : 0 ≤ a0 ∧ a0 ≤ 200 := by omega
theorem ox_441 {a0 a1 : Int} (h0 : 0 ≤ a1 ∧ a1 ≤ 200) (h1 : 0 ≤ a0 ∧ a0 ≤ 200) (h2 : a1 < a0) : 0 ≤ a0 ∧ a0 ≤ 200 := by omega
theorem ox_442 {a0 : Int} (h0 : 0 ≤ a0 ∧ a0 ≤ 4) : 0 ≤ a0 ∧ a0 ≤ 200 := by omega
theorem ox_443 {a0 : Int} (h0 : 0 ≤ a0 ∧ a0 ≤ 4) : a0 < (5 : Int) := by omega
theorem ox_444 {a0 : Int} (h0 : 0 ≤ a0 ∧ a0 ≤ 4) : 0 ≤ a0 ∧ a0 < 5 := by omega
theorem ox_445 {a0 : Int} (h0 : 0 ≤ a0 ∧ a0 ≤ 4) : 0 ≤ a0 ∧ a0 ≤ 4 := by omega
theorem ox_446 {a0 : Int} (h0 : 0 ≤ a0 ∧ a0 ≤ 3) : 0 ≤ a0 ∧ a0 ≤ 200 := by omega
theorem ox_447 {a0 : Int} (h0 : 0 ≤ a0 ∧ a0 ≤ 3) : a0 < (4 : Int) := by omega
theorem ox_448 {a0 : Int} (h0 : 0 ≤ a0 ∧ a0 ≤ 3) : 0 ≤ a0 ∧ a0 < 4 := by omega
theorem ox_449 {a0 : Int} (h0 : 0 ≤ a0 ∧ a0 ≤ 3) : 0 ≤ a0 ∧ a0 ≤ 3 := by omega
theorem ox_450 {a0 : Int} (h0 : 0 ≤ a0 ∧ a0 ≤ 5) : 0 ≤ a0 ∧ a0 ≤ 200 := by omega
theorem ox_451 {a0 : Int} (h0 : 0 ≤ a0 ∧ a0 ≤ 5) : a0 < (6 : Int) := by omega
theorem ox_452 {a0 : Int} (h0 : 0 ≤ a0 ∧ a0 ≤ 5) : 0 ≤ a0 ∧ a0 < 6 := by omega
theorem ox_453 {a0 : Int} (h0 : 0 ≤ a0 ∧ a0 ≤ 95) : 0 ≤ a0 ∧ a0 ≤ 200 := by omega
theorem ox_454 {a0 : Int} (h0 : 0 ≤ a0 ∧ a0 ≤ 95) : a0 < (96 : Int) := by omega
theorem ox_455 {a0 : Int} (h0 : 0 ≤ a0 ∧ a0 ≤ 95) : 0 ≤ a0 ∧ a0 < 96 := by omega
theorem ox_456 {a0 : Int} (h0 : 0 ≤ a0 ∧ a0 ≤ 95) : 0 ≤ a0 ∧ a0 ≤ 95 := by omega
theorem ox_457 {a0 : Int} (h0 : 0 ≤ a0 ∧ a0 ≤ 1) : 0 ≤ a0 ∧ a0 ≤ 200 := by omega
theorem ox_458 {a0 : Int} (h0 : 0 ≤ a0 ∧ a0 ≤ 1) : a0 < (2 : Int) := by omega
theorem ox_459 {a0 : Int} (h0 : 0 ≤ a0 ∧ a0 ≤ 1) : 0 ≤ a0 ∧ a0 < 2 := by omega
theorem dJ3_checkIndex_8e157_0 : decode cJ3_checkIndex_8e157 0 = .ok (.iload_n 0, 1) := by decide +kernel
theorem dJ3_checkIndex_8e157_1 : decode cJ3_checkIndex_8e157 1 = .ok (.ifCond .lt 8, 3) := by decide +kernel
theorem dJ3_checkIndex_8e157_4 : decode cJ3_checkIndex_8e157 4 = .ok (.iload_n 0, 1) := by decide +kernel
theorem dJ3_checkIndex_8e157_5 : decode cJ3_checkIndex_8e157 5 = .ok (.iload_n 1, 1) := by decide +kernel
theorem dJ3_checkIndex_8e157_6 : decode cJ3_checkIndex_8e157 6 = .ok (.if_icmp .lt 10, 3) := by decide +kernel
theorem dJ3_checkIndex_8e157_16 : decode cJ3_checkIndex_8e157 16 = .ok (.iload_n 0, 1) := by decide +kernel
theorem dJ3_checkIndex_8e157_17 : decode cJ3_checkIndex_8e157 17 = .ok (.ireturn, 1) := by decide +kernel
abbrev rm_kJ3_checkIndex_8e157n : Room := { frames := 0, cells := 0, slots := 0, locals := 0 }
set_option maxHeartbeats 4000000 in
set_option maxRecDepth 100000 in
theorem kJ3_checkIndex_8e157n (l : Launch) (g : zL) (x1 : Int32) (x2 : Int32) (hy0 : 0 ≤ x1.toInt ∧ x1.toInt ≤ 200) (hy1 : 0 ≤ x2.toInt ∧ x2.toInt ≤ 200) (hy2 : x1.toInt < x2.toInt) : zCi l g yJ3_checkIndex_8e157 cJ3_checkIndex_8e157 3 (some .int) rm_kJ3_checkIndex_8e157n [.int x1, .int x2, .null] [] (fun (r : Int32) (u : Unit) => (r = x1)) (fun (u : Unit) => []) := by
  refine zCi.mk2 (by decide) (Nat.le_of_ble_eq_true rfl) ?_
  intro p e s m below meth c A args Q hE hret hP hD hS ls hl
  obtain ⟨hx, hb, hr, hml, hown, hG, hlocks, hnm, hX, hA⟩ := hE
  have hown : s.vm.findClass RJ3 = some m.cls := hown
  have hl : lv_has ls 3 [(0, .int x1), (1, .int x2), (2, .null)] := hl
  refine lv_iload_n hx hb dJ3_checkIndex_8e157_0 rfl (lv_at hl 0 rfl) ?_
  refine lv_if_lt (tgt := 9) hx hb dJ3_checkIndex_8e157_1 (by decide) (fun c3 => absurd c3 (fun q9 => absurd ((zc_lt (rfl : x1.toInt = _) (show (0 : Int32).toInt = (0 : Int) from by decide)).mp q9) (ox_438 hy0 hy1 hy2))) (fun c3 => ?_)
  refine lv_iload_n hx hb dJ3_checkIndex_8e157_4 rfl (lv_at hl 0 rfl) ?_
  refine lv_iload_n hx hb dJ3_checkIndex_8e157_5 rfl (lv_at hl 1 rfl) ?_
  refine lv_icmp_lt (tgt := 16) hx hb dJ3_checkIndex_8e157_6 (by decide) (fun c4 => ?_) (fun c4 => (c4 ((zc_lt (rfl : x1.toInt = _) (rfl : x2.toInt = _)).mpr (ox_439 hy0 hy1 hy2))).elim)
  refine lv_iload_n hx hb dJ3_checkIndex_8e157_16 rfl (lv_at hl 0 rfl) ?_
  exact hret x1 () (Nat.le_of_ble_eq_true rfl) (Nat.le_of_ble_eq_true rfl) rfl (rfl) hP hD hS dJ3_checkIndex_8e157_17
abbrev rm_kJ3_checkIndex_8e157r : Room := { frames := 0, cells := 0, slots := 0, locals := 0 }
set_option maxHeartbeats 4000000 in
set_option maxRecDepth 100000 in
theorem kJ3_checkIndex_8e157r (l : Launch) (g : zL) (x1 : Int32) (x2 : Int32) (y3 : Nat) (hy0 : 0 ≤ x1.toInt ∧ x1.toInt ≤ 200) (hy1 : 0 ≤ x2.toInt ∧ x2.toInt ≤ 200) (hy2 : x1.toInt < x2.toInt) : zCi l g yJ3_checkIndex_8e157 cJ3_checkIndex_8e157 3 (some .int) rm_kJ3_checkIndex_8e157r [.int x1, .int x2, .ref y3] [] (fun (r : Int32) (u : Unit) => (r = x1)) (fun (u : Unit) => []) := by
  refine zCi.mk2 (by decide) (Nat.le_of_ble_eq_true rfl) ?_
  intro p e s m below meth c A args Q hE hret hP hD hS ls hl
  obtain ⟨hx, hb, hr, hml, hown, hG, hlocks, hnm, hX, hA⟩ := hE
  have hown : s.vm.findClass RJ3 = some m.cls := hown
  have hl : lv_has ls 3 [(0, .int x1), (1, .int x2), (2, .ref y3)] := hl
  refine lv_iload_n hx hb dJ3_checkIndex_8e157_0 rfl (lv_at hl 0 rfl) ?_
  refine lv_if_lt (tgt := 9) hx hb dJ3_checkIndex_8e157_1 (by decide) (fun c3 => absurd c3 (fun q9 => absurd ((zc_lt (rfl : x1.toInt = _) (show (0 : Int32).toInt = (0 : Int) from by decide)).mp q9) (ox_438 hy0 hy1 hy2))) (fun c3 => ?_)
  refine lv_iload_n hx hb dJ3_checkIndex_8e157_4 rfl (lv_at hl 0 rfl) ?_
  refine lv_iload_n hx hb dJ3_checkIndex_8e157_5 rfl (lv_at hl 1 rfl) ?_
  refine lv_icmp_lt (tgt := 16) hx hb dJ3_checkIndex_8e157_6 (by decide) (fun c4 => ?_) (fun c4 => (c4 ((zc_lt (rfl : x1.toInt = _) (rfl : x2.toInt = _)).mpr (ox_439 hy0 hy1 hy2))).elim)
  refine lv_iload_n hx hb dJ3_checkIndex_8e157_16 rfl (lv_at hl 0 rfl) ?_
  exact hret x1 () (Nat.le_of_ble_eq_true rfl) (Nat.le_of_ble_eq_true rfl) rfl (rfl) hP hD hS dJ3_checkIndex_8e157_17
theorem dJ0_checkIndex_df160_0 : decode cJ0_checkIndex_df160 0 = .ok (.iload_n 0, 1) := by decide +kernel
theorem dJ0_checkIndex_df160_1 : decode cJ0_checkIndex_df160 1 = .ok (.iload_n 1, 1) := by decide +kernel
theorem dJ0_checkIndex_df160_2 : decode cJ0_checkIndex_df160 2 = .ok (.getstatic 1053, 3) := by decide +kernel
theorem dJ0_checkIndex_df160_5 : decode cJ0_checkIndex_df160 5 = .ok (.invokestatic 1059, 3) := by decide +kernel
theorem dJ0_checkIndex_df160_8 : decode cJ0_checkIndex_df160 8 = .ok (.pop, 1) := by decide +kernel
theorem dJ0_checkIndex_df160_9 : decode cJ0_checkIndex_df160 9 = .ok (.return_, 1) := by decide +kernel
abbrev rm_kJ0_checkIndex_df160 : Room := { frames := 1, cells := 0, slots := 0, locals := 22 }
set_option maxHeartbeats 4000000 in
set_option maxRecDepth 100000 in
theorem kJ0_checkIndex_df160 (l : Launch) (g : zL) (x1 : Int32) (x2 : Int32) (hy0 : 0 ≤ x1.toInt ∧ x1.toInt ≤ 200) (hy1 : 0 ≤ x2.toInt ∧ x2.toInt ≤ 200) (hy2 : x1.toInt < x2.toInt) : zCv l g yJ0_checkIndex_df160 cJ0_checkIndex_df160 2 none rm_kJ0_checkIndex_df160 [.int x1, .int x2] [] (fun (u : Unit) => True) (fun (u : Unit) => []) := by
  refine zCv.mk2 (by decide) (Nat.le_of_ble_eq_true rfl) ?_
  intro p e s m below meth c A args Q hE hret hP hD hS ls hl
  obtain ⟨hx, hb, hr, hml, hown, hG, hlocks, hnm, hX, hA⟩ := hE
  have hown : s.vm.findClass RJ0 = some m.cls := hown
  have hl : lv_has ls 2 [(0, .int x1), (1, .int x2)] := hl
  refine lv_iload_n hx hb dJ0_checkIndex_df160_0 rfl (lv_at hl 0 rfl) ?_
  refine lv_iload_n hx hb dJ0_checkIndex_df160_1 rfl (lv_at hl 1 rfl) ?_
  rcases hX.2.2.2.2.2.2.2 with hz2 | ⟨q1, hz2⟩
  · refine va_gets hx hb hz2 hS hown (hG _ wf_J0_1053) (fun _ h9 => h9) dJ0_checkIndex_df160_2 ?_
    refine zfi (wr := []) (va_runS (As := [.int x1, .int x2, .null]) (rest := []) ⟨hx, hb, hml, hown, hG⟩ (kJ3_checkIndex_8e157n l g x1 x2 (ox_440 hy0 hy1 hy2) (ox_441 hy0 hy1 hy2) (ox_439 hy0 hy1 hy2) _) ⟨callB_of 3 hG (zGood wc_J3_checkIndex_8e157) rfl rfl rfl (hG _ wini_J3) (hG _ wm_J0_1059) hJ3_checkIndex_8e157 ⟨Nat.le_of_ble_eq_true rfl, Nat.le_of_ble_eq_true rfl⟩, hG _ ws_J3_checkIndex_8e157⟩ (zpreS hX hP hD hS hA [] rfl (by decide)) rfl rfl hl.1 rfl (lv_room (Nat.le_of_ble_eq_true rfl)) dJ0_checkIndex_df160_5 ⟨Nat.le_of_ble_eq_true rfl, Nat.le_of_ble_eq_true rfl⟩) hP hD hS hA [] [] rfl rfl (by decide) (by decide) (fun r3 _ H locs hp hP hD hS => ?_)
    refine W.cs (cells' := 0) (slots' := 0) rfl rfl ?_
    have hq4 : r3 = x1 := hp
    subst hq4
    have hP : va_P g.1 vwCl [] H := hP
    have hD : va_D A [] := hD
    refine lv_pop hx hb dJ0_checkIndex_df160_8 rfl ?_
    exact hret () (Nat.le_of_ble_eq_true rfl) (Nat.le_of_ble_eq_true rfl) trivial hP hD hS dJ0_checkIndex_df160_9
  · refine va_gets hx hb hz2 hS hown (hG _ wf_J0_1053) (fun _ h9 => h9) dJ0_checkIndex_df160_2 ?_
    refine zfi (wr := []) (va_runS (As := [.int x1, .int x2, .ref q1]) (rest := []) ⟨hx, hb, hml, hown, hG⟩ (kJ3_checkIndex_8e157r l g x1 x2 q1 (ox_440 hy0 hy1 hy2) (ox_441 hy0 hy1 hy2) (ox_439 hy0 hy1 hy2) _) ⟨callB_of 3 hG (zGood wc_J3_checkIndex_8e157) rfl rfl rfl (hG _ wini_J3) (hG _ wm_J0_1059) hJ3_checkIndex_8e157 ⟨Nat.le_of_ble_eq_true rfl, Nat.le_of_ble_eq_true rfl⟩, hG _ ws_J3_checkIndex_8e157⟩ (zpreS hX hP hD hS hA [] rfl (by decide)) rfl rfl hl.1 rfl (lv_room (Nat.le_of_ble_eq_true rfl)) dJ0_checkIndex_df160_5 ⟨Nat.le_of_ble_eq_true rfl, Nat.le_of_ble_eq_true rfl⟩) hP hD hS hA [] [] rfl rfl (by decide) (by decide) (fun r5 _ H locs hp hP hD hS => ?_)
    refine W.cs (cells' := 0) (slots' := 0) rfl rfl ?_
    have hq6 : r5 = x1 := hp
    subst hq6
    have hP : va_P g.1 vwCl [] H := hP
    have hD : va_D A [] := hD
    refine lv_pop hx hb dJ0_checkIndex_df160_8 rfl ?_
    exact hret () (Nat.le_of_ble_eq_true rfl) (Nat.le_of_ble_eq_true rfl) trivial hP hD hS dJ0_checkIndex_df160_9
theorem dJ0_coder_7d493_0 : decode cJ0_coder_7d493 0 = .ok (.getstatic 38, 3) := by decide +kernel
theorem dJ0_coder_7d493_3 : decode cJ0_coder_7d493 3 = .ok (.ifCond .eq 10, 3) := by decide +kernel
theorem dJ0_coder_7d493_6 : decode cJ0_coder_7d493 6 = .ok (.aload_n 0, 1) := by decide +kernel
theorem dJ0_coder_7d493_7 : decode cJ0_coder_7d493 7 = .ok (.getfield 15, 3) := by decide +kernel
theorem dJ0_coder_7d493_10 : decode cJ0_coder_7d493 10 = .ok (.goto 4, 3) := by decide +kernel
theorem dJ0_coder_7d493_14 : decode cJ0_coder_7d493 14 = .ok (.ireturn, 1) := by decide +kernel
abbrev rm_kJ0_coder_7d493_0 : Room := { frames := 0, cells := 0, slots := 0, locals := 0 }
set_option maxHeartbeats 4000000 in
set_option maxRecDepth 100000 in
theorem kJ0_coder_7d493_0 (l : Launch) (g : zL) : zCi l g yJ0_coder_7d493 cJ0_coder_7d493 1 (some .byte) rm_kJ0_coder_7d493_0 [.ref (g.2.2.1 0)] [] (fun (r : Int32) (u : Unit) => (r = (0 : Int32))) (fun (u : Unit) => []) := by
  refine zCi.mk2 (by decide) (Nat.le_of_ble_eq_true rfl) ?_
  intro p e s m below meth c A args Q hE hret hP hD hS ls hl
  obtain ⟨hx, hb, hr, hml, hown, hG, hlocks, hnm, hX, hA⟩ := hE
  have hown : s.vm.findClass RJ0 = some m.cls := hown
  have hl : lv_has ls 1 [(0, .ref (g.2.2.1 0))] := hl
  refine va_gets hx hb hX.2.2.2.2.1 hS hown (hG _ wf_J0_38) (fun _ h9 => h9) dJ0_coder_7d493_0 ?_
  refine lv_if_eq (tgt := 13) hx hb dJ0_coder_7d493_3 (by decide) (fun c1 => absurd c1 (by decide)) (fun c1 => ?_)
  refine lv_aload_n hx hb dJ0_coder_7d493_6 rfl (lv_at hl 0 rfl) ?_
  refine vk_getf (v := .int 0) hx hb (hX.2.2.2.1.1 0 (by decide)).2.1 hS hown (hG _ wf_J0_15) (fun _ h9 => h9) dJ0_coder_7d493_7 ?_
  refine lv_goto (tgt := 14) hx hb dJ0_coder_7d493_10 (by decide) ?_
  exact hret (0 : Int32) () (Nat.le_of_ble_eq_true rfl) (Nat.le_of_ble_eq_true rfl) rfl (rfl) hP hD hS dJ0_coder_7d493_14
theorem dJ0_isLatin1_aae02_0 : decode cJ0_isLatin1_aae02 0 = .ok (.getstatic 38, 3) := by decide +kernel
theorem dJ0_isLatin1_aae02_3 : decode cJ0_isLatin1_aae02 3 = .ok (.ifCond .eq 14, 3) := by decide +kernel
theorem dJ0_isLatin1_aae02_6 : decode cJ0_isLatin1_aae02 6 = .ok (.aload_n 0, 1) := by decide +kernel
theorem dJ0_isLatin1_aae02_7 : decode cJ0_isLatin1_aae02 7 = .ok (.getfield 15, 3) := by decide +kernel
theorem dJ0_isLatin1_aae02_10 : decode cJ0_isLatin1_aae02 10 = .ok (.ifCond .ne 7, 3) := by decide +kernel
theorem dJ0_isLatin1_aae02_13 : decode cJ0_isLatin1_aae02 13 = .ok (.iconst 1, 1) := by decide +kernel
theorem dJ0_isLatin1_aae02_14 : decode cJ0_isLatin1_aae02 14 = .ok (.goto 4, 3) := by decide +kernel
theorem dJ0_isLatin1_aae02_18 : decode cJ0_isLatin1_aae02 18 = .ok (.ireturn, 1) := by decide +kernel
abbrev rm_kJ0_isLatin1_aae02_0 : Room := { frames := 0, cells := 0, slots := 0, locals := 0 }
set_option maxHeartbeats 4000000 in
set_option maxRecDepth 100000 in
theorem kJ0_isLatin1_aae02_0 (l : Launch) (g : zL) : zCi l g yJ0_isLatin1_aae02 cJ0_isLatin1_aae02 1 (some .boolean) rm_kJ0_isLatin1_aae02_0 [.ref (g.2.2.1 0)] [] (fun (r : Int32) (u : Unit) => (r = (1 : Int32))) (fun (u : Unit) => []) := by
  refine zCi.mk2 (by decide) (Nat.le_of_ble_eq_true rfl) ?_
  intro p e s m below meth c A args Q hE hret hP hD hS ls hl
  obtain ⟨hx, hb, hr, hml, hown, hG, hlocks, hnm, hX, hA⟩ := hE
  have hown : s.vm.findClass RJ0 = some m.cls := hown
  have hl : lv_has ls 1 [(0, .ref (g.2.2.1 0))] := hl
  refine va_gets hx hb hX.2.2.2.2.1 hS hown (hG _ wf_J0_38) (fun _ h9 => h9) dJ0_isLatin1_aae02_0 ?_
  refine lv_if_eq (tgt := 17) hx hb dJ0_isLatin1_aae02_3 (by decide) (fun c1 => absurd c1 (by decide)) (fun c1 => ?_)
  refine lv_aload_n hx hb dJ0_isLatin1_aae02_6 rfl (lv_at hl 0 rfl) ?_
  refine vk_getf (v := .int 0) hx hb (hX.2.2.2.1.1 0 (by decide)).2.1 hS hown (hG _ wf_J0_15) (fun _ h9 => h9) dJ0_isLatin1_aae02_7 ?_
  refine lv_if_ne (tgt := 17) hx hb dJ0_isLatin1_aae02_10 (by decide) (fun c2 => (c2 (by decide)).elim) (fun c2 => ?_)
  refine lv_iconst (v := 1) hx hb dJ0_isLatin1_aae02_13 (by decide) ?_
  refine lv_goto (tgt := 18) hx hb dJ0_isLatin1_aae02_14 (by decide) ?_
  exact hret (1 : Int32) () (Nat.le_of_ble_eq_true rfl) (Nat.le_of_ble_eq_true rfl) rfl (rfl) hP hD hS dJ0_isLatin1_aae02_18
theorem dJ0_length_8abf5_0 : decode cJ0_length_8abf5 0 = .ok (.aload_n 0, 1) := by decide +kernel
theorem dJ0_length_8abf5_1 : decode cJ0_length_8abf5 1 = .ok (.getfield 9, 3) := by decide +kernel
theorem dJ0_length_8abf5_4 : decode cJ0_length_8abf5 4 = .ok (.arraylength, 1) := by decide +kernel
theorem dJ0_length_8abf5_5 : decode cJ0_length_8abf5 5 = .ok (.aload_n 0, 1) := by decide +kernel
theorem dJ0_length_8abf5_6 : decode cJ0_length_8abf5 6 = .ok (.invokevirtual 335, 3) := by decide +kernel
theorem dJ0_length_8abf5_9 : decode cJ0_length_8abf5 9 = .ok (.ishr, 1) := by decide +kernel
theorem dJ0_length_8abf5_10 : decode cJ0_length_8abf5 10 = .ok (.ireturn, 1) := by decide +kernel
abbrev rm_kJ0_length_8abf5_0 : Room := { frames := 1, cells := 0, slots := 0, locals := 20 }
set_option maxHeartbeats 4000000 in
set_option maxRecDepth 100000 in
theorem kJ0_length_8abf5_0 (l : Launch) (g : zL) : zCi l g yJ0_length_8abf5 cJ0_length_8abf5 1 (some .int) rm_kJ0_length_8abf5_0 [.ref (g.2.2.1 0)] [] (fun (r : Int32) (u : Unit) => (r = (5 : Int32))) (fun (u : Unit) => []) := by
  refine zCi.mk2 (by decide) (Nat.le_of_ble_eq_true rfl) ?_
  intro p e s m below meth c A args Q hE hret hP hD hS ls hl
  obtain ⟨hx, hb, hr, hml, hown, hG, hlocks, hnm, hX, hA⟩ := hE
  have hown : s.vm.findClass RJ0 = some m.cls := hown
  have hl : lv_has ls 1 [(0, .ref (g.2.2.1 0))] := hl
  refine lv_aload_n hx hb dJ0_length_8abf5_0 rfl (lv_at hl 0 rfl) ?_
  refine vk_getf (v := .ref (g.2.2.2.1 0)) hx hb (hX.2.2.2.1.1 0 (by decide)).2.2.1 hS hown (hG _ wf_J0_9) (fun _ h9 => h9) dJ0_length_8abf5_1 ?_
  refine va_tlen (v := 5) hx hb (hX.2.2.2.1.1 0 (by decide)).2.2.2 hS (by decide) dJ0_length_8abf5_4 ?_
  refine lv_aload_n hx hb dJ0_length_8abf5_5 rfl (lv_at hl 0 rfl) ?_
  refine zfi (wr := []) (va_runV (As := []) (rest := [.int 5]) ⟨hx, hb, hml, hown, hG⟩ (kJ0_coder_7d493_0 l g _) ⟨callB_of 0 hG (zGood wc_J0_coder_7d493) rfl rfl rfl (hG _ wini_J0) (hG _ wm_J0_335) hJ0_coder_7d493 ⟨Nat.le_of_ble_eq_true rfl, Nat.le_of_ble_eq_true rfl⟩, hG _ wi_J0_coder_7d493, hG _ wse_J0_J0_coder_7d493⟩ (zpreV (vk_recv hX.2.2.2.1 (by decide) hS) hX hP hD hS hA [] rfl (by decide)) rfl rfl hl.1 rfl (lv_room (Nat.le_of_ble_eq_true rfl)) dJ0_length_8abf5_6 ⟨Nat.le_of_ble_eq_true rfl, Nat.le_of_ble_eq_true rfl⟩) hP hD hS hA [] [] rfl rfl (by decide) (by decide) (fun r1 _ H locs hp hP hD hS => ?_)
  refine W.cs (cells' := 0) (slots' := 0) rfl rfl ?_
  have hq2 : r1 = (0 : Int32) := hp
  subst hq2
  have hP : va_P g.1 vwCl [] H := hP
  have hD : va_D A [] := hD
  refine lv_ishr hx hb dJ0_length_8abf5_9 ?_
  refine zt (z := 5) (by decide) ?_
  exact hret (5 : Int32) () (Nat.le_of_ble_eq_true rfl) (Nat.le_of_ble_eq_true rfl) rfl (rfl) hP hD hS dJ0_length_8abf5_10
theorem dJ1_charAt_3b067_0 : decode cJ1_charAt_3b067 0 = .ok (.iload_n 1, 1) := by decide +kernel
theorem dJ1_charAt_3b067_1 : decode cJ1_charAt_3b067 1 = .ok (.aload_n 0, 1) := by decide +kernel
theorem dJ1_charAt_3b067_2 : decode cJ1_charAt_3b067 2 = .ok (.arraylength, 1) := by decide +kernel
theorem dJ1_charAt_3b067_3 : decode cJ1_charAt_3b067 3 = .ok (.invokestatic 9, 3) := by decide +kernel
theorem dJ1_charAt_3b067_6 : decode cJ1_charAt_3b067 6 = .ok (.aload_n 0, 1) := by decide +kernel
theorem dJ1_charAt_3b067_7 : decode cJ1_charAt_3b067 7 = .ok (.iload_n 1, 1) := by decide +kernel
theorem dJ1_charAt_3b067_8 : decode cJ1_charAt_3b067 8 = .ok (.baload, 1) := by decide +kernel
theorem dJ1_charAt_3b067_9 : decode cJ1_charAt_3b067 9 = .ok (.sipush 255, 3) := by decide +kernel
theorem dJ1_charAt_3b067_12 : decode cJ1_charAt_3b067 12 = .ok (.iand, 1) := by decide +kernel
theorem dJ1_charAt_3b067_13 : decode cJ1_charAt_3b067 13 = .ok (.i2c, 1) := by decide +kernel
theorem dJ1_charAt_3b067_14 : decode cJ1_charAt_3b067 14 = .ok (.ireturn, 1) := by decide +kernel
abbrev rm_kJ1_charAt_3b067_0 : Room := { frames := 2, cells := 0, slots := 0, locals := 43 }
set_option maxHeartbeats 4000000 in
set_option maxRecDepth 100000 in
theorem kJ1_charAt_3b067_0 (l : Launch) (g : zL) (x2 : Int32) (hy0 : 0 ≤ x2.toInt ∧ x2.toInt ≤ 4) : zCi l g yJ1_charAt_3b067 cJ1_charAt_3b067 2 (some .char) rm_kJ1_charAt_3b067_0 [.ref (g.2.2.2.1 0), .int x2] [] (fun (r : Int32) (u : Unit) => (pChr r)) (fun (u : Unit) => []) := by
  refine zCi.mk2 (by decide) (Nat.le_of_ble_eq_true rfl) ?_
  intro p e s m below meth c A args Q hE hret hP hD hS ls hl
  obtain ⟨hx, hb, hr, hml, hown, hG, hlocks, hnm, hX, hA⟩ := hE
  have hown : s.vm.findClass RJ1 = some m.cls := hown
  have hl : lv_has ls 2 [(0, .ref (g.2.2.2.1 0)), (1, .int x2)] := hl
  refine lv_iload_n hx hb dJ1_charAt_3b067_0 rfl (lv_at hl 1 rfl) ?_
  refine lv_aload_n hx hb dJ1_charAt_3b067_1 rfl (lv_at hl 0 rfl) ?_
  refine va_tlen (v := 5) hx hb (hX.2.2.2.1.1 0 (by decide)).2.2.2 hS (by decide) dJ1_charAt_3b067_2 ?_
  refine zfv (wr := []) (va_runS (As := [.int x2, .int 5]) (rest := []) ⟨hx, hb, hml, hown, hG⟩ (kJ0_checkIndex_df160 l g x2 (5 : Int32) (ox_442 hy0) ((show 0 ≤ (5 : Int) ∧ (5 : Int) ≤ 200 from by decide)) (ox_443 hy0) _) ⟨callB_of 2 hG (zGood wc_J0_checkIndex_df160) rfl rfl rfl (hG _ wini_J0) (hG _ wm_J1_9) hJ0_checkIndex_df160 ⟨Nat.le_of_ble_eq_true rfl, Nat.le_of_ble_eq_true rfl⟩, hG _ ws_J0_checkIndex_df160⟩ (zpreS hX hP hD hS hA [] rfl (by decide)) rfl rfl hl.1 rfl (lv_room (Nat.le_of_ble_eq_true rfl)) dJ1_charAt_3b067_3 ⟨Nat.le_of_ble_eq_true rfl, Nat.le_of_ble_eq_true rfl⟩) hP hD hS hA [] [] rfl rfl (by decide) (by decide) (fun _ H locs hp hP hD hS => ?_)
  refine W.cs (cells' := 0) (slots' := 0) rfl rfl ?_
  have hP : va_P g.1 vwCl [] H := hP
  have hD : va_D A [] := hD
  refine lv_aload_n hx hb dJ1_charAt_3b067_6 rfl (lv_at hl 0 rfl) ?_
  refine lv_iload_n hx hb dJ1_charAt_3b067_7 rfl (lv_at hl 1 rfl) ?_
  refine va_tb hx hb (hX.2.2.2.1.1 0 (by decide)).2.2.2 hS (zin (rfl : x2.toInt = _) (ox_444 hy0)) rfl dJ1_charAt_3b067_8 ?_
  refine lv_topi (fun z2 e3 => ?_)
  refine lv_sipush (v := 255) hx hb dJ1_charAt_3b067_9 (by decide) ?_
  refine lv_iand hx hb dJ1_charAt_3b067_12 ?_
  refine lv_topi (fun z4 e5 => ?_)
  have f6 : 0 ≤ z4.toInt ∧ z4.toInt ≤ (255 : Int) := zand e5 (show (255 : Int32).toInt = (255 : Int) from by decide) ((show 0 ≤ (255 : Int) from by decide))
  refine lv_i2c (v := (z4.toUInt32 % 65536).toInt32) hx hb dJ1_charAt_3b067_13 rfl ?_
  refine lv_topi (fun z7 e8 => ?_)
  exact hret z7 () (Nat.le_of_ble_eq_true rfl) (Nat.le_of_ble_eq_true rfl) (pChr.of e8) ((pChr.of e8)) hP hD hS dJ1_charAt_3b067_14
theorem dJ0_charAt_5068e_0 : decode cJ0_charAt_5068e 0 = .ok (.aload_n 0, 1) := by decide +kernel
theorem dJ0_charAt_5068e_1 : decode cJ0_charAt_5068e 1 = .ok (.invokevirtual 492, 3) := by decide +kernel
theorem dJ0_charAt_5068e_4 : decode cJ0_charAt_5068e 4 = .ok (.ifCond .eq 12, 3) := by decide +kernel
theorem dJ0_charAt_5068e_7 : decode cJ0_charAt_5068e 7 = .ok (.aload_n 0, 1) := by decide +kernel
theorem dJ0_charAt_5068e_8 : decode cJ0_charAt_5068e 8 = .ok (.getfield 9, 3) := by decide +kernel
theorem dJ0_charAt_5068e_11 : decode cJ0_charAt_5068e 11 = .ok (.iload_n 1, 1) := by decide +kernel
theorem dJ0_charAt_5068e_12 : decode cJ0_charAt_5068e 12 = .ok (.invokestatic 495, 3) := by decide +kernel
theorem dJ0_charAt_5068e_15 : decode cJ0_charAt_5068e 15 = .ok (.ireturn, 1) := by decide +kernel
abbrev rm_kJ0_charAt_5068e_0 : Room := { frames := 3, cells := 0, slots := 0, locals := 64 }
set_option maxHeartbeats 4000000 in
set_option maxRecDepth 100000 in
theorem kJ0_charAt_5068e_0 (l : Launch) (g : zL) (x1 : Int32) (hy0 : 0 ≤ x1.toInt ∧ x1.toInt ≤ 4) : zCi l g yJ0_charAt_5068e cJ0_charAt_5068e 2 (some .char) rm_kJ0_charAt_5068e_0 [.ref (g.2.2.1 0), .int x1] [] (fun (r : Int32) (u : Unit) => (pChr r)) (fun (u : Unit) => []) := by
  refine zCi.mk2 (by decide) (Nat.le_of_ble_eq_true rfl) ?_
  intro p e s m below meth c A args Q hE hret hP hD hS ls hl
  obtain ⟨hx, hb, hr, hml, hown, hG, hlocks, hnm, hX, hA⟩ := hE
  have hown : s.vm.findClass RJ0 = some m.cls := hown
  have hl : lv_has ls 2 [(0, .ref (g.2.2.1 0)), (1, .int x1)] := hl
  refine lv_aload_n hx hb dJ0_charAt_5068e_0 rfl (lv_at hl 0 rfl) ?_
  refine zfi (wr := []) (va_runV (As := []) (rest := []) ⟨hx, hb, hml, hown, hG⟩ (kJ0_isLatin1_aae02_0 l g _) ⟨callB_of 0 hG (zGood wc_J0_isLatin1_aae02) rfl rfl rfl (hG _ wini_J0) (hG _ wm_J0_492) hJ0_isLatin1_aae02 ⟨Nat.le_of_ble_eq_true rfl, Nat.le_of_ble_eq_true rfl⟩, hG _ wi_J0_isLatin1_aae02, hG _ wse_J0_J0_isLatin1_aae02⟩ (zpreV (vk_recv hX.2.2.2.1 (by decide) hS) hX hP hD hS hA [] rfl (by decide)) rfl rfl hl.1 rfl (lv_room (Nat.le_of_ble_eq_true rfl)) dJ0_charAt_5068e_1 ⟨Nat.le_of_ble_eq_true rfl, Nat.le_of_ble_eq_true rfl⟩) hP hD hS hA [] [] rfl rfl (by decide) (by decide) (fun r1 _ H locs hp hP hD hS => ?_)
  refine W.cs (cells' := 0) (slots' := 0) rfl rfl ?_
  have hq2 : r1 = (1 : Int32) := hp
  subst hq2
  have hP : va_P g.1 vwCl [] H := hP
  have hD : va_D A [] := hD
  refine lv_if_eq (tgt := 16) hx hb dJ0_charAt_5068e_4 (by decide) (fun c3 => absurd c3 (by decide)) (fun c3 => ?_)
  refine lv_aload_n hx hb dJ0_charAt_5068e_7 rfl (lv_at hl 0 rfl) ?_
  refine vk_getf (v := .ref (g.2.2.2.1 0)) hx hb (hX.2.2.2.1.1 0 (by decide)).2.2.1 hS hown (hG _ wf_J0_9) (fun _ h9 => h9) dJ0_charAt_5068e_8 ?_
  refine lv_iload_n hx hb dJ0_charAt_5068e_11 rfl (lv_at hl 1 rfl) ?_
  refine zfi (wr := []) (va_runS (As := [.ref (g.2.2.2.1 0), .int x1]) (rest := []) ⟨hx, hb, hml, hown, hG⟩ (kJ1_charAt_3b067_0 l g x1 (ox_445 hy0) _) ⟨callB_of 2 hG (zGood wc_J1_charAt_3b067) rfl rfl rfl (hG _ wini_J1) (hG _ wm_J0_495) hJ1_charAt_3b067 ⟨Nat.le_of_ble_eq_true rfl, Nat.le_of_ble_eq_true rfl⟩, hG _ ws_J1_charAt_3b067⟩ (zpreS hX hP hD hS hA [] rfl (by decide)) rfl rfl hl.1 rfl (lv_room (Nat.le_of_ble_eq_true rfl)) dJ0_charAt_5068e_12 ⟨Nat.le_of_ble_eq_true rfl, Nat.le_of_ble_eq_true rfl⟩) hP hD hS hA [] [] rfl rfl (by decide) (by decide) (fun r4 _ H locs hp hP hD hS => ?_)
  refine W.cs (cells' := 0) (slots' := 0) rfl rfl ?_
  have hq5 : pChr r4 := hp
  have hP : va_P g.1 vwCl [] H := hP
  have hD : va_D A [] := hD
  exact hret r4 () (Nat.le_of_ble_eq_true rfl) (Nat.le_of_ble_eq_true rfl) hq5 (hq5) hP hD hS dJ0_charAt_5068e_15
abbrev rm_kJ0_coder_7d493_1 : Room := { frames := 0, cells := 0, slots := 0, locals := 0 }
set_option maxHeartbeats 4000000 in
set_option maxRecDepth 100000 in
theorem kJ0_coder_7d493_1 (l : Launch) (g : zL) : zCi l g yJ0_coder_7d493 cJ0_coder_7d493 1 (some .byte) rm_kJ0_coder_7d493_1 [.ref (g.2.2.1 1)] [] (fun (r : Int32) (u : Unit) => (r = (0 : Int32))) (fun (u : Unit) => []) := by
  refine zCi.mk2 (by decide) (Nat.le_of_ble_eq_true rfl) ?_
  intro p e s m below meth c A args Q hE hret hP hD hS ls hl
  obtain ⟨hx, hb, hr, hml, hown, hG, hlocks, hnm, hX, hA⟩ := hE
  have hown : s.vm.findClass RJ0 = some m.cls := hown
  have hl : lv_has ls 1 [(0, .ref (g.2.2.1 1))] := hl
  refine va_gets hx hb hX.2.2.2.2.1 hS hown (hG _ wf_J0_38) (fun _ h9 => h9) dJ0_coder_7d493_0 ?_
  refine lv_if_eq (tgt := 13) hx hb dJ0_coder_7d493_3 (by decide) (fun c1 => absurd c1 (by decide)) (fun c1 => ?_)
  refine lv_aload_n hx hb dJ0_coder_7d493_6 rfl (lv_at hl 0 rfl) ?_
  refine vk_getf (v := .int 0) hx hb (hX.2.2.2.1.1 1 (by decide)).2.1 hS hown (hG _ wf_J0_15) (fun _ h9 => h9) dJ0_coder_7d493_7 ?_
  refine lv_goto (tgt := 14) hx hb dJ0_coder_7d493_10 (by decide) ?_
  exact hret (0 : Int32) () (Nat.le_of_ble_eq_true rfl) (Nat.le_of_ble_eq_true rfl) rfl (rfl) hP hD hS dJ0_coder_7d493_14
abbrev rm_kJ0_isLatin1_aae02_1 : Room := { frames := 0, cells := 0, slots := 0, locals := 0 }
set_option maxHeartbeats 4000000 in
set_option maxRecDepth 100000 in
theorem kJ0_isLatin1_aae02_1 (l : Launch) (g : zL) : zCi l g yJ0_isLatin1_aae02 cJ0_isLatin1_aae02 1 (some .boolean) rm_kJ0_isLatin1_aae02_1 [.ref (g.2.2.1 1)] [] (fun (r : Int32) (u : Unit) => (r = (1 : Int32))) (fun (u : Unit) => []) := by
  refine zCi.mk2 (by decide) (Nat.le_of_ble_eq_true rfl) ?_
  intro p e s m below meth c A args Q hE hret hP hD hS ls hl
  obtain ⟨hx, hb, hr, hml, hown, hG, hlocks, hnm, hX, hA⟩ := hE
  have hown : s.vm.findClass RJ0 = some m.cls := hown
  have hl : lv_has ls 1 [(0, .ref (g.2.2.1 1))] := hl
  refine va_gets hx hb hX.2.2.2.2.1 hS hown (hG _ wf_J0_38) (fun _ h9 => h9) dJ0_isLatin1_aae02_0 ?_
  refine lv_if_eq (tgt := 17) hx hb dJ0_isLatin1_aae02_3 (by decide) (fun c1 => absurd c1 (by decide)) (fun c1 => ?_)
  refine lv_aload_n hx hb dJ0_isLatin1_aae02_6 rfl (lv_at hl 0 rfl) ?_
  refine vk_getf (v := .int 0) hx hb (hX.2.2.2.1.1 1 (by decide)).2.1 hS hown (hG _ wf_J0_15) (fun _ h9 => h9) dJ0_isLatin1_aae02_7 ?_
  refine lv_if_ne (tgt := 17) hx hb dJ0_isLatin1_aae02_10 (by decide) (fun c2 => (c2 (by decide)).elim) (fun c2 => ?_)
  refine lv_iconst (v := 1) hx hb dJ0_isLatin1_aae02_13 (by decide) ?_
  refine lv_goto (tgt := 18) hx hb dJ0_isLatin1_aae02_14 (by decide) ?_
  exact hret (1 : Int32) () (Nat.le_of_ble_eq_true rfl) (Nat.le_of_ble_eq_true rfl) rfl (rfl) hP hD hS dJ0_isLatin1_aae02_18
abbrev rm_kJ0_length_8abf5_1 : Room := { frames := 1, cells := 0, slots := 0, locals := 20 }
set_option maxHeartbeats 4000000 in
set_option maxRecDepth 100000 in
theorem kJ0_length_8abf5_1 (l : Launch) (g : zL) : zCi l g yJ0_length_8abf5 cJ0_length_8abf5 1 (some .int) rm_kJ0_length_8abf5_1 [.ref (g.2.2.1 1)] [] (fun (r : Int32) (u : Unit) => (r = (5 : Int32))) (fun (u : Unit) => []) := by
  refine zCi.mk2 (by decide) (Nat.le_of_ble_eq_true rfl) ?_
  intro p e s m below meth c A args Q hE hret hP hD hS ls hl
  obtain ⟨hx, hb, hr, hml, hown, hG, hlocks, hnm, hX, hA⟩ := hE
  have hown : s.vm.findClass RJ0 = some m.cls := hown
  have hl : lv_has ls 1 [(0, .ref (g.2.2.1 1))] := hl
  refine lv_aload_n hx hb dJ0_length_8abf5_0 rfl (lv_at hl 0 rfl) ?_
  refine vk_getf (v := .ref (g.2.2.2.1 1)) hx hb (hX.2.2.2.1.1 1 (by decide)).2.2.1 hS hown (hG _ wf_J0_9) (fun _ h9 => h9) dJ0_length_8abf5_1 ?_
  refine va_tlen (v := 5) hx hb (hX.2.2.2.1.1 1 (by decide)).2.2.2 hS (by decide) dJ0_length_8abf5_4 ?_
  refine lv_aload_n hx hb dJ0_length_8abf5_5 rfl (lv_at hl 0 rfl) ?_
  refine zfi (wr := []) (va_runV (As := []) (rest := [.int 5]) ⟨hx, hb, hml, hown, hG⟩ (kJ0_coder_7d493_1 l g _) ⟨callB_of 0 hG (zGood wc_J0_coder_7d493) rfl rfl rfl (hG _ wini_J0) (hG _ wm_J0_335) hJ0_coder_7d493 ⟨Nat.le_of_ble_eq_true rfl, Nat.le_of_ble_eq_true rfl⟩, hG _ wi_J0_coder_7d493, hG _ wse_J0_J0_coder_7d493⟩ (zpreV (vk_recv hX.2.2.2.1 (by decide) hS) hX hP hD hS hA [] rfl (by decide)) rfl rfl hl.1 rfl (lv_room (Nat.le_of_ble_eq_true rfl)) dJ0_length_8abf5_6 ⟨Nat.le_of_ble_eq_true rfl, Nat.le_of_ble_eq_true rfl⟩) hP hD hS hA [] [] rfl rfl (by decide) (by decide) (fun r1 _ H locs hp hP hD hS => ?_)
  refine W.cs (cells' := 0) (slots' := 0) rfl rfl ?_
  have hq2 : r1 = (0 : Int32) := hp
  subst hq2
  have hP : va_P g.1 vwCl [] H := hP
  have hD : va_D A [] := hD
  refine lv_ishr hx hb dJ0_length_8abf5_9 ?_
  refine zt (z := 5) (by decide) ?_
  exact hret (5 : Int32) () (Nat.le_of_ble_eq_true rfl) (Nat.le_of_ble_eq_true rfl) rfl (rfl) hP hD hS dJ0_length_8abf5_10
abbrev rm_kJ1_charAt_3b067_1 : Room := { frames := 2, cells := 0, slots := 0, locals := 43 }
set_option maxHeartbeats 4000000 in
set_option maxRecDepth 100000 in
theorem kJ1_charAt_3b067_1 (l : Launch) (g : zL) (x2 : Int32) (hy0 : 0 ≤ x2.toInt ∧ x2.toInt ≤ 4) : zCi l g yJ1_charAt_3b067 cJ1_charAt_3b067 2 (some .char) rm_kJ1_charAt_3b067_1 [.ref (g.2.2.2.1 1), .int x2] [] (fun (r : Int32) (u : Unit) => (pChr r)) (fun (u : Unit) => []) := by
  refine zCi.mk2 (by decide) (Nat.le_of_ble_eq_true rfl) ?_
  intro p e s m below meth c A args Q hE hret hP hD hS ls hl
  obtain ⟨hx, hb, hr, hml, hown, hG, hlocks, hnm, hX, hA⟩ := hE
  have hown : s.vm.findClass RJ1 = some m.cls := hown
  have hl : lv_has ls 2 [(0, .ref (g.2.2.2.1 1)), (1, .int x2)] := hl
  refine lv_iload_n hx hb dJ1_charAt_3b067_0 rfl (lv_at hl 1 rfl) ?_
  refine lv_aload_n hx hb dJ1_charAt_3b067_1 rfl (lv_at hl 0 rfl) ?_
  refine va_tlen (v := 5) hx hb (hX.2.2.2.1.1 1 (by decide)).2.2.2 hS (by decide) dJ1_charAt_3b067_2 ?_
  refine zfv (wr := []) (va_runS (As := [.int x2, .int 5]) (rest := []) ⟨hx, hb, hml, hown, hG⟩ (kJ0_checkIndex_df160 l g x2 (5 : Int32) (ox_442 hy0) ((show 0 ≤ (5 : Int) ∧ (5 : Int) ≤ 200 from by decide)) (ox_443 hy0) _) ⟨callB_of 2 hG (zGood wc_J0_checkIndex_df160) rfl rfl rfl (hG _ wini_J0) (hG _ wm_J1_9) hJ0_checkIndex_df160 ⟨Nat.le_of_ble_eq_true rfl, Nat.le_of_ble_eq_true rfl⟩, hG _ ws_J0_checkIndex_df160⟩ (zpreS hX hP hD hS hA [] rfl (by decide)) rfl rfl hl.1 rfl (lv_room (Nat.le_of_ble_eq_true rfl)) dJ1_charAt_3b067_3 ⟨Nat.le_of_ble_eq_true rfl, Nat.le_of_ble_eq_true rfl⟩) hP hD hS hA [] [] rfl rfl (by decide) (by decide) (fun _ H locs hp hP hD hS => ?_)
  refine W.cs (cells' := 0) (slots' := 0) rfl rfl ?_
  have hP : va_P g.1 vwCl [] H := hP
  have hD : va_D A [] := hD
  refine lv_aload_n hx hb dJ1_charAt_3b067_6 rfl (lv_at hl 0 rfl) ?_
  refine lv_iload_n hx hb dJ1_charAt_3b067_7 rfl (lv_at hl 1 rfl) ?_
  refine va_tb hx hb (hX.2.2.2.1.1 1 (by decide)).2.2.2 hS (zin (rfl : x2.toInt = _) (ox_444 hy0)) rfl dJ1_charAt_3b067_8 ?_
  refine lv_topi (fun z2 e3 => ?_)
  refine lv_sipush (v := 255) hx hb dJ1_charAt_3b067_9 (by decide) ?_
  refine lv_iand hx hb dJ1_charAt_3b067_12 ?_
  refine lv_topi (fun z4 e5 => ?_)
  have f6 : 0 ≤ z4.toInt ∧ z4.toInt ≤ (255 : Int) := zand e5 (show (255 : Int32).toInt = (255 : Int) from by decide) ((show 0 ≤ (255 : Int) from by decide))
  refine lv_i2c (v := (z4.toUInt32 % 65536).toInt32) hx hb dJ1_charAt_3b067_13 rfl ?_
  refine lv_topi (fun z7 e8 => ?_)
  exact hret z7 () (Nat.le_of_ble_eq_true rfl) (Nat.le_of_ble_eq_true rfl) (pChr.of e8) ((pChr.of e8)) hP hD hS dJ1_charAt_3b067_14
abbrev rm_kJ0_charAt_5068e_1 : Room := { frames := 3, cells := 0, slots := 0, locals := 64 }
set_option maxHeartbeats 4000000 in
set_option maxRecDepth 100000 in
theorem kJ0_charAt_5068e_1 (l : Launch) (g : zL) (x1 : Int32) (hy0 : 0 ≤ x1.toInt ∧ x1.toInt ≤ 4) : zCi l g yJ0_charAt_5068e cJ0_charAt_5068e 2 (some .char) rm_kJ0_charAt_5068e_1 [.ref (g.2.2.1 1), .int x1] [] (fun (r : Int32) (u : Unit) => (pChr r)) (fun (u : Unit) => []) := by
  refine zCi.mk2 (by decide) (Nat.le_of_ble_eq_true rfl) ?_
  intro p e s m below meth c A args Q hE hret hP hD hS ls hl
  obtain ⟨hx, hb, hr, hml, hown, hG, hlocks, hnm, hX, hA⟩ := hE
  have hown : s.vm.findClass RJ0 = some m.cls := hown
  have hl : lv_has ls 2 [(0, .ref (g.2.2.1 1)), (1, .int x1)] := hl
  refine lv_aload_n hx hb dJ0_charAt_5068e_0 rfl (lv_at hl 0 rfl) ?_
  refine zfi (wr := []) (va_runV (As := []) (rest := []) ⟨hx, hb, hml, hown, hG⟩ (kJ0_isLatin1_aae02_1 l g _) ⟨callB_of 0 hG (zGood wc_J0_isLatin1_aae02) rfl rfl rfl (hG _ wini_J0) (hG _ wm_J0_492) hJ0_isLatin1_aae02 ⟨Nat.le_of_ble_eq_true rfl, Nat.le_of_ble_eq_true rfl⟩, hG _ wi_J0_isLatin1_aae02, hG _ wse_J0_J0_isLatin1_aae02⟩ (zpreV (vk_recv hX.2.2.2.1 (by decide) hS) hX hP hD hS hA [] rfl (by decide)) rfl rfl hl.1 rfl (lv_room (Nat.le_of_ble_eq_true rfl)) dJ0_charAt_5068e_1 ⟨Nat.le_of_ble_eq_true rfl, Nat.le_of_ble_eq_true rfl⟩) hP hD hS hA [] [] rfl rfl (by decide) (by decide) (fun r1 _ H locs hp hP hD hS => ?_)
  refine W.cs (cells' := 0) (slots' := 0) rfl rfl ?_
  have hq2 : r1 = (1 : Int32) := hp
  subst hq2
  have hP : va_P g.1 vwCl [] H := hP
  have hD : va_D A [] := hD
  refine lv_if_eq (tgt := 16) hx hb dJ0_charAt_5068e_4 (by decide) (fun c3 => absurd c3 (by decide)) (fun c3 => ?_)
  refine lv_aload_n hx hb dJ0_charAt_5068e_7 rfl (lv_at hl 0 rfl) ?_
  refine vk_getf (v := .ref (g.2.2.2.1 1)) hx hb (hX.2.2.2.1.1 1 (by decide)).2.2.1 hS hown (hG _ wf_J0_9) (fun _ h9 => h9) dJ0_charAt_5068e_8 ?_
  refine lv_iload_n hx hb dJ0_charAt_5068e_11 rfl (lv_at hl 1 rfl) ?_
  refine zfi (wr := []) (va_runS (As := [.ref (g.2.2.2.1 1), .int x1]) (rest := []) ⟨hx, hb, hml, hown, hG⟩ (kJ1_charAt_3b067_1 l g x1 (ox_445 hy0) _) ⟨callB_of 2 hG (zGood wc_J1_charAt_3b067) rfl rfl rfl (hG _ wini_J1) (hG _ wm_J0_495) hJ1_charAt_3b067 ⟨Nat.le_of_ble_eq_true rfl, Nat.le_of_ble_eq_true rfl⟩, hG _ ws_J1_charAt_3b067⟩ (zpreS hX hP hD hS hA [] rfl (by decide)) rfl rfl hl.1 rfl (lv_room (Nat.le_of_ble_eq_true rfl)) dJ0_charAt_5068e_12 ⟨Nat.le_of_ble_eq_true rfl, Nat.le_of_ble_eq_true rfl⟩) hP hD hS hA [] [] rfl rfl (by decide) (by decide) (fun r4 _ H locs hp hP hD hS => ?_)
  refine W.cs (cells' := 0) (slots' := 0) rfl rfl ?_
  have hq5 : pChr r4 := hp
  have hP : va_P g.1 vwCl [] H := hP
  have hD : va_D A [] := hD
  exact hret r4 () (Nat.le_of_ble_eq_true rfl) (Nat.le_of_ble_eq_true rfl) hq5 (hq5) hP hD hS dJ0_charAt_5068e_15
abbrev rm_kJ0_coder_7d493_2 : Room := { frames := 0, cells := 0, slots := 0, locals := 0 }
set_option maxHeartbeats 4000000 in
set_option maxRecDepth 100000 in
theorem kJ0_coder_7d493_2 (l : Launch) (g : zL) : zCi l g yJ0_coder_7d493 cJ0_coder_7d493 1 (some .byte) rm_kJ0_coder_7d493_2 [.ref (g.2.2.1 2)] [] (fun (r : Int32) (u : Unit) => (r = (0 : Int32))) (fun (u : Unit) => []) := by
  refine zCi.mk2 (by decide) (Nat.le_of_ble_eq_true rfl) ?_
  intro p e s m below meth c A args Q hE hret hP hD hS ls hl
  obtain ⟨hx, hb, hr, hml, hown, hG, hlocks, hnm, hX, hA⟩ := hE
  have hown : s.vm.findClass RJ0 = some m.cls := hown
  have hl : lv_has ls 1 [(0, .ref (g.2.2.1 2))] := hl
  refine va_gets hx hb hX.2.2.2.2.1 hS hown (hG _ wf_J0_38) (fun _ h9 => h9) dJ0_coder_7d493_0 ?_
  refine lv_if_eq (tgt := 13) hx hb dJ0_coder_7d493_3 (by decide) (fun c1 => absurd c1 (by decide)) (fun c1 => ?_)
  refine lv_aload_n hx hb dJ0_coder_7d493_6 rfl (lv_at hl 0 rfl) ?_
  refine vk_getf (v := .int 0) hx hb (hX.2.2.2.1.1 2 (by decide)).2.1 hS hown (hG _ wf_J0_15) (fun _ h9 => h9) dJ0_coder_7d493_7 ?_
  refine lv_goto (tgt := 14) hx hb dJ0_coder_7d493_10 (by decide) ?_
  exact hret (0 : Int32) () (Nat.le_of_ble_eq_true rfl) (Nat.le_of_ble_eq_true rfl) rfl (rfl) hP hD hS dJ0_coder_7d493_14
abbrev rm_kJ0_isLatin1_aae02_2 : Room := { frames := 0, cells := 0, slots := 0, locals := 0 }
set_option maxHeartbeats 4000000 in
set_option maxRecDepth 100000 in
theorem kJ0_isLatin1_aae02_2 (l : Launch) (g : zL) : zCi l g yJ0_isLatin1_aae02 cJ0_isLatin1_aae02 1 (some .boolean) rm_kJ0_isLatin1_aae02_2 [.ref (g.2.2.1 2)] [] (fun (r : Int32) (u : Unit) => (r = (1 : Int32))) (fun (u : Unit) => []) := by
  refine zCi.mk2 (by decide) (Nat.le_of_ble_eq_true rfl) ?_
  intro p e s m below meth c A args Q hE hret hP hD hS ls hl
  obtain ⟨hx, hb, hr, hml, hown, hG, hlocks, hnm, hX, hA⟩ := hE
  have hown : s.vm.findClass RJ0 = some m.cls := hown
  have hl : lv_has ls 1 [(0, .ref (g.2.2.1 2))] := hl
  refine va_gets hx hb hX.2.2.2.2.1 hS hown (hG _ wf_J0_38) (fun _ h9 => h9) dJ0_isLatin1_aae02_0 ?_
  refine lv_if_eq (tgt := 17) hx hb dJ0_isLatin1_aae02_3 (by decide) (fun c1 => absurd c1 (by decide)) (fun c1 => ?_)
  refine lv_aload_n hx hb dJ0_isLatin1_aae02_6 rfl (lv_at hl 0 rfl) ?_
  refine vk_getf (v := .int 0) hx hb (hX.2.2.2.1.1 2 (by decide)).2.1 hS hown (hG _ wf_J0_15) (fun _ h9 => h9) dJ0_isLatin1_aae02_7 ?_
  refine lv_if_ne (tgt := 17) hx hb dJ0_isLatin1_aae02_10 (by decide) (fun c2 => (c2 (by decide)).elim) (fun c2 => ?_)
  refine lv_iconst (v := 1) hx hb dJ0_isLatin1_aae02_13 (by decide) ?_
  refine lv_goto (tgt := 18) hx hb dJ0_isLatin1_aae02_14 (by decide) ?_
  exact hret (1 : Int32) () (Nat.le_of_ble_eq_true rfl) (Nat.le_of_ble_eq_true rfl) rfl (rfl) hP hD hS dJ0_isLatin1_aae02_18
abbrev rm_kJ0_length_8abf5_2 : Room := { frames := 1, cells := 0, slots := 0, locals := 20 }
set_option maxHeartbeats 4000000 in
set_option maxRecDepth 100000 in
theorem kJ0_length_8abf5_2 (l : Launch) (g : zL) : zCi l g yJ0_length_8abf5 cJ0_length_8abf5 1 (some .int) rm_kJ0_length_8abf5_2 [.ref (g.2.2.1 2)] [] (fun (r : Int32) (u : Unit) => (r = (4 : Int32))) (fun (u : Unit) => []) := by
  refine zCi.mk2 (by decide) (Nat.le_of_ble_eq_true rfl) ?_
  intro p e s m below meth c A args Q hE hret hP hD hS ls hl
  obtain ⟨hx, hb, hr, hml, hown, hG, hlocks, hnm, hX, hA⟩ := hE
  have hown : s.vm.findClass RJ0 = some m.cls := hown
  have hl : lv_has ls 1 [(0, .ref (g.2.2.1 2))] := hl
  refine lv_aload_n hx hb dJ0_length_8abf5_0 rfl (lv_at hl 0 rfl) ?_
  refine vk_getf (v := .ref (g.2.2.2.1 2)) hx hb (hX.2.2.2.1.1 2 (by decide)).2.2.1 hS hown (hG _ wf_J0_9) (fun _ h9 => h9) dJ0_length_8abf5_1 ?_
  refine va_tlen (v := 4) hx hb (hX.2.2.2.1.1 2 (by decide)).2.2.2 hS (by decide) dJ0_length_8abf5_4 ?_
  refine lv_aload_n hx hb dJ0_length_8abf5_5 rfl (lv_at hl 0 rfl) ?_
  refine zfi (wr := []) (va_runV (As := []) (rest := [.int 4]) ⟨hx, hb, hml, hown, hG⟩ (kJ0_coder_7d493_2 l g _) ⟨callB_of 0 hG (zGood wc_J0_coder_7d493) rfl rfl rfl (hG _ wini_J0) (hG _ wm_J0_335) hJ0_coder_7d493 ⟨Nat.le_of_ble_eq_true rfl, Nat.le_of_ble_eq_true rfl⟩, hG _ wi_J0_coder_7d493, hG _ wse_J0_J0_coder_7d493⟩ (zpreV (vk_recv hX.2.2.2.1 (by decide) hS) hX hP hD hS hA [] rfl (by decide)) rfl rfl hl.1 rfl (lv_room (Nat.le_of_ble_eq_true rfl)) dJ0_length_8abf5_6 ⟨Nat.le_of_ble_eq_true rfl, Nat.le_of_ble_eq_true rfl⟩) hP hD hS hA [] [] rfl rfl (by decide) (by decide) (fun r1 _ H locs hp hP hD hS => ?_)
  refine W.cs (cells' := 0) (slots' := 0) rfl rfl ?_
  have hq2 : r1 = (0 : Int32) := hp
  subst hq2
  have hP : va_P g.1 vwCl [] H := hP
  have hD : va_D A [] := hD
  refine lv_ishr hx hb dJ0_length_8abf5_9 ?_
  refine zt (z := 4) (by decide) ?_
  exact hret (4 : Int32) () (Nat.le_of_ble_eq_true rfl) (Nat.le_of_ble_eq_true rfl) rfl (rfl) hP hD hS dJ0_length_8abf5_10
abbrev rm_kJ1_charAt_3b067_2 : Room := { frames := 2, cells := 0, slots := 0, locals := 43 }
set_option maxHeartbeats 4000000 in
set_option maxRecDepth 100000 in
theorem kJ1_charAt_3b067_2 (l : Launch) (g : zL) (x2 : Int32) (hy0 : 0 ≤ x2.toInt ∧ x2.toInt ≤ 3) : zCi l g yJ1_charAt_3b067 cJ1_charAt_3b067 2 (some .char) rm_kJ1_charAt_3b067_2 [.ref (g.2.2.2.1 2), .int x2] [] (fun (r : Int32) (u : Unit) => (pChr r)) (fun (u : Unit) => []) := by
  refine zCi.mk2 (by decide) (Nat.le_of_ble_eq_true rfl) ?_
  intro p e s m below meth c A args Q hE hret hP hD hS ls hl
  obtain ⟨hx, hb, hr, hml, hown, hG, hlocks, hnm, hX, hA⟩ := hE
  have hown : s.vm.findClass RJ1 = some m.cls := hown
  have hl : lv_has ls 2 [(0, .ref (g.2.2.2.1 2)), (1, .int x2)] := hl
  refine lv_iload_n hx hb dJ1_charAt_3b067_0 rfl (lv_at hl 1 rfl) ?_
  refine lv_aload_n hx hb dJ1_charAt_3b067_1 rfl (lv_at hl 0 rfl) ?_
  refine va_tlen (v := 4) hx hb (hX.2.2.2.1.1 2 (by decide)).2.2.2 hS (by decide) dJ1_charAt_3b067_2 ?_
  refine zfv (wr := []) (va_runS (As := [.int x2, .int 4]) (rest := []) ⟨hx, hb, hml, hown, hG⟩ (kJ0_checkIndex_df160 l g x2 (4 : Int32) (ox_446 hy0) ((show 0 ≤ (4 : Int) ∧ (4 : Int) ≤ 200 from by decide)) (ox_447 hy0) _) ⟨callB_of 2 hG (zGood wc_J0_checkIndex_df160) rfl rfl rfl (hG _ wini_J0) (hG _ wm_J1_9) hJ0_checkIndex_df160 ⟨Nat.le_of_ble_eq_true rfl, Nat.le_of_ble_eq_true rfl⟩, hG _ ws_J0_checkIndex_df160⟩ (zpreS hX hP hD hS hA [] rfl (by decide)) rfl rfl hl.1 rfl (lv_room (Nat.le_of_ble_eq_true rfl)) dJ1_charAt_3b067_3 ⟨Nat.le_of_ble_eq_true rfl, Nat.le_of_ble_eq_true rfl⟩) hP hD hS hA [] [] rfl rfl (by decide) (by decide) (fun _ H locs hp hP hD hS => ?_)
  refine W.cs (cells' := 0) (slots' := 0) rfl rfl ?_
  have hP : va_P g.1 vwCl [] H := hP
  have hD : va_D A [] := hD
  refine lv_aload_n hx hb dJ1_charAt_3b067_6 rfl (lv_at hl 0 rfl) ?_
  refine lv_iload_n hx hb dJ1_charAt_3b067_7 rfl (lv_at hl 1 rfl) ?_
  refine va_tb hx hb (hX.2.2.2.1.1 2 (by decide)).2.2.2 hS (zin (rfl : x2.toInt = _) (ox_448 hy0)) rfl dJ1_charAt_3b067_8 ?_
  refine lv_topi (fun z2 e3 => ?_)
  refine lv_sipush (v := 255) hx hb dJ1_charAt_3b067_9 (by decide) ?_
  refine lv_iand hx hb dJ1_charAt_3b067_12 ?_
  refine lv_topi (fun z4 e5 => ?_)
  have f6 : 0 ≤ z4.toInt ∧ z4.toInt ≤ (255 : Int) := zand e5 (show (255 : Int32).toInt = (255 : Int) from by decide) ((show 0 ≤ (255 : Int) from by decide))
  refine lv_i2c (v := (z4.toUInt32 % 65536).toInt32) hx hb dJ1_charAt_3b067_13 rfl ?_
  refine lv_topi (fun z7 e8 => ?_)
  exact hret z7 () (Nat.le_of_ble_eq_true rfl) (Nat.le_of_ble_eq_true rfl) (pChr.of e8) ((pChr.of e8)) hP hD hS dJ1_charAt_3b067_14
abbrev rm_kJ0_charAt_5068e_2 : Room := { frames := 3, cells := 0, slots := 0, locals := 64 }
set_option maxHeartbeats 4000000 in
set_option maxRecDepth 100000 in
theorem kJ0_charAt_5068e_2 (l : Launch) (g : zL) (x1 : Int32) (hy0 : 0 ≤ x1.toInt ∧ x1.toInt ≤ 3) : zCi l g yJ0_charAt_5068e cJ0_charAt_5068e 2 (some .char) rm_kJ0_charAt_5068e_2 [.ref (g.2.2.1 2), .int x1] [] (fun (r : Int32) (u : Unit) => (pChr r)) (fun (u : Unit) => []) := by
  refine zCi.mk2 (by decide) (Nat.le_of_ble_eq_true rfl) ?_
  intro p e s m below meth c A args Q hE hret hP hD hS ls hl
  obtain ⟨hx, hb, hr, hml, hown, hG, hlocks, hnm, hX, hA⟩ := hE
  have hown : s.vm.findClass RJ0 = some m.cls := hown
  have hl : lv_has ls 2 [(0, .ref (g.2.2.1 2)), (1, .int x1)] := hl
  refine lv_aload_n hx hb dJ0_charAt_5068e_0 rfl (lv_at hl 0 rfl) ?_
  refine zfi (wr := []) (va_runV (As := []) (rest := []) ⟨hx, hb, hml, hown, hG⟩ (kJ0_isLatin1_aae02_2 l g _) ⟨callB_of 0 hG (zGood wc_J0_isLatin1_aae02) rfl rfl rfl (hG _ wini_J0) (hG _ wm_J0_492) hJ0_isLatin1_aae02 ⟨Nat.le_of_ble_eq_true rfl, Nat.le_of_ble_eq_true rfl⟩, hG _ wi_J0_isLatin1_aae02, hG _ wse_J0_J0_isLatin1_aae02⟩ (zpreV (vk_recv hX.2.2.2.1 (by decide) hS) hX hP hD hS hA [] rfl (by decide)) rfl rfl hl.1 rfl (lv_room (Nat.le_of_ble_eq_true rfl)) dJ0_charAt_5068e_1 ⟨Nat.le_of_ble_eq_true rfl, Nat.le_of_ble_eq_true rfl⟩) hP hD hS hA [] [] rfl rfl (by decide) (by decide) (fun r1 _ H locs hp hP hD hS => ?_)
  refine W.cs (cells' := 0) (slots' := 0) rfl rfl ?_
  have hq2 : r1 = (1 : Int32) := hp
  subst hq2
  have hP : va_P g.1 vwCl [] H := hP
  have hD : va_D A [] := hD
  refine lv_if_eq (tgt := 16) hx hb dJ0_charAt_5068e_4 (by decide) (fun c3 => absurd c3 (by decide)) (fun c3 => ?_)
  refine lv_aload_n hx hb dJ0_charAt_5068e_7 rfl (lv_at hl 0 rfl) ?_
  refine vk_getf (v := .ref (g.2.2.2.1 2)) hx hb (hX.2.2.2.1.1 2 (by decide)).2.2.1 hS hown (hG _ wf_J0_9) (fun _ h9 => h9) dJ0_charAt_5068e_8 ?_
  refine lv_iload_n hx hb dJ0_charAt_5068e_11 rfl (lv_at hl 1 rfl) ?_
  refine zfi (wr := []) (va_runS (As := [.ref (g.2.2.2.1 2), .int x1]) (rest := []) ⟨hx, hb, hml, hown, hG⟩ (kJ1_charAt_3b067_2 l g x1 (ox_449 hy0) _) ⟨callB_of 2 hG (zGood wc_J1_charAt_3b067) rfl rfl rfl (hG _ wini_J1) (hG _ wm_J0_495) hJ1_charAt_3b067 ⟨Nat.le_of_ble_eq_true rfl, Nat.le_of_ble_eq_true rfl⟩, hG _ ws_J1_charAt_3b067⟩ (zpreS hX hP hD hS hA [] rfl (by decide)) rfl rfl hl.1 rfl (lv_room (Nat.le_of_ble_eq_true rfl)) dJ0_charAt_5068e_12 ⟨Nat.le_of_ble_eq_true rfl, Nat.le_of_ble_eq_true rfl⟩) hP hD hS hA [] [] rfl rfl (by decide) (by decide) (fun r4 _ H locs hp hP hD hS => ?_)
  refine W.cs (cells' := 0) (slots' := 0) rfl rfl ?_
  have hq5 : pChr r4 := hp
  have hP : va_P g.1 vwCl [] H := hP
  have hD : va_D A [] := hD
  exact hret r4 () (Nat.le_of_ble_eq_true rfl) (Nat.le_of_ble_eq_true rfl) hq5 (hq5) hP hD hS dJ0_charAt_5068e_15
abbrev rm_kJ0_coder_7d493_3 : Room := { frames := 0, cells := 0, slots := 0, locals := 0 }
set_option maxHeartbeats 4000000 in
set_option maxRecDepth 100000 in
theorem kJ0_coder_7d493_3 (l : Launch) (g : zL) : zCi l g yJ0_coder_7d493 cJ0_coder_7d493 1 (some .byte) rm_kJ0_coder_7d493_3 [.ref (g.2.2.1 3)] [] (fun (r : Int32) (u : Unit) => (r = (0 : Int32))) (fun (u : Unit) => []) := by
  refine zCi.mk2 (by decide) (Nat.le_of_ble_eq_true rfl) ?_
  intro p e s m below meth c A args Q hE hret hP hD hS ls hl
  obtain ⟨hx, hb, hr, hml, hown, hG, hlocks, hnm, hX, hA⟩ := hE
  have hown : s.vm.findClass RJ0 = some m.cls := hown
  have hl : lv_has ls 1 [(0, .ref (g.2.2.1 3))] := hl
  refine va_gets hx hb hX.2.2.2.2.1 hS hown (hG _ wf_J0_38) (fun _ h9 => h9) dJ0_coder_7d493_0 ?_
  refine lv_if_eq (tgt := 13) hx hb dJ0_coder_7d493_3 (by decide) (fun c1 => absurd c1 (by decide)) (fun c1 => ?_)
  refine lv_aload_n hx hb dJ0_coder_7d493_6 rfl (lv_at hl 0 rfl) ?_
  refine vk_getf (v := .int 0) hx hb (hX.2.2.2.1.1 3 (by decide)).2.1 hS hown (hG _ wf_J0_15) (fun _ h9 => h9) dJ0_coder_7d493_7 ?_
  refine lv_goto (tgt := 14) hx hb dJ0_coder_7d493_10 (by decide) ?_
  exact hret (0 : Int32) () (Nat.le_of_ble_eq_true rfl) (Nat.le_of_ble_eq_true rfl) rfl (rfl) hP hD hS dJ0_coder_7d493_14
abbrev rm_kJ0_isLatin1_aae02_3 : Room := { frames := 0, cells := 0, slots := 0, locals := 0 }
set_option maxHeartbeats 4000000 in
set_option maxRecDepth 100000 in
theorem kJ0_isLatin1_aae02_3 (l : Launch) (g : zL) : zCi l g yJ0_isLatin1_aae02 cJ0_isLatin1_aae02 1 (some .boolean) rm_kJ0_isLatin1_aae02_3 [.ref (g.2.2.1 3)] [] (fun (r : Int32) (u : Unit) => (r = (1 : Int32))) (fun (u : Unit) => []) := by
  refine zCi.mk2 (by decide) (Nat.le_of_ble_eq_true rfl) ?_
  intro p e s m below meth c A args Q hE hret hP hD hS ls hl
  obtain ⟨hx, hb, hr, hml, hown, hG, hlocks, hnm, hX, hA⟩ := hE
  have hown : s.vm.findClass RJ0 = some m.cls := hown
  have hl : lv_has ls 1 [(0, .ref (g.2.2.1 3))] := hl
  refine va_gets hx hb hX.2.2.2.2.1 hS hown (hG _ wf_J0_38) (fun _ h9 => h9) dJ0_isLatin1_aae02_0 ?_
  refine lv_if_eq (tgt := 17) hx hb dJ0_isLatin1_aae02_3 (by decide) (fun c1 => absurd c1 (by decide)) (fun c1 => ?_)
  refine lv_aload_n hx hb dJ0_isLatin1_aae02_6 rfl (lv_at hl 0 rfl) ?_
  refine vk_getf (v := .int 0) hx hb (hX.2.2.2.1.1 3 (by decide)).2.1 hS hown (hG _ wf_J0_15) (fun _ h9 => h9) dJ0_isLatin1_aae02_7 ?_
  refine lv_if_ne (tgt := 17) hx hb dJ0_isLatin1_aae02_10 (by decide) (fun c2 => (c2 (by decide)).elim) (fun c2 => ?_)
  refine lv_iconst (v := 1) hx hb dJ0_isLatin1_aae02_13 (by decide) ?_
  refine lv_goto (tgt := 18) hx hb dJ0_isLatin1_aae02_14 (by decide) ?_
  exact hret (1 : Int32) () (Nat.le_of_ble_eq_true rfl) (Nat.le_of_ble_eq_true rfl) rfl (rfl) hP hD hS dJ0_isLatin1_aae02_18
abbrev rm_kJ0_length_8abf5_3 : Room := { frames := 1, cells := 0, slots := 0, locals := 20 }
set_option maxHeartbeats 4000000 in
set_option maxRecDepth 100000 in
theorem kJ0_length_8abf5_3 (l : Launch) (g : zL) : zCi l g yJ0_length_8abf5 cJ0_length_8abf5 1 (some .int) rm_kJ0_length_8abf5_3 [.ref (g.2.2.1 3)] [] (fun (r : Int32) (u : Unit) => (r = (5 : Int32))) (fun (u : Unit) => []) := by
  refine zCi.mk2 (by decide) (Nat.le_of_ble_eq_true rfl) ?_
  intro p e s m below meth c A args Q hE hret hP hD hS ls hl
  obtain ⟨hx, hb, hr, hml, hown, hG, hlocks, hnm, hX, hA⟩ := hE
  have hown : s.vm.findClass RJ0 = some m.cls := hown
  have hl : lv_has ls 1 [(0, .ref (g.2.2.1 3))] := hl
  refine lv_aload_n hx hb dJ0_length_8abf5_0 rfl (lv_at hl 0 rfl) ?_
  refine vk_getf (v := .ref (g.2.2.2.1 3)) hx hb (hX.2.2.2.1.1 3 (by decide)).2.2.1 hS hown (hG _ wf_J0_9) (fun _ h9 => h9) dJ0_length_8abf5_1 ?_
  refine va_tlen (v := 5) hx hb (hX.2.2.2.1.1 3 (by decide)).2.2.2 hS (by decide) dJ0_length_8abf5_4 ?_
  refine lv_aload_n hx hb dJ0_length_8abf5_5 rfl (lv_at hl 0 rfl) ?_
  refine zfi (wr := []) (va_runV (As := []) (rest := [.int 5]) ⟨hx, hb, hml, hown, hG⟩ (kJ0_coder_7d493_3 l g _) ⟨callB_of 0 hG (zGood wc_J0_coder_7d493) rfl rfl rfl (hG _ wini_J0) (hG _ wm_J0_335) hJ0_coder_7d493 ⟨Nat.le_of_ble_eq_true rfl, Nat.le_of_ble_eq_true rfl⟩, hG _ wi_J0_coder_7d493, hG _ wse_J0_J0_coder_7d493⟩ (zpreV (vk_recv hX.2.2.2.1 (by decide) hS) hX hP hD hS hA [] rfl (by decide)) rfl rfl hl.1 rfl (lv_room (Nat.le_of_ble_eq_true rfl)) dJ0_length_8abf5_6 ⟨Nat.le_of_ble_eq_true rfl, Nat.le_of_ble_eq_true rfl⟩) hP hD hS hA [] [] rfl rfl (by decide) (by decide) (fun r1 _ H locs hp hP hD hS => ?_)
  refine W.cs (cells' := 0) (slots' := 0) rfl rfl ?_
  have hq2 : r1 = (0 : Int32) := hp
  subst hq2
  have hP : va_P g.1 vwCl [] H := hP
  have hD : va_D A [] := hD
  refine lv_ishr hx hb dJ0_length_8abf5_9 ?_
  refine zt (z := 5) (by decide) ?_
  exact hret (5 : Int32) () (Nat.le_of_ble_eq_true rfl) (Nat.le_of_ble_eq_true rfl) rfl (rfl) hP hD hS dJ0_length_8abf5_10
abbrev rm_kJ1_charAt_3b067_3 : Room := { frames := 2, cells := 0, slots := 0, locals := 43 }
set_option maxHeartbeats 4000000 in
set_option maxRecDepth 100000 in
theorem kJ1_charAt_3b067_3 (l : Launch) (g : zL) (x2 : Int32) (hy0 : 0 ≤ x2.toInt ∧ x2.toInt ≤ 4) : zCi l g yJ1_charAt_3b067 cJ1_charAt_3b067 2 (some .char) rm_kJ1_charAt_3b067_3 [.ref (g.2.2.2.1 3), .int x2] [] (fun (r : Int32) (u : Unit) => (pChr r)) (fun (u : Unit) => []) := by
  refine zCi.mk2 (by decide) (Nat.le_of_ble_eq_true rfl) ?_
  intro p e s m below meth c A args Q hE hret hP hD hS ls hl
  obtain ⟨hx, hb, hr, hml, hown, hG, hlocks, hnm, hX, hA⟩ := hE
  have hown : s.vm.findClass RJ1 = some m.cls := hown
  have hl : lv_has ls 2 [(0, .ref (g.2.2.2.1 3)), (1, .int x2)] := hl
  refine lv_iload_n hx hb dJ1_charAt_3b067_0 rfl (lv_at hl 1 rfl) ?_
  refine lv_aload_n hx hb dJ1_charAt_3b067_1 rfl (lv_at hl 0 rfl) ?_
  refine va_tlen (v := 5) hx hb (hX.2.2.2.1.1 3 (by decide)).2.2.2 hS (by decide) dJ1_charAt_3b067_2 ?_
  refine zfv (wr := []) (va_runS (As := [.int x2, .int 5]) (rest := []) ⟨hx, hb, hml, hown, hG⟩ (kJ0_checkIndex_df160 l g x2 (5 : Int32) (ox_442 hy0) ((show 0 ≤ (5 : Int) ∧ (5 : Int) ≤ 200 from by decide)) (ox_443 hy0) _) ⟨callB_of 2 hG (zGood wc_J0_checkIndex_df160) rfl rfl rfl (hG _ wini_J0) (hG _ wm_J1_9) hJ0_checkIndex_df160 ⟨Nat.le_of_ble_eq_true rfl, Nat.le_of_ble_eq_true rfl⟩, hG _ ws_J0_checkIndex_df160⟩ (zpreS hX hP hD hS hA [] rfl (by decide)) rfl rfl hl.1 rfl (lv_room (Nat.le_of_ble_eq_true rfl)) dJ1_charAt_3b067_3 ⟨Nat.le_of_ble_eq_true rfl, Nat.le_of_ble_eq_true rfl⟩) hP hD hS hA [] [] rfl rfl (by decide) (by decide) (fun _ H locs hp hP hD hS => ?_)
  refine W.cs (cells' := 0) (slots' := 0) rfl rfl ?_
  have hP : va_P g.1 vwCl [] H := hP
  have hD : va_D A [] := hD
  refine lv_aload_n hx hb dJ1_charAt_3b067_6 rfl (lv_at hl 0 rfl) ?_
  refine lv_iload_n hx hb dJ1_charAt_3b067_7 rfl (lv_at hl 1 rfl) ?_
  refine va_tb hx hb (hX.2.2.2.1.1 3 (by decide)).2.2.2 hS (zin (rfl : x2.toInt = _) (ox_444 hy0)) rfl dJ1_charAt_3b067_8 ?_
  refine lv_topi (fun z2 e3 => ?_)
  refine lv_sipush (v := 255) hx hb dJ1_charAt_3b067_9 (by decide) ?_
  refine lv_iand hx hb dJ1_charAt_3b067_12 ?_
  refine lv_topi (fun z4 e5 => ?_)
  have f6 : 0 ≤ z4.toInt ∧ z4.toInt ≤ (255 : Int) := zand e5 (show (255 : Int32).toInt = (255 : Int) from by decide) ((show 0 ≤ (255 : Int) from by decide))
  refine lv_i2c (v := (z4.toUInt32 % 65536).toInt32) hx hb dJ1_charAt_3b067_13 rfl ?_
  refine lv_topi (fun z7 e8 => ?_)
  exact hret z7 () (Nat.le_of_ble_eq_true rfl) (Nat.le_of_ble_eq_true rfl) (pChr.of e8) ((pChr.of e8)) hP hD hS dJ1_charAt_3b067_14
abbrev rm_kJ0_charAt_5068e_3 : Room := { frames := 3, cells := 0, slots := 0, locals := 64 }
set_option maxHeartbeats 4000000 in
set_option maxRecDepth 100000 in
theorem kJ0_charAt_5068e_3 (l : Launch) (g : zL) (x1 : Int32) (hy0 : 0 ≤ x1.toInt ∧ x1.toInt ≤ 4) : zCi l g yJ0_charAt_5068e cJ0_charAt_5068e 2 (some .char) rm_kJ0_charAt_5068e_3 [.ref (g.2.2.1 3), .int x1] [] (fun (r : Int32) (u : Unit) => (pChr r)) (fun (u : Unit) => []) := by
  refine zCi.mk2 (by decide) (Nat.le_of_ble_eq_true rfl) ?_
  intro p e s m below meth c A args Q hE hret hP hD hS ls hl
  obtain ⟨hx, hb, hr, hml, hown, hG, hlocks, hnm, hX, hA⟩ := hE
  have hown : s.vm.findClass RJ0 = some m.cls := hown
  have hl : lv_has ls 2 [(0, .ref (g.2.2.1 3)), (1, .int x1)] := hl
  refine lv_aload_n hx hb dJ0_charAt_5068e_0 rfl (lv_at hl 0 rfl) ?_
  refine zfi (wr := []) (va_runV (As := []) (rest := []) ⟨hx, hb, hml, hown, hG⟩ (kJ0_isLatin1_aae02_3 l g _) ⟨callB_of 0 hG (zGood wc_J0_isLatin1_aae02) rfl rfl rfl (hG _ wini_J0) (hG _ wm_J0_492) hJ0_isLatin1_aae02 ⟨Nat.le_of_ble_eq_true rfl, Nat.le_of_ble_eq_true rfl⟩, hG _ wi_J0_isLatin1_aae02, hG _ wse_J0_J0_isLatin1_aae02⟩ (zpreV (vk_recv hX.2.2.2.1 (by decide) hS) hX hP hD hS hA [] rfl (by decide)) rfl rfl hl.1 rfl (lv_room (Nat.le_of_ble_eq_true rfl)) dJ0_charAt_5068e_1 ⟨Nat.le_of_ble_eq_true rfl, Nat.le_of_ble_eq_true rfl⟩) hP hD hS hA [] [] rfl rfl (by decide) (by decide) (fun r1 _ H locs hp hP hD hS => ?_)
  refine W.cs (cells' := 0) (slots' := 0) rfl rfl ?_
  have hq2 : r1 = (1 : Int32) := hp
  subst hq2
  have hP : va_P g.1 vwCl [] H := hP
  have hD : va_D A [] := hD
  refine lv_if_eq (tgt := 16) hx hb dJ0_charAt_5068e_4 (by decide) (fun c3 => absurd c3 (by decide)) (fun c3 => ?_)
  refine lv_aload_n hx hb dJ0_charAt_5068e_7 rfl (lv_at hl 0 rfl) ?_
  refine vk_getf (v := .ref (g.2.2.2.1 3)) hx hb (hX.2.2.2.1.1 3 (by decide)).2.2.1 hS hown (hG _ wf_J0_9) (fun _ h9 => h9) dJ0_charAt_5068e_8 ?_
  refine lv_iload_n hx hb dJ0_charAt_5068e_11 rfl (lv_at hl 1 rfl) ?_
  refine zfi (wr := []) (va_runS (As := [.ref (g.2.2.2.1 3), .int x1]) (rest := []) ⟨hx, hb, hml, hown, hG⟩ (kJ1_charAt_3b067_3 l g x1 (ox_445 hy0) _) ⟨callB_of 2 hG (zGood wc_J1_charAt_3b067) rfl rfl rfl (hG _ wini_J1) (hG _ wm_J0_495) hJ1_charAt_3b067 ⟨Nat.le_of_ble_eq_true rfl, Nat.le_of_ble_eq_true rfl⟩, hG _ ws_J1_charAt_3b067⟩ (zpreS hX hP hD hS hA [] rfl (by decide)) rfl rfl hl.1 rfl (lv_room (Nat.le_of_ble_eq_true rfl)) dJ0_charAt_5068e_12 ⟨Nat.le_of_ble_eq_true rfl, Nat.le_of_ble_eq_true rfl⟩) hP hD hS hA [] [] rfl rfl (by decide) (by decide) (fun r4 _ H locs hp hP hD hS => ?_)
  refine W.cs (cells' := 0) (slots' := 0) rfl rfl ?_
  have hq5 : pChr r4 := hp
  have hP : va_P g.1 vwCl [] H := hP
  have hD : va_D A [] := hD
  exact hret r4 () (Nat.le_of_ble_eq_true rfl) (Nat.le_of_ble_eq_true rfl) hq5 (hq5) hP hD hS dJ0_charAt_5068e_15
abbrev rm_kJ0_coder_7d493_4 : Room := { frames := 0, cells := 0, slots := 0, locals := 0 }
set_option maxHeartbeats 4000000 in
set_option maxRecDepth 100000 in
theorem kJ0_coder_7d493_4 (l : Launch) (g : zL) : zCi l g yJ0_coder_7d493 cJ0_coder_7d493 1 (some .byte) rm_kJ0_coder_7d493_4 [.ref (g.2.2.1 4)] [] (fun (r : Int32) (u : Unit) => (r = (0 : Int32))) (fun (u : Unit) => []) := by
  refine zCi.mk2 (by decide) (Nat.le_of_ble_eq_true rfl) ?_
  intro p e s m below meth c A args Q hE hret hP hD hS ls hl
  obtain ⟨hx, hb, hr, hml, hown, hG, hlocks, hnm, hX, hA⟩ := hE
  have hown : s.vm.findClass RJ0 = some m.cls := hown
  have hl : lv_has ls 1 [(0, .ref (g.2.2.1 4))] := hl
  refine va_gets hx hb hX.2.2.2.2.1 hS hown (hG _ wf_J0_38) (fun _ h9 => h9) dJ0_coder_7d493_0 ?_
  refine lv_if_eq (tgt := 13) hx hb dJ0_coder_7d493_3 (by decide) (fun c1 => absurd c1 (by decide)) (fun c1 => ?_)
  refine lv_aload_n hx hb dJ0_coder_7d493_6 rfl (lv_at hl 0 rfl) ?_
  refine vk_getf (v := .int 0) hx hb (hX.2.2.2.1.1 4 (by decide)).2.1 hS hown (hG _ wf_J0_15) (fun _ h9 => h9) dJ0_coder_7d493_7 ?_
  refine lv_goto (tgt := 14) hx hb dJ0_coder_7d493_10 (by decide) ?_
  exact hret (0 : Int32) () (Nat.le_of_ble_eq_true rfl) (Nat.le_of_ble_eq_true rfl) rfl (rfl) hP hD hS dJ0_coder_7d493_14
abbrev rm_kJ0_isLatin1_aae02_4 : Room := { frames := 0, cells := 0, slots := 0, locals := 0 }
set_option maxHeartbeats 4000000 in
set_option maxRecDepth 100000 in
theorem kJ0_isLatin1_aae02_4 (l : Launch) (g : zL) : zCi l g yJ0_isLatin1_aae02 cJ0_isLatin1_aae02 1 (some .boolean) rm_kJ0_isLatin1_aae02_4 [.ref (g.2.2.1 4)] [] (fun (r : Int32) (u : Unit) => (r = (1 : Int32))) (fun (u : Unit) => []) := by
  refine zCi.mk2 (by decide) (Nat.le_of_ble_eq_true rfl) ?_
  intro p e s m below meth c A args Q hE hret hP hD hS ls hl
  obtain ⟨hx, hb, hr, hml, hown, hG, hlocks, hnm, hX, hA⟩ := hE
  have hown : s.vm.findClass RJ0 = some m.cls := hown
  have hl : lv_has ls 1 [(0, .ref (g.2.2.1 4))] := hl
  refine va_gets hx hb hX.2.2.2.2.1 hS hown (hG _ wf_J0_38) (fun _ h9 => h9) dJ0_isLatin1_aae02_0 ?_
  refine lv_if_eq (tgt := 17) hx hb dJ0_isLatin1_aae02_3 (by decide) (fun c1 => absurd c1 (by decide)) (fun c1 => ?_)
  refine lv_aload_n hx hb dJ0_isLatin1_aae02_6 rfl (lv_at hl 0 rfl) ?_
  refine vk_getf (v := .int 0) hx hb (hX.2.2.2.1.1 4 (by decide)).2.1 hS hown (hG _ wf_J0_15) (fun _ h9 => h9) dJ0_isLatin1_aae02_7 ?_
  refine lv_if_ne (tgt := 17) hx hb dJ0_isLatin1_aae02_10 (by decide) (fun c2 => (c2 (by decide)).elim) (fun c2 => ?_)
  refine lv_iconst (v := 1) hx hb dJ0_isLatin1_aae02_13 (by decide) ?_
  refine lv_goto (tgt := 18) hx hb dJ0_isLatin1_aae02_14 (by decide) ?_
  exact hret (1 : Int32) () (Nat.le_of_ble_eq_true rfl) (Nat.le_of_ble_eq_true rfl) rfl (rfl) hP hD hS dJ0_isLatin1_aae02_18
abbrev rm_kJ0_length_8abf5_4 : Room := { frames := 1, cells := 0, slots := 0, locals := 20 }
set_option maxHeartbeats 4000000 in
set_option maxRecDepth 100000 in
theorem kJ0_length_8abf5_4 (l : Launch) (g : zL) : zCi l g yJ0_length_8abf5 cJ0_length_8abf5 1 (some .int) rm_kJ0_length_8abf5_4 [.ref (g.2.2.1 4)] [] (fun (r : Int32) (u : Unit) => (r = (4 : Int32))) (fun (u : Unit) => []) := by
  refine zCi.mk2 (by decide) (Nat.le_of_ble_eq_true rfl) ?_
  intro p e s m below meth c A args Q hE hret hP hD hS ls hl
  obtain ⟨hx, hb, hr, hml, hown, hG, hlocks, hnm, hX, hA⟩ := hE
  have hown : s.vm.findClass RJ0 = some m.cls := hown
  have hl : lv_has ls 1 [(0, .ref (g.2.2.1 4))] := hl
  refine lv_aload_n hx hb dJ0_length_8abf5_0 rfl (lv_at hl 0 rfl) ?_
  refine vk_getf (v := .ref (g.2.2.2.1 4)) hx hb (hX.2.2.2.1.1 4 (by decide)).2.2.1 hS hown (hG _ wf_J0_9) (fun _ h9 => h9) dJ0_length_8abf5_1 ?_
  refine va_tlen (v := 4) hx hb (hX.2.2.2.1.1 4 (by decide)).2.2.2 hS (by decide) dJ0_length_8abf5_4 ?_
  refine lv_aload_n hx hb dJ0_length_8abf5_5 rfl (lv_at hl 0 rfl) ?_
  refine zfi (wr := []) (va_runV (As := []) (rest := [.int 4]) ⟨hx, hb, hml, hown, hG⟩ (kJ0_coder_7d493_4 l g _) ⟨callB_of 0 hG (zGood wc_J0_coder_7d493) rfl rfl rfl (hG _ wini_J0) (hG _ wm_J0_335) hJ0_coder_7d493 ⟨Nat.le_of_ble_eq_true rfl, Nat.le_of_ble_eq_true rfl⟩, hG _ wi_J0_coder_7d493, hG _ wse_J0_J0_coder_7d493⟩ (zpreV (vk_recv hX.2.2.2.1 (by decide) hS) hX hP hD hS hA [] rfl (by decide)) rfl rfl hl.1 rfl (lv_room (Nat.le_of_ble_eq_true rfl)) dJ0_length_8abf5_6 ⟨Nat.le_of_ble_eq_true rfl, Nat.le_of_ble_eq_true rfl⟩) hP hD hS hA [] [] rfl rfl (by decide) (by decide) (fun r1 _ H locs hp hP hD hS => ?_)
  refine W.cs (cells' := 0) (slots' := 0) rfl rfl ?_
  have hq2 : r1 = (0 : Int32) := hp
  subst hq2
  have hP : va_P g.1 vwCl [] H := hP
  have hD : va_D A [] := hD
  refine lv_ishr hx hb dJ0_length_8abf5_9 ?_
  refine zt (z := 4) (by decide) ?_
  exact hret (4 : Int32) () (Nat.le_of_ble_eq_true rfl) (Nat.le_of_ble_eq_true rfl) rfl (rfl) hP hD hS dJ0_length_8abf5_10
abbrev rm_kJ1_charAt_3b067_4 : Room := { frames := 2, cells := 0, slots := 0, locals := 43 }
set_option maxHeartbeats 4000000 in
set_option maxRecDepth 100000 in
theorem kJ1_charAt_3b067_4 (l : Launch) (g : zL) (x2 : Int32) (hy0 : 0 ≤ x2.toInt ∧ x2.toInt ≤ 3) : zCi l g yJ1_charAt_3b067 cJ1_charAt_3b067 2 (some .char) rm_kJ1_charAt_3b067_4 [.ref (g.2.2.2.1 4), .int x2] [] (fun (r : Int32) (u : Unit) => (pChr r)) (fun (u : Unit) => []) := by
  refine zCi.mk2 (by decide) (Nat.le_of_ble_eq_true rfl) ?_
  intro p e s m below meth c A args Q hE hret hP hD hS ls hl
  obtain ⟨hx, hb, hr, hml, hown, hG, hlocks, hnm, hX, hA⟩ := hE
  have hown : s.vm.findClass RJ1 = some m.cls := hown
  have hl : lv_has ls 2 [(0, .ref (g.2.2.2.1 4)), (1, .int x2)] := hl
  refine lv_iload_n hx hb dJ1_charAt_3b067_0 rfl (lv_at hl 1 rfl) ?_
  refine lv_aload_n hx hb dJ1_charAt_3b067_1 rfl (lv_at hl 0 rfl) ?_
  refine va_tlen (v := 4) hx hb (hX.2.2.2.1.1 4 (by decide)).2.2.2 hS (by decide) dJ1_charAt_3b067_2 ?_
  refine zfv (wr := []) (va_runS (As := [.int x2, .int 4]) (rest := []) ⟨hx, hb, hml, hown, hG⟩ (kJ0_checkIndex_df160 l g x2 (4 : Int32) (ox_446 hy0) ((show 0 ≤ (4 : Int) ∧ (4 : Int) ≤ 200 from by decide)) (ox_447 hy0) _) ⟨callB_of 2 hG (zGood wc_J0_checkIndex_df160) rfl rfl rfl (hG _ wini_J0) (hG _ wm_J1_9) hJ0_checkIndex_df160 ⟨Nat.le_of_ble_eq_true rfl, Nat.le_of_ble_eq_true rfl⟩, hG _ ws_J0_checkIndex_df160⟩ (zpreS hX hP hD hS hA [] rfl (by decide)) rfl rfl hl.1 rfl (lv_room (Nat.le_of_ble_eq_true rfl)) dJ1_charAt_3b067_3 ⟨Nat.le_of_ble_eq_true rfl, Nat.le_of_ble_eq_true rfl⟩) hP hD hS hA [] [] rfl rfl (by decide) (by decide) (fun _ H locs hp hP hD hS => ?_)
  refine W.cs (cells' := 0) (slots' := 0) rfl rfl ?_
  have hP : va_P g.1 vwCl [] H := hP
  have hD : va_D A [] := hD
  refine lv_aload_n hx hb dJ1_charAt_3b067_6 rfl (lv_at hl 0 rfl) ?_
  refine lv_iload_n hx hb dJ1_charAt_3b067_7 rfl (lv_at hl 1 rfl) ?_
  refine va_tb hx hb (hX.2.2.2.1.1 4 (by decide)).2.2.2 hS (zin (rfl : x2.toInt = _) (ox_448 hy0)) rfl dJ1_charAt_3b067_8 ?_
  refine lv_topi (fun z2 e3 => ?_)
  refine lv_sipush (v := 255) hx hb dJ1_charAt_3b067_9 (by decide) ?_
  refine lv_iand hx hb dJ1_charAt_3b067_12 ?_
  refine lv_topi (fun z4 e5 => ?_)
  have f6 : 0 ≤ z4.toInt ∧ z4.toInt ≤ (255 : Int) := zand e5 (show (255 : Int32).toInt = (255 : Int) from by decide) ((show 0 ≤ (255 : Int) from by decide))
  refine lv_i2c (v := (z4.toUInt32 % 65536).toInt32) hx hb dJ1_charAt_3b067_13 rfl ?_
  refine lv_topi (fun z7 e8 => ?_)
  exact hret z7 () (Nat.le_of_ble_eq_true rfl) (Nat.le_of_ble_eq_true rfl) (pChr.of e8) ((pChr.of e8)) hP hD hS dJ1_charAt_3b067_14
abbrev rm_kJ0_charAt_5068e_4 : Room := { frames := 3, cells := 0, slots := 0, locals := 64 }
set_option maxHeartbeats 4000000 in
set_option maxRecDepth 100000 in
theorem kJ0_charAt_5068e_4 (l : Launch) (g : zL) (x1 : Int32) (hy0 : 0 ≤ x1.toInt ∧ x1.toInt ≤ 3) : zCi l g yJ0_charAt_5068e cJ0_charAt_5068e 2 (some .char) rm_kJ0_charAt_5068e_4 [.ref (g.2.2.1 4), .int x1] [] (fun (r : Int32) (u : Unit) => (pChr r)) (fun (u : Unit) => []) := by
  refine zCi.mk2 (by decide) (Nat.le_of_ble_eq_true rfl) ?_
  intro p e s m below meth c A args Q hE hret hP hD hS ls hl
  obtain ⟨hx, hb, hr, hml, hown, hG, hlocks, hnm, hX, hA⟩ := hE
  have hown : s.vm.findClass RJ0 = some m.cls := hown
  have hl : lv_has ls 2 [(0, .ref (g.2.2.1 4)), (1, .int x1)] := hl
  refine lv_aload_n hx hb dJ0_charAt_5068e_0 rfl (lv_at hl 0 rfl) ?_
  refine zfi (wr := []) (va_runV (As := []) (rest := []) ⟨hx, hb, hml, hown, hG⟩ (kJ0_isLatin1_aae02_4 l g _) ⟨callB_of 0 hG (zGood wc_J0_isLatin1_aae02) rfl rfl rfl (hG _ wini_J0) (hG _ wm_J0_492) hJ0_isLatin1_aae02 ⟨Nat.le_of_ble_eq_true rfl, Nat.le_of_ble_eq_true rfl⟩, hG _ wi_J0_isLatin1_aae02, hG _ wse_J0_J0_isLatin1_aae02⟩ (zpreV (vk_recv hX.2.2.2.1 (by decide) hS) hX hP hD hS hA [] rfl (by decide)) rfl rfl hl.1 rfl (lv_room (Nat.le_of_ble_eq_true rfl)) dJ0_charAt_5068e_1 ⟨Nat.le_of_ble_eq_true rfl, Nat.le_of_ble_eq_true rfl⟩) hP hD hS hA [] [] rfl rfl (by decide) (by decide) (fun r1 _ H locs hp hP hD hS => ?_)
  refine W.cs (cells' := 0) (slots' := 0) rfl rfl ?_
  have hq2 : r1 = (1 : Int32) := hp
  subst hq2
  have hP : va_P g.1 vwCl [] H := hP
  have hD : va_D A [] := hD
  refine lv_if_eq (tgt := 16) hx hb dJ0_charAt_5068e_4 (by decide) (fun c3 => absurd c3 (by decide)) (fun c3 => ?_)
  refine lv_aload_n hx hb dJ0_charAt_5068e_7 rfl (lv_at hl 0 rfl) ?_
  refine vk_getf (v := .ref (g.2.2.2.1 4)) hx hb (hX.2.2.2.1.1 4 (by decide)).2.2.1 hS hown (hG _ wf_J0_9) (fun _ h9 => h9) dJ0_charAt_5068e_8 ?_
  refine lv_iload_n hx hb dJ0_charAt_5068e_11 rfl (lv_at hl 1 rfl) ?_
  refine zfi (wr := []) (va_runS (As := [.ref (g.2.2.2.1 4), .int x1]) (rest := []) ⟨hx, hb, hml, hown, hG⟩ (kJ1_charAt_3b067_4 l g x1 (ox_449 hy0) _) ⟨callB_of 2 hG (zGood wc_J1_charAt_3b067) rfl rfl rfl (hG _ wini_J1) (hG _ wm_J0_495) hJ1_charAt_3b067 ⟨Nat.le_of_ble_eq_true rfl, Nat.le_of_ble_eq_true rfl⟩, hG _ ws_J1_charAt_3b067⟩ (zpreS hX hP hD hS hA [] rfl (by decide)) rfl rfl hl.1 rfl (lv_room (Nat.le_of_ble_eq_true rfl)) dJ0_charAt_5068e_12 ⟨Nat.le_of_ble_eq_true rfl, Nat.le_of_ble_eq_true rfl⟩) hP hD hS hA [] [] rfl rfl (by decide) (by decide) (fun r4 _ H locs hp hP hD hS => ?_)
  refine W.cs (cells' := 0) (slots' := 0) rfl rfl ?_
  have hq5 : pChr r4 := hp
  have hP : va_P g.1 vwCl [] H := hP
  have hD : va_D A [] := hD
  exact hret r4 () (Nat.le_of_ble_eq_true rfl) (Nat.le_of_ble_eq_true rfl) hq5 (hq5) hP hD hS dJ0_charAt_5068e_15
abbrev rm_kJ0_coder_7d493_5 : Room := { frames := 0, cells := 0, slots := 0, locals := 0 }
set_option maxHeartbeats 4000000 in
set_option maxRecDepth 100000 in
theorem kJ0_coder_7d493_5 (l : Launch) (g : zL) : zCi l g yJ0_coder_7d493 cJ0_coder_7d493 1 (some .byte) rm_kJ0_coder_7d493_5 [.ref (g.2.2.1 5)] [] (fun (r : Int32) (u : Unit) => (r = (0 : Int32))) (fun (u : Unit) => []) := by
  refine zCi.mk2 (by decide) (Nat.le_of_ble_eq_true rfl) ?_
  intro p e s m below meth c A args Q hE hret hP hD hS ls hl
  obtain ⟨hx, hb, hr, hml, hown, hG, hlocks, hnm, hX, hA⟩ := hE
  have hown : s.vm.findClass RJ0 = some m.cls := hown
  have hl : lv_has ls 1 [(0, .ref (g.2.2.1 5))] := hl
  refine va_gets hx hb hX.2.2.2.2.1 hS hown (hG _ wf_J0_38) (fun _ h9 => h9) dJ0_coder_7d493_0 ?_
  refine lv_if_eq (tgt := 13) hx hb dJ0_coder_7d493_3 (by decide) (fun c1 => absurd c1 (by decide)) (fun c1 => ?_)
  refine lv_aload_n hx hb dJ0_coder_7d493_6 rfl (lv_at hl 0 rfl) ?_
  refine vk_getf (v := .int 0) hx hb (hX.2.2.2.1.1 5 (by decide)).2.1 hS hown (hG _ wf_J0_15) (fun _ h9 => h9) dJ0_coder_7d493_7 ?_
  refine lv_goto (tgt := 14) hx hb dJ0_coder_7d493_10 (by decide) ?_
  exact hret (0 : Int32) () (Nat.le_of_ble_eq_true rfl) (Nat.le_of_ble_eq_true rfl) rfl (rfl) hP hD hS dJ0_coder_7d493_14
abbrev rm_kJ0_isLatin1_aae02_5 : Room := { frames := 0, cells := 0, slots := 0, locals := 0 }
set_option maxHeartbeats 4000000 in
set_option maxRecDepth 100000 in
theorem kJ0_isLatin1_aae02_5 (l : Launch) (g : zL) : zCi l g yJ0_isLatin1_aae02 cJ0_isLatin1_aae02 1 (some .boolean) rm_kJ0_isLatin1_aae02_5 [.ref (g.2.2.1 5)] [] (fun (r : Int32) (u : Unit) => (r = (1 : Int32))) (fun (u : Unit) => []) := by
  refine zCi.mk2 (by decide) (Nat.le_of_ble_eq_true rfl) ?_
  intro p e s m below meth c A args Q hE hret hP hD hS ls hl
  obtain ⟨hx, hb, hr, hml, hown, hG, hlocks, hnm, hX, hA⟩ := hE
  have hown : s.vm.findClass RJ0 = some m.cls := hown
  have hl : lv_has ls 1 [(0, .ref (g.2.2.1 5))] := hl
  refine va_gets hx hb hX.2.2.2.2.1 hS hown (hG _ wf_J0_38) (fun _ h9 => h9) dJ0_isLatin1_aae02_0 ?_
  refine lv_if_eq (tgt := 17) hx hb dJ0_isLatin1_aae02_3 (by decide) (fun c1 => absurd c1 (by decide)) (fun c1 => ?_)
  refine lv_aload_n hx hb dJ0_isLatin1_aae02_6 rfl (lv_at hl 0 rfl) ?_
  refine vk_getf (v := .int 0) hx hb (hX.2.2.2.1.1 5 (by decide)).2.1 hS hown (hG _ wf_J0_15) (fun _ h9 => h9) dJ0_isLatin1_aae02_7 ?_
  refine lv_if_ne (tgt := 17) hx hb dJ0_isLatin1_aae02_10 (by decide) (fun c2 => (c2 (by decide)).elim) (fun c2 => ?_)
  refine lv_iconst (v := 1) hx hb dJ0_isLatin1_aae02_13 (by decide) ?_
  refine lv_goto (tgt := 18) hx hb dJ0_isLatin1_aae02_14 (by decide) ?_
  exact hret (1 : Int32) () (Nat.le_of_ble_eq_true rfl) (Nat.le_of_ble_eq_true rfl) rfl (rfl) hP hD hS dJ0_isLatin1_aae02_18
abbrev rm_kJ0_length_8abf5_5 : Room := { frames := 1, cells := 0, slots := 0, locals := 20 }
set_option maxHeartbeats 4000000 in
set_option maxRecDepth 100000 in
theorem kJ0_length_8abf5_5 (l : Launch) (g : zL) : zCi l g yJ0_length_8abf5 cJ0_length_8abf5 1 (some .int) rm_kJ0_length_8abf5_5 [.ref (g.2.2.1 5)] [] (fun (r : Int32) (u : Unit) => (r = (5 : Int32))) (fun (u : Unit) => []) := by
  refine zCi.mk2 (by decide) (Nat.le_of_ble_eq_true rfl) ?_
  intro p e s m below meth c A args Q hE hret hP hD hS ls hl
  obtain ⟨hx, hb, hr, hml, hown, hG, hlocks, hnm, hX, hA⟩ := hE
  have hown : s.vm.findClass RJ0 = some m.cls := hown
  have hl : lv_has ls 1 [(0, .ref (g.2.2.1 5))] := hl
  refine lv_aload_n hx hb dJ0_length_8abf5_0 rfl (lv_at hl 0 rfl) ?_
  refine vk_getf (v := .ref (g.2.2.2.1 5)) hx hb (hX.2.2.2.1.1 5 (by decide)).2.2.1 hS hown (hG _ wf_J0_9) (fun _ h9 => h9) dJ0_length_8abf5_1 ?_
  refine va_tlen (v := 5) hx hb (hX.2.2.2.1.1 5 (by decide)).2.2.2 hS (by decide) dJ0_length_8abf5_4 ?_
  refine lv_aload_n hx hb dJ0_length_8abf5_5 rfl (lv_at hl 0 rfl) ?_
  refine zfi (wr := []) (va_runV (As := []) (rest := [.int 5]) ⟨hx, hb, hml, hown, hG⟩ (kJ0_coder_7d493_5 l g _) ⟨callB_of 0 hG (zGood wc_J0_coder_7d493) rfl rfl rfl (hG _ wini_J0) (hG _ wm_J0_335) hJ0_coder_7d493 ⟨Nat.le_of_ble_eq_true rfl, Nat.le_of_ble_eq_true rfl⟩, hG _ wi_J0_coder_7d493, hG _ wse_J0_J0_coder_7d493⟩ (zpreV (vk_recv hX.2.2.2.1 (by decide) hS) hX hP hD hS hA [] rfl (by decide)) rfl rfl hl.1 rfl (lv_room (Nat.le_of_ble_eq_true rfl)) dJ0_length_8abf5_6 ⟨Nat.le_of_ble_eq_true rfl, Nat.le_of_ble_eq_true rfl⟩) hP hD hS hA [] [] rfl rfl (by decide) (by decide) (fun r1 _ H locs hp hP hD hS => ?_)
  refine W.cs (cells' := 0) (slots' := 0) rfl rfl ?_
  have hq2 : r1 = (0 : Int32) := hp
  subst hq2
  have hP : va_P g.1 vwCl [] H := hP
  have hD : va_D A [] := hD
  refine lv_ishr hx hb dJ0_length_8abf5_9 ?_
  refine zt (z := 5) (by decide) ?_
  exact hret (5 : Int32) () (Nat.le_of_ble_eq_true rfl) (Nat.le_of_ble_eq_true rfl) rfl (rfl) hP hD hS dJ0_length_8abf5_10
abbrev rm_kJ1_charAt_3b067_5 : Room := { frames := 2, cells := 0, slots := 0, locals := 43 }
set_option maxHeartbeats 4000000 in
set_option maxRecDepth 100000 in
theorem kJ1_charAt_3b067_5 (l : Launch) (g : zL) (x2 : Int32) (hy0 : 0 ≤ x2.toInt ∧ x2.toInt ≤ 4) : zCi l g yJ1_charAt_3b067 cJ1_charAt_3b067 2 (some .char) rm_kJ1_charAt_3b067_5 [.ref (g.2.2.2.1 5), .int x2] [] (fun (r : Int32) (u : Unit) => (pChr r)) (fun (u : Unit) => []) := by
  refine zCi.mk2 (by decide) (Nat.le_of_ble_eq_true rfl) ?_
  intro p e s m below meth c A args Q hE hret hP hD hS ls hl
  obtain ⟨hx, hb, hr, hml, hown, hG, hlocks, hnm, hX, hA⟩ := hE
  have hown : s.vm.findClass RJ1 = some m.cls := hown
  have hl : lv_has ls 2 [(0, .ref (g.2.2.2.1 5)), (1, .int x2)] := hl
  refine lv_iload_n hx hb dJ1_charAt_3b067_0 rfl (lv_at hl 1 rfl) ?_
  refine lv_aload_n hx hb dJ1_charAt_3b067_1 rfl (lv_at hl 0 rfl) ?_
  refine va_tlen (v := 5) hx hb (hX.2.2.2.1.1 5 (by decide)).2.2.2 hS (by decide) dJ1_charAt_3b067_2 ?_
  refine zfv (wr := []) (va_runS (As := [.int x2, .int 5]) (rest := []) ⟨hx, hb, hml, hown, hG⟩ (kJ0_checkIndex_df160 l g x2 (5 : Int32) (ox_442 hy0) ((show 0 ≤ (5 : Int) ∧ (5 : Int) ≤ 200 from by decide)) (ox_443 hy0) _) ⟨callB_of 2 hG (zGood wc_J0_checkIndex_df160) rfl rfl rfl (hG _ wini_J0) (hG _ wm_J1_9) hJ0_checkIndex_df160 ⟨Nat.le_of_ble_eq_true rfl, Nat.le_of_ble_eq_true rfl⟩, hG _ ws_J0_checkIndex_df160⟩ (zpreS hX hP hD hS hA [] rfl (by decide)) rfl rfl hl.1 rfl (lv_room (Nat.le_of_ble_eq_true rfl)) dJ1_charAt_3b067_3 ⟨Nat.le_of_ble_eq_true rfl, Nat.le_of_ble_eq_true rfl⟩) hP hD hS hA [] [] rfl rfl (by decide) (by decide) (fun _ H locs hp hP hD hS => ?_)
  refine W.cs (cells' := 0) (slots' := 0) rfl rfl ?_
  have hP : va_P g.1 vwCl [] H := hP
  have hD : va_D A [] := hD
  refine lv_aload_n hx hb dJ1_charAt_3b067_6 rfl (lv_at hl 0 rfl) ?_
  refine lv_iload_n hx hb dJ1_charAt_3b067_7 rfl (lv_at hl 1 rfl) ?_
  refine va_tb hx hb (hX.2.2.2.1.1 5 (by decide)).2.2.2 hS (zin (rfl : x2.toInt = _) (ox_444 hy0)) rfl dJ1_charAt_3b067_8 ?_
  refine lv_topi (fun z2 e3 => ?_)
  refine lv_sipush (v := 255) hx hb dJ1_charAt_3b067_9 (by decide) ?_
  refine lv_iand hx hb dJ1_charAt_3b067_12 ?_
  refine lv_topi (fun z4 e5 => ?_)
  have f6 : 0 ≤ z4.toInt ∧ z4.toInt ≤ (255 : Int) := zand e5 (show (255 : Int32).toInt = (255 : Int) from by decide) ((show 0 ≤ (255 : Int) from by decide))
  refine lv_i2c (v := (z4.toUInt32 % 65536).toInt32) hx hb dJ1_charAt_3b067_13 rfl ?_
  refine lv_topi (fun z7 e8 => ?_)
  exact hret z7 () (Nat.le_of_ble_eq_true rfl) (Nat.le_of_ble_eq_true rfl) (pChr.of e8) ((pChr.of e8)) hP hD hS dJ1_charAt_3b067_14
abbrev rm_kJ0_charAt_5068e_5 : Room := { frames := 3, cells := 0, slots := 0, locals := 64 }
set_option maxHeartbeats 4000000 in
set_option maxRecDepth 100000 in
theorem kJ0_charAt_5068e_5 (l : Launch) (g : zL) (x1 : Int32) (hy0 : 0 ≤ x1.toInt ∧ x1.toInt ≤ 4) : zCi l g yJ0_charAt_5068e cJ0_charAt_5068e 2 (some .char) rm_kJ0_charAt_5068e_5 [.ref (g.2.2.1 5), .int x1] [] (fun (r : Int32) (u : Unit) => (pChr r)) (fun (u : Unit) => []) := by
  refine zCi.mk2 (by decide) (Nat.le_of_ble_eq_true rfl) ?_
  intro p e s m below meth c A args Q hE hret hP hD hS ls hl
  obtain ⟨hx, hb, hr, hml, hown, hG, hlocks, hnm, hX, hA⟩ := hE
  have hown : s.vm.findClass RJ0 = some m.cls := hown
  have hl : lv_has ls 2 [(0, .ref (g.2.2.1 5)), (1, .int x1)] := hl
  refine lv_aload_n hx hb dJ0_charAt_5068e_0 rfl (lv_at hl 0 rfl) ?_
  refine zfi (wr := []) (va_runV (As := []) (rest := []) ⟨hx, hb, hml, hown, hG⟩ (kJ0_isLatin1_aae02_5 l g _) ⟨callB_of 0 hG (zGood wc_J0_isLatin1_aae02) rfl rfl rfl (hG _ wini_J0) (hG _ wm_J0_492) hJ0_isLatin1_aae02 ⟨Nat.le_of_ble_eq_true rfl, Nat.le_of_ble_eq_true rfl⟩, hG _ wi_J0_isLatin1_aae02, hG _ wse_J0_J0_isLatin1_aae02⟩ (zpreV (vk_recv hX.2.2.2.1 (by decide) hS) hX hP hD hS hA [] rfl (by decide)) rfl rfl hl.1 rfl (lv_room (Nat.le_of_ble_eq_true rfl)) dJ0_charAt_5068e_1 ⟨Nat.le_of_ble_eq_true rfl, Nat.le_of_ble_eq_true rfl⟩) hP hD hS hA [] [] rfl rfl (by decide) (by decide) (fun r1 _ H locs hp hP hD hS => ?_)
  refine W.cs (cells' := 0) (slots' := 0) rfl rfl ?_
  have hq2 : r1 = (1 : Int32) := hp
  subst hq2
  have hP : va_P g.1 vwCl [] H := hP
  have hD : va_D A [] := hD
  refine lv_if_eq (tgt := 16) hx hb dJ0_charAt_5068e_4 (by decide) (fun c3 => absurd c3 (by decide)) (fun c3 => ?_)
  refine lv_aload_n hx hb dJ0_charAt_5068e_7 rfl (lv_at hl 0 rfl) ?_
  refine vk_getf (v := .ref (g.2.2.2.1 5)) hx hb (hX.2.2.2.1.1 5 (by decide)).2.2.1 hS hown (hG _ wf_J0_9) (fun _ h9 => h9) dJ0_charAt_5068e_8 ?_
  refine lv_iload_n hx hb dJ0_charAt_5068e_11 rfl (lv_at hl 1 rfl) ?_
  refine zfi (wr := []) (va_runS (As := [.ref (g.2.2.2.1 5), .int x1]) (rest := []) ⟨hx, hb, hml, hown, hG⟩ (kJ1_charAt_3b067_5 l g x1 (ox_445 hy0) _) ⟨callB_of 2 hG (zGood wc_J1_charAt_3b067) rfl rfl rfl (hG _ wini_J1) (hG _ wm_J0_495) hJ1_charAt_3b067 ⟨Nat.le_of_ble_eq_true rfl, Nat.le_of_ble_eq_true rfl⟩, hG _ ws_J1_charAt_3b067⟩ (zpreS hX hP hD hS hA [] rfl (by decide)) rfl rfl hl.1 rfl (lv_room (Nat.le_of_ble_eq_true rfl)) dJ0_charAt_5068e_12 ⟨Nat.le_of_ble_eq_true rfl, Nat.le_of_ble_eq_true rfl⟩) hP hD hS hA [] [] rfl rfl (by decide) (by decide) (fun r4 _ H locs hp hP hD hS => ?_)
  refine W.cs (cells' := 0) (slots' := 0) rfl rfl ?_
  have hq5 : pChr r4 := hp
  have hP : va_P g.1 vwCl [] H := hP
  have hD : va_D A [] := hD
  exact hret r4 () (Nat.le_of_ble_eq_true rfl) (Nat.le_of_ble_eq_true rfl) hq5 (hq5) hP hD hS dJ0_charAt_5068e_15
abbrev rm_kJ0_coder_7d493_6 : Room := { frames := 0, cells := 0, slots := 0, locals := 0 }
set_option maxHeartbeats 4000000 in
set_option maxRecDepth 100000 in
theorem kJ0_coder_7d493_6 (l : Launch) (g : zL) : zCi l g yJ0_coder_7d493 cJ0_coder_7d493 1 (some .byte) rm_kJ0_coder_7d493_6 [.ref (g.2.2.1 6)] [] (fun (r : Int32) (u : Unit) => (r = (0 : Int32))) (fun (u : Unit) => []) := by
  refine zCi.mk2 (by decide) (Nat.le_of_ble_eq_true rfl) ?_
  intro p e s m below meth c A args Q hE hret hP hD hS ls hl
  obtain ⟨hx, hb, hr, hml, hown, hG, hlocks, hnm, hX, hA⟩ := hE
  have hown : s.vm.findClass RJ0 = some m.cls := hown
  have hl : lv_has ls 1 [(0, .ref (g.2.2.1 6))] := hl
  refine va_gets hx hb hX.2.2.2.2.1 hS hown (hG _ wf_J0_38) (fun _ h9 => h9) dJ0_coder_7d493_0 ?_
  refine lv_if_eq (tgt := 13) hx hb dJ0_coder_7d493_3 (by decide) (fun c1 => absurd c1 (by decide)) (fun c1 => ?_)
  refine lv_aload_n hx hb dJ0_coder_7d493_6 rfl (lv_at hl 0 rfl) ?_
  refine vk_getf (v := .int 0) hx hb (hX.2.2.2.1.1 6 (by decide)).2.1 hS hown (hG _ wf_J0_15) (fun _ h9 => h9) dJ0_coder_7d493_7 ?_
  refine lv_goto (tgt := 14) hx hb dJ0_coder_7d493_10 (by decide) ?_
  exact hret (0 : Int32) () (Nat.le_of_ble_eq_true rfl) (Nat.le_of_ble_eq_true rfl) rfl (rfl) hP hD hS dJ0_coder_7d493_14
abbrev rm_kJ0_isLatin1_aae02_6 : Room := { frames := 0, cells := 0, slots := 0, locals := 0 }
set_option maxHeartbeats 4000000 in
set_option maxRecDepth 100000 in
theorem kJ0_isLatin1_aae02_6 (l : Launch) (g : zL) : zCi l g yJ0_isLatin1_aae02 cJ0_isLatin1_aae02 1 (some .boolean) rm_kJ0_isLatin1_aae02_6 [.ref (g.2.2.1 6)] [] (fun (r : Int32) (u : Unit) => (r = (1 : Int32))) (fun (u : Unit) => []) := by
  refine zCi.mk2 (by decide) (Nat.le_of_ble_eq_true rfl) ?_
  intro p e s m below meth c A args Q hE hret hP hD hS ls hl
  obtain ⟨hx, hb, hr, hml, hown, hG, hlocks, hnm, hX, hA⟩ := hE
  have hown : s.vm.findClass RJ0 = some m.cls := hown
  have hl : lv_has ls 1 [(0, .ref (g.2.2.1 6))] := hl
  refine va_gets hx hb hX.2.2.2.2.1 hS hown (hG _ wf_J0_38) (fun _ h9 => h9) dJ0_isLatin1_aae02_0 ?_
  refine lv_if_eq (tgt := 17) hx hb dJ0_isLatin1_aae02_3 (by decide) (fun c1 => absurd c1 (by decide)) (fun c1 => ?_)
  refine lv_aload_n hx hb dJ0_isLatin1_aae02_6 rfl (lv_at hl 0 rfl) ?_
  refine vk_getf (v := .int 0) hx hb (hX.2.2.2.1.1 6 (by decide)).2.1 hS hown (hG _ wf_J0_15) (fun _ h9 => h9) dJ0_isLatin1_aae02_7 ?_
  refine lv_if_ne (tgt := 17) hx hb dJ0_isLatin1_aae02_10 (by decide) (fun c2 => (c2 (by decide)).elim) (fun c2 => ?_)
  refine lv_iconst (v := 1) hx hb dJ0_isLatin1_aae02_13 (by decide) ?_
  refine lv_goto (tgt := 18) hx hb dJ0_isLatin1_aae02_14 (by decide) ?_
  exact hret (1 : Int32) () (Nat.le_of_ble_eq_true rfl) (Nat.le_of_ble_eq_true rfl) rfl (rfl) hP hD hS dJ0_isLatin1_aae02_18
abbrev rm_kJ0_length_8abf5_6 : Room := { frames := 1, cells := 0, slots := 0, locals := 20 }
set_option maxHeartbeats 4000000 in
set_option maxRecDepth 100000 in
theorem kJ0_length_8abf5_6 (l : Launch) (g : zL) : zCi l g yJ0_length_8abf5 cJ0_length_8abf5 1 (some .int) rm_kJ0_length_8abf5_6 [.ref (g.2.2.1 6)] [] (fun (r : Int32) (u : Unit) => (r = (6 : Int32))) (fun (u : Unit) => []) := by
  refine zCi.mk2 (by decide) (Nat.le_of_ble_eq_true rfl) ?_
  intro p e s m below meth c A args Q hE hret hP hD hS ls hl
  obtain ⟨hx, hb, hr, hml, hown, hG, hlocks, hnm, hX, hA⟩ := hE
  have hown : s.vm.findClass RJ0 = some m.cls := hown
  have hl : lv_has ls 1 [(0, .ref (g.2.2.1 6))] := hl
  refine lv_aload_n hx hb dJ0_length_8abf5_0 rfl (lv_at hl 0 rfl) ?_
  refine vk_getf (v := .ref (g.2.2.2.1 6)) hx hb (hX.2.2.2.1.1 6 (by decide)).2.2.1 hS hown (hG _ wf_J0_9) (fun _ h9 => h9) dJ0_length_8abf5_1 ?_
  refine va_tlen (v := 6) hx hb (hX.2.2.2.1.1 6 (by decide)).2.2.2 hS (by decide) dJ0_length_8abf5_4 ?_
  refine lv_aload_n hx hb dJ0_length_8abf5_5 rfl (lv_at hl 0 rfl) ?_
  refine zfi (wr := []) (va_runV (As := []) (rest := [.int 6]) ⟨hx, hb, hml, hown, hG⟩ (kJ0_coder_7d493_6 l g _) ⟨callB_of 0 hG (zGood wc_J0_coder_7d493) rfl rfl rfl (hG _ wini_J0) (hG _ wm_J0_335) hJ0_coder_7d493 ⟨Nat.le_of_ble_eq_true rfl, Nat.le_of_ble_eq_true rfl⟩, hG _ wi_J0_coder_7d493, hG _ wse_J0_J0_coder_7d493⟩ (zpreV (vk_recv hX.2.2.2.1 (by decide) hS) hX hP hD hS hA [] rfl (by decide)) rfl rfl hl.1 rfl (lv_room (Nat.le_of_ble_eq_true rfl)) dJ0_length_8abf5_6 ⟨Nat.le_of_ble_eq_true rfl, Nat.le_of_ble_eq_true rfl⟩) hP hD hS hA [] [] rfl rfl (by decide) (by decide) (fun r1 _ H locs hp hP hD hS => ?_)
  refine W.cs (cells' := 0) (slots' := 0) rfl rfl ?_
  have hq2 : r1 = (0 : Int32) := hp
  subst hq2
  have hP : va_P g.1 vwCl [] H := hP
  have hD : va_D A [] := hD
  refine lv_ishr hx hb dJ0_length_8abf5_9 ?_
  refine zt (z := 6) (by decide) ?_
  exact hret (6 : Int32) () (Nat.le_of_ble_eq_true rfl) (Nat.le_of_ble_eq_true rfl) rfl (rfl) hP hD hS dJ0_length_8abf5_10
abbrev rm_kJ1_charAt_3b067_6 : Room := { frames := 2, cells := 0, slots := 0, locals := 43 }
set_option maxHeartbeats 4000000 in
set_option maxRecDepth 100000 in
theorem kJ1_charAt_3b067_6 (l : Launch) (g : zL) (x2 : Int32) (hy0 : 0 ≤ x2.toInt ∧ x2.toInt ≤ 5) : zCi l g yJ1_charAt_3b067 cJ1_charAt_3b067 2 (some .char) rm_kJ1_charAt_3b067_6 [.ref (g.2.2.2.1 6), .int x2] [] (fun (r : Int32) (u : Unit) => (pChr r)) (fun (u : Unit) => []) := by
  refine zCi.mk2 (by decide) (Nat.le_of_ble_eq_true rfl) ?_
  intro p e s m below meth c A args Q hE hret hP hD hS ls hl
  obtain ⟨hx, hb, hr, hml, hown, hG, hlocks, hnm, hX, hA⟩ := hE
  have hown : s.vm.findClass RJ1 = some m.cls := hown
  have hl : lv_has ls 2 [(0, .ref (g.2.2.2.1 6)), (1, .int x2)] := hl
  refine lv_iload_n hx hb dJ1_charAt_3b067_0 rfl (lv_at hl 1 rfl) ?_
  refine lv_aload_n hx hb dJ1_charAt_3b067_1 rfl (lv_at hl 0 rfl) ?_
  refine va_tlen (v := 6) hx hb (hX.2.2.2.1.1 6 (by decide)).2.2.2 hS (by decide) dJ1_charAt_3b067_2 ?_
  refine zfv (wr := []) (va_runS (As := [.int x2, .int 6]) (rest := []) ⟨hx, hb, hml, hown, hG⟩ (kJ0_checkIndex_df160 l g x2 (6 : Int32) (ox_450 hy0) ((show 0 ≤ (6 : Int) ∧ (6 : Int) ≤ 200 from by decide)) (ox_451 hy0) _) ⟨callB_of 2 hG (zGood wc_J0_checkIndex_df160) rfl rfl rfl (hG _ wini_J0) (hG _ wm_J1_9) hJ0_checkIndex_df160 ⟨Nat.le_of_ble_eq_true rfl, Nat.le_of_ble_eq_true rfl⟩, hG _ ws_J0_checkIndex_df160⟩ (zpreS hX hP hD hS hA [] rfl (by decide)) rfl rfl hl.1 rfl (lv_room (Nat.le_of_ble_eq_true rfl)) dJ1_charAt_3b067_3 ⟨Nat.le_of_ble_eq_true rfl, Nat.le_of_ble_eq_true rfl⟩) hP hD hS hA [] [] rfl rfl (by decide) (by decide) (fun _ H locs hp hP hD hS => ?_)
  refine W.cs (cells' := 0) (slots' := 0) rfl rfl ?_
  have hP : va_P g.1 vwCl [] H := hP
  have hD : va_D A [] := hD
  refine lv_aload_n hx hb dJ1_charAt_3b067_6 rfl (lv_at hl 0 rfl) ?_
  refine lv_iload_n hx hb dJ1_charAt_3b067_7 rfl (lv_at hl 1 rfl) ?_
  refine va_tb hx hb (hX.2.2.2.1.1 6 (by decide)).2.2.2 hS (zin (rfl : x2.toInt = _) (ox_452 hy0)) rfl dJ1_charAt_3b067_8 ?_
  refine lv_topi (fun z2 e3 => ?_)
  refine lv_sipush (v := 255) hx hb dJ1_charAt_3b067_9 (by decide) ?_
  refine lv_iand hx hb dJ1_charAt_3b067_12 ?_
  refine lv_topi (fun z4 e5 => ?_)
  have f6 : 0 ≤ z4.toInt ∧ z4.toInt ≤ (255 : Int) := zand e5 (show (255 : Int32).toInt = (255 : Int) from by decide) ((show 0 ≤ (255 : Int) from by decide))
  refine lv_i2c (v := (z4.toUInt32 % 65536).toInt32) hx hb dJ1_charAt_3b067_13 rfl ?_
  refine lv_topi (fun z7 e8 => ?_)
  exact hret z7 () (Nat.le_of_ble_eq_true rfl) (Nat.le_of_ble_eq_true rfl) (pChr.of e8) ((pChr.of e8)) hP hD hS dJ1_charAt_3b067_14
abbrev rm_kJ0_charAt_5068e_6 : Room := { frames := 3, cells := 0, slots := 0, locals := 64 }
set_option maxHeartbeats 4000000 in
set_option maxRecDepth 100000 in
theorem kJ0_charAt_5068e_6 (l : Launch) (g : zL) (x1 : Int32) (hy0 : 0 ≤ x1.toInt ∧ x1.toInt ≤ 5) : zCi l g yJ0_charAt_5068e cJ0_charAt_5068e 2 (some .char) rm_kJ0_charAt_5068e_6 [.ref (g.2.2.1 6), .int x1] [] (fun (r : Int32) (u : Unit) => (pChr r)) (fun (u : Unit) => []) := by
  refine zCi.mk2 (by decide) (Nat.le_of_ble_eq_true rfl) ?_
  intro p e s m below meth c A args Q hE hret hP hD hS ls hl
  obtain ⟨hx, hb, hr, hml, hown, hG, hlocks, hnm, hX, hA⟩ := hE
  have hown : s.vm.findClass RJ0 = some m.cls := hown
  have hl : lv_has ls 2 [(0, .ref (g.2.2.1 6)), (1, .int x1)] := hl
  refine lv_aload_n hx hb dJ0_charAt_5068e_0 rfl (lv_at hl 0 rfl) ?_
  refine zfi (wr := []) (va_runV (As := []) (rest := []) ⟨hx, hb, hml, hown, hG⟩ (kJ0_isLatin1_aae02_6 l g _) ⟨callB_of 0 hG (zGood wc_J0_isLatin1_aae02) rfl rfl rfl (hG _ wini_J0) (hG _ wm_J0_492) hJ0_isLatin1_aae02 ⟨Nat.le_of_ble_eq_true rfl, Nat.le_of_ble_eq_true rfl⟩, hG _ wi_J0_isLatin1_aae02, hG _ wse_J0_J0_isLatin1_aae02⟩ (zpreV (vk_recv hX.2.2.2.1 (by decide) hS) hX hP hD hS hA [] rfl (by decide)) rfl rfl hl.1 rfl (lv_room (Nat.le_of_ble_eq_true rfl)) dJ0_charAt_5068e_1 ⟨Nat.le_of_ble_eq_true rfl, Nat.le_of_ble_eq_true rfl⟩) hP hD hS hA [] [] rfl rfl (by decide) (by decide) (fun r1 _ H locs hp hP hD hS => ?_)
  refine W.cs (cells' := 0) (slots' := 0) rfl rfl ?_
  have hq2 : r1 = (1 : Int32) := hp
  subst hq2
  have hP : va_P g.1 vwCl [] H := hP
  have hD : va_D A [] := hD
  refine lv_if_eq (tgt := 16) hx hb dJ0_charAt_5068e_4 (by decide) (fun c3 => absurd c3 (by decide)) (fun c3 => ?_)
  refine lv_aload_n hx hb dJ0_charAt_5068e_7 rfl (lv_at hl 0 rfl) ?_
  refine vk_getf (v := .ref (g.2.2.2.1 6)) hx hb (hX.2.2.2.1.1 6 (by decide)).2.2.1 hS hown (hG _ wf_J0_9) (fun _ h9 => h9) dJ0_charAt_5068e_8 ?_
  refine lv_iload_n hx hb dJ0_charAt_5068e_11 rfl (lv_at hl 1 rfl) ?_
  refine zfi (wr := []) (va_runS (As := [.ref (g.2.2.2.1 6), .int x1]) (rest := []) ⟨hx, hb, hml, hown, hG⟩ (kJ1_charAt_3b067_6 l g x1 (ox_48 hy0) _) ⟨callB_of 2 hG (zGood wc_J1_charAt_3b067) rfl rfl rfl (hG _ wini_J1) (hG _ wm_J0_495) hJ1_charAt_3b067 ⟨Nat.le_of_ble_eq_true rfl, Nat.le_of_ble_eq_true rfl⟩, hG _ ws_J1_charAt_3b067⟩ (zpreS hX hP hD hS hA [] rfl (by decide)) rfl rfl hl.1 rfl (lv_room (Nat.le_of_ble_eq_true rfl)) dJ0_charAt_5068e_12 ⟨Nat.le_of_ble_eq_true rfl, Nat.le_of_ble_eq_true rfl⟩) hP hD hS hA [] [] rfl rfl (by decide) (by decide) (fun r4 _ H locs hp hP hD hS => ?_)
  refine W.cs (cells' := 0) (slots' := 0) rfl rfl ?_
  have hq5 : pChr r4 := hp
  have hP : va_P g.1 vwCl [] H := hP
  have hD : va_D A [] := hD
  exact hret r4 () (Nat.le_of_ble_eq_true rfl) (Nat.le_of_ble_eq_true rfl) hq5 (hq5) hP hD hS dJ0_charAt_5068e_15
abbrev rm_kJ0_coder_7d493_7 : Room := { frames := 0, cells := 0, slots := 0, locals := 0 }
set_option maxHeartbeats 4000000 in
set_option maxRecDepth 100000 in
theorem kJ0_coder_7d493_7 (l : Launch) (g : zL) : zCi l g yJ0_coder_7d493 cJ0_coder_7d493 1 (some .byte) rm_kJ0_coder_7d493_7 [.ref (g.2.2.1 7)] [] (fun (r : Int32) (u : Unit) => (r = (0 : Int32))) (fun (u : Unit) => []) := by
  refine zCi.mk2 (by decide) (Nat.le_of_ble_eq_true rfl) ?_
  intro p e s m below meth c A args Q hE hret hP hD hS ls hl
  obtain ⟨hx, hb, hr, hml, hown, hG, hlocks, hnm, hX, hA⟩ := hE
  have hown : s.vm.findClass RJ0 = some m.cls := hown
  have hl : lv_has ls 1 [(0, .ref (g.2.2.1 7))] := hl
  refine va_gets hx hb hX.2.2.2.2.1 hS hown (hG _ wf_J0_38) (fun _ h9 => h9) dJ0_coder_7d493_0 ?_
  refine lv_if_eq (tgt := 13) hx hb dJ0_coder_7d493_3 (by decide) (fun c1 => absurd c1 (by decide)) (fun c1 => ?_)
  refine lv_aload_n hx hb dJ0_coder_7d493_6 rfl (lv_at hl 0 rfl) ?_
  refine vk_getf (v := .int 0) hx hb (hX.2.2.2.1.1 7 (by decide)).2.1 hS hown (hG _ wf_J0_15) (fun _ h9 => h9) dJ0_coder_7d493_7 ?_
  refine lv_goto (tgt := 14) hx hb dJ0_coder_7d493_10 (by decide) ?_
  exact hret (0 : Int32) () (Nat.le_of_ble_eq_true rfl) (Nat.le_of_ble_eq_true rfl) rfl (rfl) hP hD hS dJ0_coder_7d493_14
abbrev rm_kJ0_isLatin1_aae02_7 : Room := { frames := 0, cells := 0, slots := 0, locals := 0 }
set_option maxHeartbeats 4000000 in
set_option maxRecDepth 100000 in
theorem kJ0_isLatin1_aae02_7 (l : Launch) (g : zL) : zCi l g yJ0_isLatin1_aae02 cJ0_isLatin1_aae02 1 (some .boolean) rm_kJ0_isLatin1_aae02_7 [.ref (g.2.2.1 7)] [] (fun (r : Int32) (u : Unit) => (r = (1 : Int32))) (fun (u : Unit) => []) := by
  refine zCi.mk2 (by decide) (Nat.le_of_ble_eq_true rfl) ?_
  intro p e s m below meth c A args Q hE hret hP hD hS ls hl
  obtain ⟨hx, hb, hr, hml, hown, hG, hlocks, hnm, hX, hA⟩ := hE
  have hown : s.vm.findClass RJ0 = some m.cls := hown
  have hl : lv_has ls 1 [(0, .ref (g.2.2.1 7))] := hl
  refine va_gets hx hb hX.2.2.2.2.1 hS hown (hG _ wf_J0_38) (fun _ h9 => h9) dJ0_isLatin1_aae02_0 ?_
  refine lv_if_eq (tgt := 17) hx hb dJ0_isLatin1_aae02_3 (by decide) (fun c1 => absurd c1 (by decide)) (fun c1 => ?_)
  refine lv_aload_n hx hb dJ0_isLatin1_aae02_6 rfl (lv_at hl 0 rfl) ?_
  refine vk_getf (v := .int 0) hx hb (hX.2.2.2.1.1 7 (by decide)).2.1 hS hown (hG _ wf_J0_15) (fun _ h9 => h9) dJ0_isLatin1_aae02_7 ?_
  refine lv_if_ne (tgt := 17) hx hb dJ0_isLatin1_aae02_10 (by decide) (fun c2 => (c2 (by decide)).elim) (fun c2 => ?_)
  refine lv_iconst (v := 1) hx hb dJ0_isLatin1_aae02_13 (by decide) ?_
  refine lv_goto (tgt := 18) hx hb dJ0_isLatin1_aae02_14 (by decide) ?_
  exact hret (1 : Int32) () (Nat.le_of_ble_eq_true rfl) (Nat.le_of_ble_eq_true rfl) rfl (rfl) hP hD hS dJ0_isLatin1_aae02_18
abbrev rm_kJ0_length_8abf5_7 : Room := { frames := 1, cells := 0, slots := 0, locals := 20 }
set_option maxHeartbeats 4000000 in
set_option maxRecDepth 100000 in
theorem kJ0_length_8abf5_7 (l : Launch) (g : zL) : zCi l g yJ0_length_8abf5 cJ0_length_8abf5 1 (some .int) rm_kJ0_length_8abf5_7 [.ref (g.2.2.1 7)] [] (fun (r : Int32) (u : Unit) => (r = (96 : Int32))) (fun (u : Unit) => []) := by
  refine zCi.mk2 (by decide) (Nat.le_of_ble_eq_true rfl) ?_
  intro p e s m below meth c A args Q hE hret hP hD hS ls hl
  obtain ⟨hx, hb, hr, hml, hown, hG, hlocks, hnm, hX, hA⟩ := hE
  have hown : s.vm.findClass RJ0 = some m.cls := hown
  have hl : lv_has ls 1 [(0, .ref (g.2.2.1 7))] := hl
  refine lv_aload_n hx hb dJ0_length_8abf5_0 rfl (lv_at hl 0 rfl) ?_
  refine vk_getf (v := .ref (g.2.2.2.1 7)) hx hb (hX.2.2.2.1.1 7 (by decide)).2.2.1 hS hown (hG _ wf_J0_9) (fun _ h9 => h9) dJ0_length_8abf5_1 ?_
  refine va_tlen (v := 96) hx hb (hX.2.2.2.1.1 7 (by decide)).2.2.2 hS (by decide) dJ0_length_8abf5_4 ?_
  refine lv_aload_n hx hb dJ0_length_8abf5_5 rfl (lv_at hl 0 rfl) ?_
  refine zfi (wr := []) (va_runV (As := []) (rest := [.int 96]) ⟨hx, hb, hml, hown, hG⟩ (kJ0_coder_7d493_7 l g _) ⟨callB_of 0 hG (zGood wc_J0_coder_7d493) rfl rfl rfl (hG _ wini_J0) (hG _ wm_J0_335) hJ0_coder_7d493 ⟨Nat.le_of_ble_eq_true rfl, Nat.le_of_ble_eq_true rfl⟩, hG _ wi_J0_coder_7d493, hG _ wse_J0_J0_coder_7d493⟩ (zpreV (vk_recv hX.2.2.2.1 (by decide) hS) hX hP hD hS hA [] rfl (by decide)) rfl rfl hl.1 rfl (lv_room (Nat.le_of_ble_eq_true rfl)) dJ0_length_8abf5_6 ⟨Nat.le_of_ble_eq_true rfl, Nat.le_of_ble_eq_true rfl⟩) hP hD hS hA [] [] rfl rfl (by decide) (by decide) (fun r1 _ H locs hp hP hD hS => ?_)
  refine W.cs (cells' := 0) (slots' := 0) rfl rfl ?_
  have hq2 : r1 = (0 : Int32) := hp
  subst hq2
  have hP : va_P g.1 vwCl [] H := hP
  have hD : va_D A [] := hD
  refine lv_ishr hx hb dJ0_length_8abf5_9 ?_
  refine zt (z := 96) (by decide) ?_
  exact hret (96 : Int32) () (Nat.le_of_ble_eq_true rfl) (Nat.le_of_ble_eq_true rfl) rfl (rfl) hP hD hS dJ0_length_8abf5_10
abbrev rm_kJ1_charAt_3b067_7 : Room := { frames := 2, cells := 0, slots := 0, locals := 43 }
set_option maxHeartbeats 4000000 in
set_option maxRecDepth 100000 in
theorem kJ1_charAt_3b067_7 (l : Launch) (g : zL) (x2 : Int32) (hy0 : 0 ≤ x2.toInt ∧ x2.toInt ≤ 95) : zCi l g yJ1_charAt_3b067 cJ1_charAt_3b067 2 (some .char) rm_kJ1_charAt_3b067_7 [.ref (g.2.2.2.1 7), .int x2] [] (fun (r : Int32) (u : Unit) => (pChr r)) (fun (u : Unit) => []) := by
  refine zCi.mk2 (by decide) (Nat.le_of_ble_eq_true rfl) ?_
  intro p e s m below meth c A args Q hE hret hP hD hS ls hl
  obtain ⟨hx, hb, hr, hml, hown, hG, hlocks, hnm, hX, hA⟩ := hE
  have hown : s.vm.findClass RJ1 = some m.cls := hown
  have hl : lv_has ls 2 [(0, .ref (g.2.2.2.1 7)), (1, .int x2)] := hl
  refine lv_iload_n hx hb dJ1_charAt_3b067_0 rfl (lv_at hl 1 rfl) ?_
  refine lv_aload_n hx hb dJ1_charAt_3b067_1 rfl (lv_at hl 0 rfl) ?_
  refine va_tlen (v := 96) hx hb (hX.2.2.2.1.1 7 (by decide)).2.2.2 hS (by decide) dJ1_charAt_3b067_2 ?_
  refine zfv (wr := []) (va_runS (As := [.int x2, .int 96]) (rest := []) ⟨hx, hb, hml, hown, hG⟩ (kJ0_checkIndex_df160 l g x2 (96 : Int32) (ox_453 hy0) ((show 0 ≤ (96 : Int) ∧ (96 : Int) ≤ 200 from by decide)) (ox_454 hy0) _) ⟨callB_of 2 hG (zGood wc_J0_checkIndex_df160) rfl rfl rfl (hG _ wini_J0) (hG _ wm_J1_9) hJ0_checkIndex_df160 ⟨Nat.le_of_ble_eq_true rfl, Nat.le_of_ble_eq_true rfl⟩, hG _ ws_J0_checkIndex_df160⟩ (zpreS hX hP hD hS hA [] rfl (by decide)) rfl rfl hl.1 rfl (lv_room (Nat.le_of_ble_eq_true rfl)) dJ1_charAt_3b067_3 ⟨Nat.le_of_ble_eq_true rfl, Nat.le_of_ble_eq_true rfl⟩) hP hD hS hA [] [] rfl rfl (by decide) (by decide) (fun _ H locs hp hP hD hS => ?_)
  refine W.cs (cells' := 0) (slots' := 0) rfl rfl ?_
  have hP : va_P g.1 vwCl [] H := hP
  have hD : va_D A [] := hD
  refine lv_aload_n hx hb dJ1_charAt_3b067_6 rfl (lv_at hl 0 rfl) ?_
  refine lv_iload_n hx hb dJ1_charAt_3b067_7 rfl (lv_at hl 1 rfl) ?_
  refine va_tb hx hb (hX.2.2.2.1.1 7 (by decide)).2.2.2 hS (zin (rfl : x2.toInt = _) (ox_455 hy0)) rfl dJ1_charAt_3b067_8 ?_
  refine lv_topi (fun z2 e3 => ?_)
  refine lv_sipush (v := 255) hx hb dJ1_charAt_3b067_9 (by decide) ?_
  refine lv_iand hx hb dJ1_charAt_3b067_12 ?_
  refine lv_topi (fun z4 e5 => ?_)
  have f6 : 0 ≤ z4.toInt ∧ z4.toInt ≤ (255 : Int) := zand e5 (show (255 : Int32).toInt = (255 : Int) from by decide) ((show 0 ≤ (255 : Int) from by decide))
  refine lv_i2c (v := (z4.toUInt32 % 65536).toInt32) hx hb dJ1_charAt_3b067_13 rfl ?_
  refine lv_topi (fun z7 e8 => ?_)
  exact hret z7 () (Nat.le_of_ble_eq_true rfl) (Nat.le_of_ble_eq_true rfl) (pChr.of e8) ((pChr.of e8)) hP hD hS dJ1_charAt_3b067_14
abbrev rm_kJ0_charAt_5068e_7 : Room := { frames := 3, cells := 0, slots := 0, locals := 64 }
set_option maxHeartbeats 4000000 in
set_option maxRecDepth 100000 in
theorem kJ0_charAt_5068e_7 (l : Launch) (g : zL) (x1 : Int32) (hy0 : 0 ≤ x1.toInt ∧ x1.toInt ≤ 95) : zCi l g yJ0_charAt_5068e cJ0_charAt_5068e 2 (some .char) rm_kJ0_charAt_5068e_7 [.ref (g.2.2.1 7), .int x1] [] (fun (r : Int32) (u : Unit) => (pChr r)) (fun (u : Unit) => []) := by
  refine zCi.mk2 (by decide) (Nat.le_of_ble_eq_true rfl) ?_
  intro p e s m below meth c A args Q hE hret hP hD hS ls hl
  obtain ⟨hx, hb, hr, hml, hown, hG, hlocks, hnm, hX, hA⟩ := hE
  have hown : s.vm.findClass RJ0 = some m.cls := hown
  have hl : lv_has ls 2 [(0, .ref (g.2.2.1 7)), (1, .int x1)] := hl
  refine lv_aload_n hx hb dJ0_charAt_5068e_0 rfl (lv_at hl 0 rfl) ?_
  refine zfi (wr := []) (va_runV (As := []) (rest := []) ⟨hx, hb, hml, hown, hG⟩ (kJ0_isLatin1_aae02_7 l g _) ⟨callB_of 0 hG (zGood wc_J0_isLatin1_aae02) rfl rfl rfl (hG _ wini_J0) (hG _ wm_J0_492) hJ0_isLatin1_aae02 ⟨Nat.le_of_ble_eq_true rfl, Nat.le_of_ble_eq_true rfl⟩, hG _ wi_J0_isLatin1_aae02, hG _ wse_J0_J0_isLatin1_aae02⟩ (zpreV (vk_recv hX.2.2.2.1 (by decide) hS) hX hP hD hS hA [] rfl (by decide)) rfl rfl hl.1 rfl (lv_room (Nat.le_of_ble_eq_true rfl)) dJ0_charAt_5068e_1 ⟨Nat.le_of_ble_eq_true rfl, Nat.le_of_ble_eq_true rfl⟩) hP hD hS hA [] [] rfl rfl (by decide) (by decide) (fun r1 _ H locs hp hP hD hS => ?_)
  refine W.cs (cells' := 0) (slots' := 0) rfl rfl ?_
  have hq2 : r1 = (1 : Int32) := hp
  subst hq2
  have hP : va_P g.1 vwCl [] H := hP
  have hD : va_D A [] := hD
  refine lv_if_eq (tgt := 16) hx hb dJ0_charAt_5068e_4 (by decide) (fun c3 => absurd c3 (by decide)) (fun c3 => ?_)
  refine lv_aload_n hx hb dJ0_charAt_5068e_7 rfl (lv_at hl 0 rfl) ?_
  refine vk_getf (v := .ref (g.2.2.2.1 7)) hx hb (hX.2.2.2.1.1 7 (by decide)).2.2.1 hS hown (hG _ wf_J0_9) (fun _ h9 => h9) dJ0_charAt_5068e_8 ?_
  refine lv_iload_n hx hb dJ0_charAt_5068e_11 rfl (lv_at hl 1 rfl) ?_
  refine zfi (wr := []) (va_runS (As := [.ref (g.2.2.2.1 7), .int x1]) (rest := []) ⟨hx, hb, hml, hown, hG⟩ (kJ1_charAt_3b067_7 l g x1 (ox_456 hy0) _) ⟨callB_of 2 hG (zGood wc_J1_charAt_3b067) rfl rfl rfl (hG _ wini_J1) (hG _ wm_J0_495) hJ1_charAt_3b067 ⟨Nat.le_of_ble_eq_true rfl, Nat.le_of_ble_eq_true rfl⟩, hG _ ws_J1_charAt_3b067⟩ (zpreS hX hP hD hS hA [] rfl (by decide)) rfl rfl hl.1 rfl (lv_room (Nat.le_of_ble_eq_true rfl)) dJ0_charAt_5068e_12 ⟨Nat.le_of_ble_eq_true rfl, Nat.le_of_ble_eq_true rfl⟩) hP hD hS hA [] [] rfl rfl (by decide) (by decide) (fun r4 _ H locs hp hP hD hS => ?_)
  refine W.cs (cells' := 0) (slots' := 0) rfl rfl ?_
  have hq5 : pChr r4 := hp
  have hP : va_P g.1 vwCl [] H := hP
  have hD : va_D A [] := hD
  exact hret r4 () (Nat.le_of_ble_eq_true rfl) (Nat.le_of_ble_eq_true rfl) hq5 (hq5) hP hD hS dJ0_charAt_5068e_15
abbrev rm_kJ0_coder_7d493_8 : Room := { frames := 0, cells := 0, slots := 0, locals := 0 }
set_option maxHeartbeats 4000000 in
set_option maxRecDepth 100000 in
theorem kJ0_coder_7d493_8 (l : Launch) (g : zL) : zCi l g yJ0_coder_7d493 cJ0_coder_7d493 1 (some .byte) rm_kJ0_coder_7d493_8 [.ref (g.2.2.1 8)] [] (fun (r : Int32) (u : Unit) => (r = (0 : Int32))) (fun (u : Unit) => []) := by
  refine zCi.mk2 (by decide) (Nat.le_of_ble_eq_true rfl) ?_
  intro p e s m below meth c A args Q hE hret hP hD hS ls hl
  obtain ⟨hx, hb, hr, hml, hown, hG, hlocks, hnm, hX, hA⟩ := hE
  have hown : s.vm.findClass RJ0 = some m.cls := hown
  have hl : lv_has ls 1 [(0, .ref (g.2.2.1 8))] := hl
  refine va_gets hx hb hX.2.2.2.2.1 hS hown (hG _ wf_J0_38) (fun _ h9 => h9) dJ0_coder_7d493_0 ?_
  refine lv_if_eq (tgt := 13) hx hb dJ0_coder_7d493_3 (by decide) (fun c1 => absurd c1 (by decide)) (fun c1 => ?_)
  refine lv_aload_n hx hb dJ0_coder_7d493_6 rfl (lv_at hl 0 rfl) ?_
  refine vk_getf (v := .int 0) hx hb (hX.2.2.2.1.1 8 (by decide)).2.1 hS hown (hG _ wf_J0_15) (fun _ h9 => h9) dJ0_coder_7d493_7 ?_
  refine lv_goto (tgt := 14) hx hb dJ0_coder_7d493_10 (by decide) ?_
  exact hret (0 : Int32) () (Nat.le_of_ble_eq_true rfl) (Nat.le_of_ble_eq_true rfl) rfl (rfl) hP hD hS dJ0_coder_7d493_14
abbrev rm_kJ0_isLatin1_aae02_8 : Room := { frames := 0, cells := 0, slots := 0, locals := 0 }
set_option maxHeartbeats 4000000 in
set_option maxRecDepth 100000 in
theorem kJ0_isLatin1_aae02_8 (l : Launch) (g : zL) : zCi l g yJ0_isLatin1_aae02 cJ0_isLatin1_aae02 1 (some .boolean) rm_kJ0_isLatin1_aae02_8 [.ref (g.2.2.1 8)] [] (fun (r : Int32) (u : Unit) => (r = (1 : Int32))) (fun (u : Unit) => []) := by
  refine zCi.mk2 (by decide) (Nat.le_of_ble_eq_true rfl) ?_
  intro p e s m below meth c A args Q hE hret hP hD hS ls hl
  obtain ⟨hx, hb, hr, hml, hown, hG, hlocks, hnm, hX, hA⟩ := hE
  have hown : s.vm.findClass RJ0 = some m.cls := hown
  have hl : lv_has ls 1 [(0, .ref (g.2.2.1 8))] := hl
  refine va_gets hx hb hX.2.2.2.2.1 hS hown (hG _ wf_J0_38) (fun _ h9 => h9) dJ0_isLatin1_aae02_0 ?_
  refine lv_if_eq (tgt := 17) hx hb dJ0_isLatin1_aae02_3 (by decide) (fun c1 => absurd c1 (by decide)) (fun c1 => ?_)
  refine lv_aload_n hx hb dJ0_isLatin1_aae02_6 rfl (lv_at hl 0 rfl) ?_
  refine vk_getf (v := .int 0) hx hb (hX.2.2.2.1.1 8 (by decide)).2.1 hS hown (hG _ wf_J0_15) (fun _ h9 => h9) dJ0_isLatin1_aae02_7 ?_
  refine lv_if_ne (tgt := 17) hx hb dJ0_isLatin1_aae02_10 (by decide) (fun c2 => (c2 (by decide)).elim) (fun c2 => ?_)
  refine lv_iconst (v := 1) hx hb dJ0_isLatin1_aae02_13 (by decide) ?_
  refine lv_goto (tgt := 18) hx hb dJ0_isLatin1_aae02_14 (by decide) ?_
  exact hret (1 : Int32) () (Nat.le_of_ble_eq_true rfl) (Nat.le_of_ble_eq_true rfl) rfl (rfl) hP hD hS dJ0_isLatin1_aae02_18
abbrev rm_kJ0_length_8abf5_8 : Room := { frames := 1, cells := 0, slots := 0, locals := 20 }
set_option maxHeartbeats 4000000 in
set_option maxRecDepth 100000 in
theorem kJ0_length_8abf5_8 (l : Launch) (g : zL) : zCi l g yJ0_length_8abf5 cJ0_length_8abf5 1 (some .int) rm_kJ0_length_8abf5_8 [.ref (g.2.2.1 8)] [] (fun (r : Int32) (u : Unit) => (r = (2 : Int32))) (fun (u : Unit) => []) := by
  refine zCi.mk2 (by decide) (Nat.le_of_ble_eq_true rfl) ?_
  intro p e s m below meth c A args Q hE hret hP hD hS ls hl
  obtain ⟨hx, hb, hr, hml, hown, hG, hlocks, hnm, hX, hA⟩ := hE
  have hown : s.vm.findClass RJ0 = some m.cls := hown
  have hl : lv_has ls 1 [(0, .ref (g.2.2.1 8))] := hl
  refine lv_aload_n hx hb dJ0_length_8abf5_0 rfl (lv_at hl 0 rfl) ?_
  refine vk_getf (v := .ref (g.2.2.2.1 8)) hx hb (hX.2.2.2.1.1 8 (by decide)).2.2.1 hS hown (hG _ wf_J0_9) (fun _ h9 => h9) dJ0_length_8abf5_1 ?_
  refine va_tlen (v := 2) hx hb (hX.2.2.2.1.1 8 (by decide)).2.2.2 hS (by decide) dJ0_length_8abf5_4 ?_
  refine lv_aload_n hx hb dJ0_length_8abf5_5 rfl (lv_at hl 0 rfl) ?_
  refine zfi (wr := []) (va_runV (As := []) (rest := [.int 2]) ⟨hx, hb, hml, hown, hG⟩ (kJ0_coder_7d493_8 l g _) ⟨callB_of 0 hG (zGood wc_J0_coder_7d493) rfl rfl rfl (hG _ wini_J0) (hG _ wm_J0_335) hJ0_coder_7d493 ⟨Nat.le_of_ble_eq_true rfl, Nat.le_of_ble_eq_true rfl⟩, hG _ wi_J0_coder_7d493, hG _ wse_J0_J0_coder_7d493⟩ (zpreV (vk_recv hX.2.2.2.1 (by decide) hS) hX hP hD hS hA [] rfl (by decide)) rfl rfl hl.1 rfl (lv_room (Nat.le_of_ble_eq_true rfl)) dJ0_length_8abf5_6 ⟨Nat.le_of_ble_eq_true rfl, Nat.le_of_ble_eq_true rfl⟩) hP hD hS hA [] [] rfl rfl (by decide) (by decide) (fun r1 _ H locs hp hP hD hS => ?_)
  refine W.cs (cells' := 0) (slots' := 0) rfl rfl ?_
  have hq2 : r1 = (0 : Int32) := hp
  subst hq2
  have hP : va_P g.1 vwCl [] H := hP
  have hD : va_D A [] := hD
  refine lv_ishr hx hb dJ0_length_8abf5_9 ?_
  refine zt (z := 2) (by decide) ?_
  exact hret (2 : Int32) () (Nat.le_of_ble_eq_true rfl) (Nat.le_of_ble_eq_true rfl) rfl (rfl) hP hD hS dJ0_length_8abf5_10
abbrev rm_kJ1_charAt_3b067_8 : Room := { frames := 2, cells := 0, slots := 0, locals := 43 }
set_option maxHeartbeats 4000000 in
set_option maxRecDepth 100000 in
theorem kJ1_charAt_3b067_8 (l : Launch) (g : zL) (x2 : Int32) (hy0 : 0 ≤ x2.toInt ∧ x2.toInt ≤ 1) : zCi l g yJ1_charAt_3b067 cJ1_charAt_3b067 2 (some .char) rm_kJ1_charAt_3b067_8 [.ref (g.2.2.2.1 8), .int x2] [] (fun (r : Int32) (u : Unit) => (pChr r)) (fun (u : Unit) => []) := by
  refine zCi.mk2 (by decide) (Nat.le_of_ble_eq_true rfl) ?_
  intro p e s m below meth c A args Q hE hret hP hD hS ls hl
  obtain ⟨hx, hb, hr, hml, hown, hG, hlocks, hnm, hX, hA⟩ := hE
  have hown : s.vm.findClass RJ1 = some m.cls := hown
  have hl : lv_has ls 2 [(0, .ref (g.2.2.2.1 8)), (1, .int x2)] := hl
  refine lv_iload_n hx hb dJ1_charAt_3b067_0 rfl (lv_at hl 1 rfl) ?_
  refine lv_aload_n hx hb dJ1_charAt_3b067_1 rfl (lv_at hl 0 rfl) ?_
  refine va_tlen (v := 2) hx hb (hX.2.2.2.1.1 8 (by decide)).2.2.2 hS (by decide) dJ1_charAt_3b067_2 ?_
  refine zfv (wr := []) (va_runS (As := [.int x2, .int 2]) (rest := []) ⟨hx, hb, hml, hown, hG⟩ (kJ0_checkIndex_df160 l g x2 (2 : Int32) (ox_457 hy0) ((show 0 ≤ (2 : Int) ∧ (2 : Int) ≤ 200 from by decide)) (ox_458 hy0) _) ⟨callB_of 2 hG (zGood wc_J0_checkIndex_df160) rfl rfl rfl (hG _ wini_J0) (hG _ wm_J1_9) hJ0_checkIndex_df160 ⟨Nat.le_of_ble_eq_true rfl, Nat.le_of_ble_eq_true rfl⟩, hG _ ws_J0_checkIndex_df160⟩ (zpreS hX hP hD hS hA [] rfl (by decide)) rfl rfl hl.1 rfl (lv_room (Nat.le_of_ble_eq_true rfl)) dJ1_charAt_3b067_3 ⟨Nat.le_of_ble_eq_true rfl, Nat.le_of_ble_eq_true rfl⟩) hP hD hS hA [] [] rfl rfl (by decide) (by decide) (fun _ H locs hp hP hD hS => ?_)
  refine W.cs (cells' := 0) (slots' := 0) rfl rfl ?_
  have hP : va_P g.1 vwCl [] H := hP
  have hD : va_D A [] := hD
  refine lv_aload_n hx hb dJ1_charAt_3b067_6 rfl (lv_at hl 0 rfl) ?_
  refine lv_iload_n hx hb dJ1_charAt_3b067_7 rfl (lv_at hl 1 rfl) ?_
  refine va_tb hx hb (hX.2.2.2.1.1 8 (by decide)).2.2.2 hS (zin (rfl : x2.toInt = _) (ox_459 hy0)) rfl dJ1_charAt_3b067_8 ?_
  refine lv_topi (fun z2 e3 => ?_)
  refine lv_sipush (v := 255) hx hb dJ1_charAt_3b067_9 (by decide) ?_
  refine lv_iand hx hb dJ1_charAt_3b067_12 ?_
  refine lv_topi (fun z4 e5 => ?_)
  have f6 : 0 ≤ z4.toInt ∧ z4.toInt ≤ (255 : Int) := zand e5 (show (255 : Int32).toInt = (255 : Int) from by decide) ((show 0 ≤ (255 : Int) from by decide))
  refine lv_i2c (v := (z4.toUInt32 % 65536).toInt32) hx hb dJ1_charAt_3b067_13 rfl ?_
  refine lv_topi (fun z7 e8 => ?_)
  exact hret z7 () (Nat.le_of_ble_eq_true rfl) (Nat.le_of_ble_eq_true rfl) (pChr.of e8) ((pChr.of e8)) hP hD hS dJ1_charAt_3b067_14
abbrev rm_kJ0_charAt_5068e_8 : Room := { frames := 3, cells := 0, slots := 0, locals := 64 }
set_option maxHeartbeats 4000000 in
set_option maxRecDepth 100000 in
theorem kJ0_charAt_5068e_8 (l : Launch) (g : zL) (x1 : Int32) (hy0 : 0 ≤ x1.toInt ∧ x1.toInt ≤ 1) : zCi l g yJ0_charAt_5068e cJ0_charAt_5068e 2 (some .char) rm_kJ0_charAt_5068e_8 [.ref (g.2.2.1 8), .int x1] [] (fun (r : Int32) (u : Unit) => (pChr r)) (fun (u : Unit) => []) := by
  refine zCi.mk2 (by decide) (Nat.le_of_ble_eq_true rfl) ?_
  intro p e s m below meth c A args Q hE hret hP hD hS ls hl
  obtain ⟨hx, hb, hr, hml, hown, hG, hlocks, hnm, hX, hA⟩ := hE
  have hown : s.vm.findClass RJ0 = some m.cls := hown
  have hl : lv_has ls 2 [(0, .ref (g.2.2.1 8)), (1, .int x1)] := hl
  refine lv_aload_n hx hb dJ0_charAt_5068e_0 rfl (lv_at hl 0 rfl) ?_
  refine zfi (wr := []) (va_runV (As := []) (rest := []) ⟨hx, hb, hml, hown, hG⟩ (kJ0_isLatin1_aae02_8 l g _) ⟨callB_of 0 hG (zGood wc_J0_isLatin1_aae02) rfl rfl rfl (hG _ wini_J0) (hG _ wm_J0_492) hJ0_isLatin1_aae02 ⟨Nat.le_of_ble_eq_true rfl, Nat.le_of_ble_eq_true rfl⟩, hG _ wi_J0_isLatin1_aae02, hG _ wse_J0_J0_isLatin1_aae02⟩ (zpreV (vk_recv hX.2.2.2.1 (by decide) hS) hX hP hD hS hA [] rfl (by decide)) rfl rfl hl.1 rfl (lv_room (Nat.le_of_ble_eq_true rfl)) dJ0_charAt_5068e_1 ⟨Nat.le_of_ble_eq_true rfl, Nat.le_of_ble_eq_true rfl⟩) hP hD hS hA [] [] rfl rfl (by decide) (by decide) (fun r1 _ H locs hp hP hD hS => ?_)
  refine W.cs (cells' := 0) (slots' := 0) rfl rfl ?_
  have hq2 : r1 = (1 : Int32) := hp
  subst hq2
  have hP : va_P g.1 vwCl [] H := hP
  have hD : va_D A [] := hD
  refine lv_if_eq (tgt := 16) hx hb dJ0_charAt_5068e_4 (by decide) (fun c3 => absurd c3 (by decide)) (fun c3 => ?_)
  refine lv_aload_n hx hb dJ0_charAt_5068e_7 rfl (lv_at hl 0 rfl) ?_
  refine vk_getf (v := .ref (g.2.2.2.1 8)) hx hb (hX.2.2.2.1.1 8 (by decide)).2.2.1 hS hown (hG _ wf_J0_9) (fun _ h9 => h9) dJ0_charAt_5068e_8 ?_
  refine lv_iload_n hx hb dJ0_charAt_5068e_11 rfl (lv_at hl 1 rfl) ?_
  refine zfi (wr := []) (va_runS (As := [.ref (g.2.2.2.1 8), .int x1]) (rest := []) ⟨hx, hb, hml, hown, hG⟩ (kJ1_charAt_3b067_8 l g x1 (ox_33 hy0) _) ⟨callB_of 2 hG (zGood wc_J1_charAt_3b067) rfl rfl rfl (hG _ wini_J1) (hG _ wm_J0_495) hJ1_charAt_3b067 ⟨Nat.le_of_ble_eq_true rfl, Nat.le_of_ble_eq_true rfl⟩, hG _ ws_J1_charAt_3b067⟩ (zpreS hX hP hD hS hA [] rfl (by decide)) rfl rfl hl.1 rfl (lv_room (Nat.le_of_ble_eq_true rfl)) dJ0_charAt_5068e_12 ⟨Nat.le_of_ble_eq_true rfl, Nat.le_of_ble_eq_true rfl⟩) hP hD hS hA [] [] rfl rfl (by decide) (by decide) (fun r4 _ H locs hp hP hD hS => ?_)
  refine W.cs (cells' := 0) (slots' := 0) rfl rfl ?_
  have hq5 : pChr r4 := hp
  have hP : va_P g.1 vwCl [] H := hP
  have hD : va_D A [] := hD
  exact hret r4 () (Nat.le_of_ble_eq_true rfl) (Nat.le_of_ble_eq_true rfl) hq5 (hq5) hP hD hS dJ0_charAt_5068e_15
abbrev rm_kJ0_coder_7d493_9 : Room := { frames := 0, cells := 0, slots := 0, locals := 0 }
set_option maxHeartbeats 4000000 in
set_option maxRecDepth 100000 in
theorem kJ0_coder_7d493_9 (l : Launch) (g : zL) : zCi l g yJ0_coder_7d493 cJ0_coder_7d493 1 (some .byte) rm_kJ0_coder_7d493_9 [.ref (g.2.2.1 9)] [] (fun (r : Int32) (u : Unit) => (r = (0 : Int32))) (fun (u : Unit) => []) := by
  refine zCi.mk2 (by decide) (Nat.le_of_ble_eq_true rfl) ?_
  intro p e s m below meth c A args Q hE hret hP hD hS ls hl
  obtain ⟨hx, hb, hr, hml, hown, hG, hlocks, hnm, hX, hA⟩ := hE
  have hown : s.vm.findClass RJ0 = some m.cls := hown
  have hl : lv_has ls 1 [(0, .ref (g.2.2.1 9))] := hl
  refine va_gets hx hb hX.2.2.2.2.1 hS hown (hG _ wf_J0_38) (fun _ h9 => h9) dJ0_coder_7d493_0 ?_
  refine lv_if_eq (tgt := 13) hx hb dJ0_coder_7d493_3 (by decide) (fun c1 => absurd c1 (by decide)) (fun c1 => ?_)
  refine lv_aload_n hx hb dJ0_coder_7d493_6 rfl (lv_at hl 0 rfl) ?_
  refine vk_getf (v := .int 0) hx hb (hX.2.2.2.1.1 9 (by decide)).2.1 hS hown (hG _ wf_J0_15) (fun _ h9 => h9) dJ0_coder_7d493_7 ?_
  refine lv_goto (tgt := 14) hx hb dJ0_coder_7d493_10 (by decide) ?_
  exact hret (0 : Int32) () (Nat.le_of_ble_eq_true rfl) (Nat.le_of_ble_eq_true rfl) rfl (rfl) hP hD hS dJ0_coder_7d493_14
abbrev rm_kJ0_isLatin1_aae02_9 : Room := { frames := 0, cells := 0, slots := 0, locals := 0 }
set_option maxHeartbeats 4000000 in
set_option maxRecDepth 100000 in
theorem kJ0_isLatin1_aae02_9 (l : Launch) (g : zL) : zCi l g yJ0_isLatin1_aae02 cJ0_isLatin1_aae02 1 (some .boolean) rm_kJ0_isLatin1_aae02_9 [.ref (g.2.2.1 9)] [] (fun (r : Int32) (u : Unit) => (r = (1 : Int32))) (fun (u : Unit) => []) := by
  refine zCi.mk2 (by decide) (Nat.le_of_ble_eq_true rfl) ?_
  intro p e s m below meth c A args Q hE hret hP hD hS ls hl
  obtain ⟨hx, hb, hr, hml, hown, hG, hlocks, hnm, hX, hA⟩ := hE
  have hown : s.vm.findClass RJ0 = some m.cls := hown
  have hl : lv_has ls 1 [(0, .ref (g.2.2.1 9))] := hl
  refine va_gets hx hb hX.2.2.2.2.1 hS hown (hG _ wf_J0_38) (fun _ h9 => h9) dJ0_isLatin1_aae02_0 ?_
  refine lv_if_eq (tgt := 17) hx hb dJ0_isLatin1_aae02_3 (by decide) (fun c1 => absurd c1 (by decide)) (fun c1 => ?_)
  refine lv_aload_n hx hb dJ0_isLatin1_aae02_6 rfl (lv_at hl 0 rfl) ?_
  refine vk_getf (v := .int 0) hx hb (hX.2.2.2.1.1 9 (by decide)).2.1 hS hown (hG _ wf_J0_15) (fun _ h9 => h9) dJ0_isLatin1_aae02_7 ?_
  refine lv_if_ne (tgt := 17) hx hb dJ0_isLatin1_aae02_10 (by decide) (fun c2 => (c2 (by decide)).elim) (fun c2 => ?_)
  refine lv_iconst (v := 1) hx hb dJ0_isLatin1_aae02_13 (by decide) ?_
  refine lv_goto (tgt := 18) hx hb dJ0_isLatin1_aae02_14 (by decide) ?_
  exact hret (1 : Int32) () (Nat.le_of_ble_eq_true rfl) (Nat.le_of_ble_eq_true rfl) rfl (rfl) hP hD hS dJ0_isLatin1_aae02_18
abbrev rm_kJ0_length_8abf5_9 : Room := { frames := 1, cells := 0, slots := 0, locals := 20 }
set_option maxHeartbeats 4000000 in
set_option maxRecDepth 100000 in
theorem kJ0_length_8abf5_9 (l : Launch) (g : zL) : zCi l g yJ0_length_8abf5 cJ0_length_8abf5 1 (some .int) rm_kJ0_length_8abf5_9 [.ref (g.2.2.1 9)] [] (fun (r : Int32) (u : Unit) => (r = (4 : Int32))) (fun (u : Unit) => []) := by
  refine zCi.mk2 (by decide) (Nat.le_of_ble_eq_true rfl) ?_
  intro p e s m below meth c A args Q hE hret hP hD hS ls hl
  obtain ⟨hx, hb, hr, hml, hown, hG, hlocks, hnm, hX, hA⟩ := hE
  have hown : s.vm.findClass RJ0 = some m.cls := hown
  have hl : lv_has ls 1 [(0, .ref (g.2.2.1 9))] := hl
  refine lv_aload_n hx hb dJ0_length_8abf5_0 rfl (lv_at hl 0 rfl) ?_
  refine vk_getf (v := .ref (g.2.2.2.1 9)) hx hb (hX.2.2.2.1.1 9 (by decide)).2.2.1 hS hown (hG _ wf_J0_9) (fun _ h9 => h9) dJ0_length_8abf5_1 ?_
  refine va_tlen (v := 4) hx hb (hX.2.2.2.1.1 9 (by decide)).2.2.2 hS (by decide) dJ0_length_8abf5_4 ?_
  refine lv_aload_n hx hb dJ0_length_8abf5_5 rfl (lv_at hl 0 rfl) ?_
  refine zfi (wr := []) (va_runV (As := []) (rest := [.int 4]) ⟨hx, hb, hml, hown, hG⟩ (kJ0_coder_7d493_9 l g _) ⟨callB_of 0 hG (zGood wc_J0_coder_7d493) rfl rfl rfl (hG _ wini_J0) (hG _ wm_J0_335) hJ0_coder_7d493 ⟨Nat.le_of_ble_eq_true rfl, Nat.le_of_ble_eq_true rfl⟩, hG _ wi_J0_coder_7d493, hG _ wse_J0_J0_coder_7d493⟩ (zpreV (vk_recv hX.2.2.2.1 (by decide) hS) hX hP hD hS hA [] rfl (by decide)) rfl rfl hl.1 rfl (lv_room (Nat.le_of_ble_eq_true rfl)) dJ0_length_8abf5_6 ⟨Nat.le_of_ble_eq_true rfl, Nat.le_of_ble_eq_true rfl⟩) hP hD hS hA [] [] rfl rfl (by decide) (by decide) (fun r1 _ H locs hp hP hD hS => ?_)
  refine W.cs (cells' := 0) (slots' := 0) rfl rfl ?_
  have hq2 : r1 = (0 : Int32) := hp
  subst hq2
  have hP : va_P g.1 vwCl [] H := hP
  have hD : va_D A [] := hD
  refine lv_ishr hx hb dJ0_length_8abf5_9 ?_
  refine zt (z := 4) (by decide) ?_
  exact hret (4 : Int32) () (Nat.le_of_ble_eq_true rfl) (Nat.le_of_ble_eq_true rfl) rfl (rfl) hP hD hS dJ0_length_8abf5_10
abbrev rm_kJ1_charAt_3b067_9 : Room := { frames := 2, cells := 0, slots := 0, locals := 43 }
set_option maxHeartbeats 4000000 in
set_option maxRecDepth 100000 in
theorem kJ1_charAt_3b067_9 (l : Launch) (g : zL) (x2 : Int32) (hy0 : 0 ≤ x2.toInt ∧ x2.toInt ≤ 3) : zCi l g yJ1_charAt_3b067 cJ1_charAt_3b067 2 (some .char) rm_kJ1_charAt_3b067_9 [.ref (g.2.2.2.1 9), .int x2] [] (fun (r : Int32) (u : Unit) => (pChr r)) (fun (u : Unit) => []) := by
  refine zCi.mk2 (by decide) (Nat.le_of_ble_eq_true rfl) ?_
  intro p e s m below meth c A args Q hE hret hP hD hS ls hl
  obtain ⟨hx, hb, hr, hml, hown, hG, hlocks, hnm, hX, hA⟩ := hE
  have hown : s.vm.findClass RJ1 = some m.cls := hown
  have hl : lv_has ls 2 [(0, .ref (g.2.2.2.1 9)), (1, .int x2)] := hl
  refine lv_iload_n hx hb dJ1_charAt_3b067_0 rfl (lv_at hl 1 rfl) ?_
  refine lv_aload_n hx hb dJ1_charAt_3b067_1 rfl (lv_at hl 0 rfl) ?_
  refine va_tlen (v := 4) hx hb (hX.2.2.2.1.1 9 (by decide)).2.2.2 hS (by decide) dJ1_charAt_3b067_2 ?_
  refine zfv (wr := []) (va_runS (As := [.int x2, .int 4]) (rest := []) ⟨hx, hb, hml, hown, hG⟩ (kJ0_checkIndex_df160 l g x2 (4 : Int32) (ox_446 hy0) ((show 0 ≤ (4 : Int) ∧ (4 : Int) ≤ 200 from by decide)) (ox_447 hy0) _) ⟨callB_of 2 hG (zGood wc_J0_checkIndex_df160) rfl rfl rfl (hG _ wini_J0) (hG _ wm_J1_9) hJ0_checkIndex_df160 ⟨Nat.le_of_ble_eq_true rfl, Nat.le_of_ble_eq_true rfl⟩, hG _ ws_J0_checkIndex_df160⟩ (zpreS hX hP hD hS hA [] rfl (by decide)) rfl rfl hl.1 rfl (lv_room (Nat.le_of_ble_eq_true rfl)) dJ1_charAt_3b067_3 ⟨Nat.le_of_ble_eq_true rfl, Nat.le_of_ble_eq_true rfl⟩) hP hD hS hA [] [] rfl rfl (by decide) (by decide) (fun _ H locs hp hP hD hS => ?_)
  refine W.cs (cells' := 0) (slots' := 0) rfl rfl ?_
  have hP : va_P g.1 vwCl [] H := hP
  have hD : va_D A [] := hD
  refine lv_aload_n hx hb dJ1_charAt_3b067_6 rfl (lv_at hl 0 rfl) ?_
  refine lv_iload_n hx hb dJ1_charAt_3b067_7 rfl (lv_at hl 1 rfl) ?_
  refine va_tb hx hb (hX.2.2.2.1.1 9 (by decide)).2.2.2 hS (zin (rfl : x2.toInt = _) (ox_448 hy0)) rfl dJ1_charAt_3b067_8 ?_
  refine lv_topi (fun z2 e3 => ?_)
  refine lv_sipush (v := 255) hx hb dJ1_charAt_3b067_9 (by decide) ?_
  refine lv_iand hx hb dJ1_charAt_3b067_12 ?_
  refine lv_topi (fun z4 e5 => ?_)
  have f6 : 0 ≤ z4.toInt ∧ z4.toInt ≤ (255 : Int) := zand e5 (show (255 : Int32).toInt = (255 : Int) from by decide) ((show 0 ≤ (255 : Int) from by decide))
  refine lv_i2c (v := (z4.toUInt32 % 65536).toInt32) hx hb dJ1_charAt_3b067_13 rfl ?_
  refine lv_topi (fun z7 e8 => ?_)
  exact hret z7 () (Nat.le_of_ble_eq_true rfl) (Nat.le_of_ble_eq_true rfl) (pChr.of e8) ((pChr.of e8)) hP hD hS dJ1_charAt_3b067_14
abbrev rm_kJ0_charAt_5068e_9 : Room := { frames := 3, cells := 0, slots := 0, locals := 64 }
set_option maxHeartbeats 4000000 in
set_option maxRecDepth 100000 in
theorem kJ0_charAt_5068e_9 (l : Launch) (g : zL) (x1 : Int32) (hy0 : 0 ≤ x1.toInt ∧ x1.toInt ≤ 3) : zCi l g yJ0_charAt_5068e cJ0_charAt_5068e 2 (some .char) rm_kJ0_charAt_5068e_9 [.ref (g.2.2.1 9), .int x1] [] (fun (r : Int32) (u : Unit) => (pChr r)) (fun (u : Unit) => []) := by
  refine zCi.mk2 (by decide) (Nat.le_of_ble_eq_true rfl) ?_
  intro p e s m below meth c A args Q hE hret hP hD hS ls hl
  obtain ⟨hx, hb, hr, hml, hown, hG, hlocks, hnm, hX, hA⟩ := hE
  have hown : s.vm.findClass RJ0 = some m.cls := hown
  have hl : lv_has ls 2 [(0, .ref (g.2.2.1 9)), (1, .int x1)] := hl
  refine lv_aload_n hx hb dJ0_charAt_5068e_0 rfl (lv_at hl 0 rfl) ?_
  refine zfi (wr := []) (va_runV (As := []) (rest := []) ⟨hx, hb, hml, hown, hG⟩ (kJ0_isLatin1_aae02_9 l g _) ⟨callB_of 0 hG (zGood wc_J0_isLatin1_aae02) rfl rfl rfl (hG _ wini_J0) (hG _ wm_J0_492) hJ0_isLatin1_aae02 ⟨Nat.le_of_ble_eq_true rfl, Nat.le_of_ble_eq_true rfl⟩, hG _ wi_J0_isLatin1_aae02, hG _ wse_J0_J0_isLatin1_aae02⟩ (zpreV (vk_recv hX.2.2.2.1 (by decide) hS) hX hP hD hS hA [] rfl (by decide)) rfl rfl hl.1 rfl (lv_room (Nat.le_of_ble_eq_true rfl)) dJ0_charAt_5068e_1 ⟨Nat.le_of_ble_eq_true rfl, Nat.le_of_ble_eq_true rfl⟩) hP hD hS hA [] [] rfl rfl (by decide) (by decide) (fun r1 _ H locs hp hP hD hS => ?_)
  refine W.cs (cells' := 0) (slots' := 0) rfl rfl ?_
  have hq2 : r1 = (1 : Int32) := hp
  subst hq2
  have hP : va_P g.1 vwCl [] H := hP
  have hD : va_D A [] := hD
  refine lv_if_eq (tgt := 16) hx hb dJ0_charAt_5068e_4 (by decide) (fun c3 => absurd c3 (by decide)) (fun c3 => ?_)
  refine lv_aload_n hx hb dJ0_charAt_5068e_7 rfl (lv_at hl 0 rfl) ?_
  refine vk_getf (v := .ref (g.2.2.2.1 9)) hx hb (hX.2.2.2.1.1 9 (by decide)).2.2.1 hS hown (hG _ wf_J0_9) (fun _ h9 => h9) dJ0_charAt_5068e_8 ?_
  refine lv_iload_n hx hb dJ0_charAt_5068e_11 rfl (lv_at hl 1 rfl) ?_
  refine zfi (wr := []) (va_runS (As := [.ref (g.2.2.2.1 9), .int x1]) (rest := []) ⟨hx, hb, hml, hown, hG⟩ (kJ1_charAt_3b067_9 l g x1 (ox_449 hy0) _) ⟨callB_of 2 hG (zGood wc_J1_charAt_3b067) rfl rfl rfl (hG _ wini_J1) (hG _ wm_J0_495) hJ1_charAt_3b067 ⟨Nat.le_of_ble_eq_true rfl, Nat.le_of_ble_eq_true rfl⟩, hG _ ws_J1_charAt_3b067⟩ (zpreS hX hP hD hS hA [] rfl (by decide)) rfl rfl hl.1 rfl (lv_room (Nat.le_of_ble_eq_true rfl)) dJ0_charAt_5068e_12 ⟨Nat.le_of_ble_eq_true rfl, Nat.le_of_ble_eq_true rfl⟩) hP hD hS hA [] [] rfl rfl (by decide) (by decide) (fun r4 _ H locs hp hP hD hS => ?_)
  refine W.cs (cells' := 0) (slots' := 0) rfl rfl ?_
  have hq5 : pChr r4 := hp
  have hP : va_P g.1 vwCl [] H := hP
  have hD : va_D A [] := hD
  exact hret r4 () (Nat.le_of_ble_eq_true rfl) (Nat.le_of_ble_eq_true rfl) hq5 (hq5) hP hD hS dJ0_charAt_5068e_15
abbrev rm_kJ0_coder_7d493_10 : Room := { frames := 0, cells := 0, slots := 0, locals := 0 }
set_option maxHeartbeats 4000000 in
set_option maxRecDepth 100000 in
theorem kJ0_coder_7d493_10 (l : Launch) (g : zL) : zCi l g yJ0_coder_7d493 cJ0_coder_7d493 1 (some .byte) rm_kJ0_coder_7d493_10 [.ref (g.2.2.1 10)] [] (fun (r : Int32) (u : Unit) => (r = (0 : Int32))) (fun (u : Unit) => []) := by
  refine zCi.mk2 (by decide) (Nat.le_of_ble_eq_true rfl) ?_
  intro p e s m below meth c A args Q hE hret hP hD hS ls hl
  obtain ⟨hx, hb, hr, hml, hown, hG, hlocks, hnm, hX, hA⟩ := hE
  have hown : s.vm.findClass RJ0 = some m.cls := hown
  have hl : lv_has ls 1 [(0, .ref (g.2.2.1 10))] := hl
  refine va_gets hx hb hX.2.2.2.2.1 hS hown (hG _ wf_J0_38) (fun _ h9 => h9) dJ0_coder_7d493_0 ?_
  refine lv_if_eq (tgt := 13) hx hb dJ0_coder_7d493_3 (by decide) (fun c1 => absurd c1 (by decide)) (fun c1 => ?_)
  refine lv_aload_n hx hb dJ0_coder_7d493_6 rfl (lv_at hl 0 rfl) ?_
  refine vk_getf (v := .int 0) hx hb (hX.2.2.2.1.1 10 (by decide)).2.1 hS hown (hG _ wf_J0_15) (fun _ h9 => h9) dJ0_coder_7d493_7 ?_
  refine lv_goto (tgt := 14) hx hb dJ0_coder_7d493_10 (by decide) ?_
  exact hret (0 : Int32) () (Nat.le_of_ble_eq_true rfl) (Nat.le_of_ble_eq_true rfl) rfl (rfl) hP hD hS dJ0_coder_7d493_14
abbrev rm_kJ0_isLatin1_aae02_10 : Room := { frames := 0, cells := 0, slots := 0, locals := 0 }
set_option maxHeartbeats 4000000 in
set_option maxRecDepth 100000 in
theorem kJ0_isLatin1_aae02_10 (l : Launch) (g : zL) : zCi l g yJ0_isLatin1_aae02 cJ0_isLatin1_aae02 1 (some .boolean) rm_kJ0_isLatin1_aae02_10 [.ref (g.2.2.1 10)] [] (fun (r : Int32) (u : Unit) => (r = (1 : Int32))) (fun (u : Unit) => []) := by
  refine zCi.mk2 (by decide) (Nat.le_of_ble_eq_true rfl) ?_
  intro p e s m below meth c A args Q hE hret hP hD hS ls hl
  obtain ⟨hx, hb, hr, hml, hown, hG, hlocks, hnm, hX, hA⟩ := hE
  have hown : s.vm.findClass RJ0 = some m.cls := hown
  have hl : lv_has ls 1 [(0, .ref (g.2.2.1 10))] := hl
  refine va_gets hx hb hX.2.2.2.2.1 hS hown (hG _ wf_J0_38) (fun _ h9 => h9) dJ0_isLatin1_aae02_0 ?_
  refine lv_if_eq (tgt := 17) hx hb dJ0_isLatin1_aae02_3 (by decide) (fun c1 => absurd c1 (by decide)) (fun c1 => ?_)
  refine lv_aload_n hx hb dJ0_isLatin1_aae02_6 rfl (lv_at hl 0 rfl) ?_
  refine vk_getf (v := .int 0) hx hb (hX.2.2.2.1.1 10 (by decide)).2.1 hS hown (hG _ wf_J0_15) (fun _ h9 => h9) dJ0_isLatin1_aae02_7 ?_
  refine lv_if_ne (tgt := 17) hx hb dJ0_isLatin1_aae02_10 (by decide) (fun c2 => (c2 (by decide)).elim) (fun c2 => ?_)
  refine lv_iconst (v := 1) hx hb dJ0_isLatin1_aae02_13 (by decide) ?_
  refine lv_goto (tgt := 18) hx hb dJ0_isLatin1_aae02_14 (by decide) ?_
  exact hret (1 : Int32) () (Nat.le_of_ble_eq_true rfl) (Nat.le_of_ble_eq_true rfl) rfl (rfl) hP hD hS dJ0_isLatin1_aae02_18
abbrev rm_kJ0_length_8abf5_10 : Room := { frames := 1, cells := 0, slots := 0, locals := 20 }
set_option maxHeartbeats 4000000 in
set_option maxRecDepth 100000 in
theorem kJ0_length_8abf5_10 (l : Launch) (g : zL) : zCi l g yJ0_length_8abf5 cJ0_length_8abf5 1 (some .int) rm_kJ0_length_8abf5_10 [.ref (g.2.2.1 10)] [] (fun (r : Int32) (u : Unit) => (r = (5 : Int32))) (fun (u : Unit) => []) := by
  refine zCi.mk2 (by decide) (Nat.le_of_ble_eq_true rfl) ?_
  intro p e s m below meth c A args Q hE hret hP hD hS ls hl
  obtain ⟨hx, hb, hr, hml, hown, hG, hlocks, hnm, hX, hA⟩ := hE
  have hown : s.vm.findClass RJ0 = some m.cls := hown
  have hl : lv_has ls 1 [(0, .ref (g.2.2.1 10))] := hl
  refine lv_aload_n hx hb dJ0_length_8abf5_0 rfl (lv_at hl 0 rfl) ?_
  refine vk_getf (v := .ref (g.2.2.2.1 10)) hx hb (hX.2.2.2.1.1 10 (by decide)).2.2.1 hS hown (hG _ wf_J0_9) (fun _ h9 => h9) dJ0_length_8abf5_1 ?_
  refine va_tlen (v := 5) hx hb (hX.2.2.2.1.1 10 (by decide)).2.2.2 hS (by decide) dJ0_length_8abf5_4 ?_
  refine lv_aload_n hx hb dJ0_length_8abf5_5 rfl (lv_at hl 0 rfl) ?_
  refine zfi (wr := []) (va_runV (As := []) (rest := [.int 5]) ⟨hx, hb, hml, hown, hG⟩ (kJ0_coder_7d493_10 l g _) ⟨callB_of 0 hG (zGood wc_J0_coder_7d493) rfl rfl rfl (hG _ wini_J0) (hG _ wm_J0_335) hJ0_coder_7d493 ⟨Nat.le_of_ble_eq_true rfl, Nat.le_of_ble_eq_true rfl⟩, hG _ wi_J0_coder_7d493, hG _ wse_J0_J0_coder_7d493⟩ (zpreV (vk_recv hX.2.2.2.1 (by decide) hS) hX hP hD hS hA [] rfl (by decide)) rfl rfl hl.1 rfl (lv_room (Nat.le_of_ble_eq_true rfl)) dJ0_length_8abf5_6 ⟨Nat.le_of_ble_eq_true rfl, Nat.le_of_ble_eq_true rfl⟩) hP hD hS hA [] [] rfl rfl (by decide) (by decide) (fun r1 _ H locs hp hP hD hS => ?_)
  refine W.cs (cells' := 0) (slots' := 0) rfl rfl ?_
  have hq2 : r1 = (0 : Int32) := hp
  subst hq2
  have hP : va_P g.1 vwCl [] H := hP
  have hD : va_D A [] := hD
  refine lv_ishr hx hb dJ0_length_8abf5_9 ?_
  refine zt (z := 5) (by decide) ?_
  exact hret (5 : Int32) () (Nat.le_of_ble_eq_true rfl) (Nat.le_of_ble_eq_true rfl) rfl (rfl) hP hD hS dJ0_length_8abf5_10
abbrev rm_kJ1_charAt_3b067_10 : Room := { frames := 2, cells := 0, slots := 0, locals := 43 }
set_option maxHeartbeats 4000000 in
set_option maxRecDepth 100000 in
theorem kJ1_charAt_3b067_10 (l : Launch) (g : zL) (x2 : Int32) (hy0 : 0 ≤ x2.toInt ∧ x2.toInt ≤ 4) : zCi l g yJ1_charAt_3b067 cJ1_charAt_3b067 2 (some .char) rm_kJ1_charAt_3b067_10 [.ref (g.2.2.2.1 10), .int x2] [] (fun (r : Int32) (u : Unit) => (pChr r)) (fun (u : Unit) => []) := by
  refine zCi.mk2 (by decide) (Nat.le_of_ble_eq_true rfl) ?_
  intro p e s m below meth c A args Q hE hret hP hD hS ls hl
  obtain ⟨hx, hb, hr, hml, hown, hG, hlocks, hnm, hX, hA⟩ := hE
  have hown : s.vm.findClass RJ1 = some m.cls := hown
  have hl : lv_has ls 2 [(0, .ref (g.2.2.2.1 10)), (1, .int x2)] := hl
  refine lv_iload_n hx hb dJ1_charAt_3b067_0 rfl (lv_at hl 1 rfl) ?_
  refine lv_aload_n hx hb dJ1_charAt_3b067_1 rfl (lv_at hl 0 rfl) ?_
  refine va_tlen (v := 5) hx hb (hX.2.2.2.1.1 10 (by decide)).2.2.2 hS (by decide) dJ1_charAt_3b067_2 ?_
  refine zfv (wr := []) (va_runS (As := [.int x2, .int 5]) (rest := []) ⟨hx, hb, hml, hown, hG⟩ (kJ0_checkIndex_df160 l g x2 (5 : Int32) (ox_442 hy0) ((show 0 ≤ (5 : Int) ∧ (5 : Int) ≤ 200 from by decide)) (ox_443 hy0) _) ⟨callB_of 2 hG (zGood wc_J0_checkIndex_df160) rfl rfl rfl (hG _ wini_J0) (hG _ wm_J1_9) hJ0_checkIndex_df160 ⟨Nat.le_of_ble_eq_true rfl, Nat.le_of_ble_eq_true rfl⟩, hG _ ws_J0_checkIndex_df160⟩ (zpreS hX hP hD hS hA [] rfl (by decide)) rfl rfl hl.1 rfl (lv_room (Nat.le_of_ble_eq_true rfl)) dJ1_charAt_3b067_3 ⟨Nat.le_of_ble_eq_true rfl, Nat.le_of_ble_eq_true rfl⟩) hP hD hS hA [] [] rfl rfl (by decide) (by decide) (fun _ H locs hp hP hD hS => ?_)
  refine W.cs (cells' := 0) (slots' := 0) rfl rfl ?_
  have hP : va_P g.1 vwCl [] H := hP
  have hD : va_D A [] := hD
  refine lv_aload_n hx hb dJ1_charAt_3b067_6 rfl (lv_at hl 0 rfl) ?_
  refine lv_iload_n hx hb dJ1_charAt_3b067_7 rfl (lv_at hl 1 rfl) ?_
  refine va_tb hx hb (hX.2.2.2.1.1 10 (by decide)).2.2.2 hS (zin (rfl : x2.toInt = _) (ox_444 hy0)) rfl dJ1_charAt_3b067_8 ?_
  refine lv_topi (fun z2 e3 => ?_)
  refine lv_sipush (v := 255) hx hb dJ1_charAt_3b067_9 (by decide) ?_
  refine lv_iand hx hb dJ1_charAt_3b067_12 ?_
  refine lv_topi (fun z4 e5 => ?_)
  have f6 : 0 ≤ z4.toInt ∧ z4.toInt ≤ (255 : Int) := zand e5 (show (255 : Int32).toInt = (255 : Int) from by decide) ((show 0 ≤ (255 : Int) from by decide))
  refine lv_i2c (v := (z4.toUInt32 % 65536).toInt32) hx hb dJ1_charAt_3b067_13 rfl ?_
  refine lv_topi (fun z7 e8 => ?_)
  exact hret z7 () (Nat.le_of_ble_eq_true rfl) (Nat.le_of_ble_eq_true rfl) (pChr.of e8) ((pChr.of e8)) hP hD hS dJ1_charAt_3b067_14
abbrev rm_kJ0_charAt_5068e_10 : Room := { frames := 3, cells := 0, slots := 0, locals := 64 }
set_option maxHeartbeats 4000000 in
set_option maxRecDepth 100000 in
theorem kJ0_charAt_5068e_10 (l : Launch) (g : zL) (x1 : Int32) (hy0 : 0 ≤ x1.toInt ∧ x1.toInt ≤ 4) : zCi l g yJ0_charAt_5068e cJ0_charAt_5068e 2 (some .char) rm_kJ0_charAt_5068e_10 [.ref (g.2.2.1 10), .int x1] [] (fun (r : Int32) (u : Unit) => (pChr r)) (fun (u : Unit) => []) := by
  refine zCi.mk2 (by decide) (Nat.le_of_ble_eq_true rfl) ?_
  intro p e s m below meth c A args Q hE hret hP hD hS ls hl
  obtain ⟨hx, hb, hr, hml, hown, hG, hlocks, hnm, hX, hA⟩ := hE
  have hown : s.vm.findClass RJ0 = some m.cls := hown
  have hl : lv_has ls 2 [(0, .ref (g.2.2.1 10)), (1, .int x1)] := hl
  refine lv_aload_n hx hb dJ0_charAt_5068e_0 rfl (lv_at hl 0 rfl) ?_
  refine zfi (wr := []) (va_runV (As := []) (rest := []) ⟨hx, hb, hml, hown, hG⟩ (kJ0_isLatin1_aae02_10 l g _) ⟨callB_of 0 hG (zGood wc_J0_isLatin1_aae02) rfl rfl rfl (hG _ wini_J0) (hG _ wm_J0_492) hJ0_isLatin1_aae02 ⟨Nat.le_of_ble_eq_true rfl, Nat.le_of_ble_eq_true rfl⟩, hG _ wi_J0_isLatin1_aae02, hG _ wse_J0_J0_isLatin1_aae02⟩ (zpreV (vk_recv hX.2.2.2.1 (by decide) hS) hX hP hD hS hA [] rfl (by decide)) rfl rfl hl.1 rfl (lv_room (Nat.le_of_ble_eq_true rfl)) dJ0_charAt_5068e_1 ⟨Nat.le_of_ble_eq_true rfl, Nat.le_of_ble_eq_true rfl⟩) hP hD hS hA [] [] rfl rfl (by decide) (by decide) (fun r1 _ H locs hp hP hD hS => ?_)
  refine W.cs (cells' := 0) (slots' := 0) rfl rfl ?_
  have hq2 : r1 = (1 : Int32) := hp
  subst hq2
  have hP : va_P g.1 vwCl [] H := hP
  have hD : va_D A [] := hD
  refine lv_if_eq (tgt := 16) hx hb dJ0_charAt_5068e_4 (by decide) (fun c3 => absurd c3 (by decide)) (fun c3 => ?_)
  refine lv_aload_n hx hb dJ0_charAt_5068e_7 rfl (lv_at hl 0 rfl) ?_
  refine vk_getf (v := .ref (g.2.2.2.1 10)) hx hb (hX.2.2.2.1.1 10 (by decide)).2.2.1 hS hown (hG _ wf_J0_9) (fun _ h9 => h9) dJ0_charAt_5068e_8 ?_
  refine lv_iload_n hx hb dJ0_charAt_5068e_11 rfl (lv_at hl 1 rfl) ?_
  refine zfi (wr := []) (va_runS (As := [.ref (g.2.2.2.1 10), .int x1]) (rest := []) ⟨hx, hb, hml, hown, hG⟩ (kJ1_charAt_3b067_10 l g x1 (ox_445 hy0) _) ⟨callB_of 2 hG (zGood wc_J1_charAt_3b067) rfl rfl rfl (hG _ wini_J1) (hG _ wm_J0_495) hJ1_charAt_3b067 ⟨Nat.le_of_ble_eq_true rfl, Nat.le_of_ble_eq_true rfl⟩, hG _ ws_J1_charAt_3b067⟩ (zpreS hX hP hD hS hA [] rfl (by decide)) rfl rfl hl.1 rfl (lv_room (Nat.le_of_ble_eq_true rfl)) dJ0_charAt_5068e_12 ⟨Nat.le_of_ble_eq_true rfl, Nat.le_of_ble_eq_true rfl⟩) hP hD hS hA [] [] rfl rfl (by decide) (by decide) (fun r4 _ H locs hp hP hD hS => ?_)
  refine W.cs (cells' := 0) (slots' := 0) rfl rfl ?_
  have hq5 : pChr r4 := hp
  have hP : va_P g.1 vwCl [] H := hP
  have hD : va_D A [] := hD
  exact hret r4 () (Nat.le_of_ble_eq_true rfl) (Nat.le_of_ble_eq_true rfl) hq5 (hq5) hP hD hS dJ0_charAt_5068e_15
abbrev rm_kJ0_coder_7d493_11 : Room := { frames := 0, cells := 0, slots := 0, locals := 0 }
set_option maxHeartbeats 4000000 in
set_option maxRecDepth 100000 in
theorem kJ0_coder_7d493_11 (l : Launch) (g : zL) : zCi l g yJ0_coder_7d493 cJ0_coder_7d493 1 (some .byte) rm_kJ0_coder_7d493_11 [.ref (g.2.2.1 11)] [] (fun (r : Int32) (u : Unit) => (r = (0 : Int32))) (fun (u : Unit) => []) := by
  refine zCi.mk2 (by decide) (Nat.le_of_ble_eq_true rfl) ?_
  intro p e s m below meth c A args Q hE hret hP hD hS ls hl
  obtain ⟨hx, hb, hr, hml, hown, hG, hlocks, hnm, hX, hA⟩ := hE
  have hown : s.vm.findClass RJ0 = some m.cls := hown
  have hl : lv_has ls 1 [(0, .ref (g.2.2.1 11))] := hl
  refine va_gets hx hb hX.2.2.2.2.1 hS hown (hG _ wf_J0_38) (fun _ h9 => h9) dJ0_coder_7d493_0 ?_
  refine lv_if_eq (tgt := 13) hx hb dJ0_coder_7d493_3 (by decide) (fun c1 => absurd c1 (by decide)) (fun c1 => ?_)
  refine lv_aload_n hx hb dJ0_coder_7d493_6 rfl (lv_at hl 0 rfl) ?_
  refine vk_getf (v := .int 0) hx hb (hX.2.2.2.1.1 11 (by decide)).2.1 hS hown (hG _ wf_J0_15) (fun _ h9 => h9) dJ0_coder_7d493_7 ?_
  refine lv_goto (tgt := 14) hx hb dJ0_coder_7d493_10 (by decide) ?_
  exact hret (0 : Int32) () (Nat.le_of_ble_eq_true rfl) (Nat.le_of_ble_eq_true rfl) rfl (rfl) hP hD hS dJ0_coder_7d493_14
abbrev rm_kJ0_isLatin1_aae02_11 : Room := { frames := 0, cells := 0, slots := 0, locals := 0 }
set_option maxHeartbeats 4000000 in
set_option maxRecDepth 100000 in
theorem kJ0_isLatin1_aae02_11 (l : Launch) (g : zL) : zCi l g yJ0_isLatin1_aae02 cJ0_isLatin1_aae02 1 (some .boolean) rm_kJ0_isLatin1_aae02_11 [.ref (g.2.2.1 11)] [] (fun (r : Int32) (u : Unit) => (r = (1 : Int32))) (fun (u : Unit) => []) := by
  refine zCi.mk2 (by decide) (Nat.le_of_ble_eq_true rfl) ?_
  intro p e s m below meth c A args Q hE hret hP hD hS ls hl
  obtain ⟨hx, hb, hr, hml, hown, hG, hlocks, hnm, hX, hA⟩ := hE
  have hown : s.vm.findClass RJ0 = some m.cls := hown
  have hl : lv_has ls 1 [(0, .ref (g.2.2.1 11))] := hl
  refine va_gets hx hb hX.2.2.2.2.1 hS hown (hG _ wf_J0_38) (fun _ h9 => h9) dJ0_isLatin1_aae02_0 ?_
  refine lv_if_eq (tgt := 17) hx hb dJ0_isLatin1_aae02_3 (by decide) (fun c1 => absurd c1 (by decide)) (fun c1 => ?_)
  refine lv_aload_n hx hb dJ0_isLatin1_aae02_6 rfl (lv_at hl 0 rfl) ?_
  refine vk_getf (v := .int 0) hx hb (hX.2.2.2.1.1 11 (by decide)).2.1 hS hown (hG _ wf_J0_15) (fun _ h9 => h9) dJ0_isLatin1_aae02_7 ?_
  refine lv_if_ne (tgt := 17) hx hb dJ0_isLatin1_aae02_10 (by decide) (fun c2 => (c2 (by decide)).elim) (fun c2 => ?_)
  refine lv_iconst (v := 1) hx hb dJ0_isLatin1_aae02_13 (by decide) ?_
  refine lv_goto (tgt := 18) hx hb dJ0_isLatin1_aae02_14 (by decide) ?_
  exact hret (1 : Int32) () (Nat.le_of_ble_eq_true rfl) (Nat.le_of_ble_eq_true rfl) rfl (rfl) hP hD hS dJ0_isLatin1_aae02_18
abbrev rm_kJ0_length_8abf5_11 : Room := { frames := 1, cells := 0, slots := 0, locals := 20 }
set_option maxHeartbeats 4000000 in
set_option maxRecDepth 100000 in
theorem kJ0_length_8abf5_11 (l : Launch) (g : zL) : zCi l g yJ0_length_8abf5 cJ0_length_8abf5 1 (some .int) rm_kJ0_length_8abf5_11 [.ref (g.2.2.1 11)] [] (fun (r : Int32) (u : Unit) => (r = (4 : Int32))) (fun (u : Unit) => []) := by
  refine zCi.mk2 (by decide) (Nat.le_of_ble_eq_true rfl) ?_
  intro p e s m below meth c A args Q hE hret hP hD hS ls hl
  obtain ⟨hx, hb, hr, hml, hown, hG, hlocks, hnm, hX, hA⟩ := hE
  have hown : s.vm.findClass RJ0 = some m.cls := hown
  have hl : lv_has ls 1 [(0, .ref (g.2.2.1 11))] := hl
  refine lv_aload_n hx hb dJ0_length_8abf5_0 rfl (lv_at hl 0 rfl) ?_
  refine vk_getf (v := .ref (g.2.2.2.1 11)) hx hb (hX.2.2.2.1.1 11 (by decide)).2.2.1 hS hown (hG _ wf_J0_9) (fun _ h9 => h9) dJ0_length_8abf5_1 ?_
  refine va_tlen (v := 4) hx hb (hX.2.2.2.1.1 11 (by decide)).2.2.2 hS (by decide) dJ0_length_8abf5_4 ?_
  refine lv_aload_n hx hb dJ0_length_8abf5_5 rfl (lv_at hl 0 rfl) ?_
  refine zfi (wr := []) (va_runV (As := []) (rest := [.int 4]) ⟨hx, hb, hml, hown, hG⟩ (kJ0_coder_7d493_11 l g _) ⟨callB_of 0 hG (zGood wc_J0_coder_7d493) rfl rfl rfl (hG _ wini_J0) (hG _ wm_J0_335) hJ0_coder_7d493 ⟨Nat.le_of_ble_eq_true rfl, Nat.le_of_ble_eq_true rfl⟩, hG _ wi_J0_coder_7d493, hG _ wse_J0_J0_coder_7d493⟩ (zpreV (vk_recv hX.2.2.2.1 (by decide) hS) hX hP hD hS hA [] rfl (by decide)) rfl rfl hl.1 rfl (lv_room (Nat.le_of_ble_eq_true rfl)) dJ0_length_8abf5_6 ⟨Nat.le_of_ble_eq_true rfl, Nat.le_of_ble_eq_true rfl⟩) hP hD hS hA [] [] rfl rfl (by decide) (by decide) (fun r1 _ H locs hp hP hD hS => ?_)
  refine W.cs (cells' := 0) (slots' := 0) rfl rfl ?_
  have hq2 : r1 = (0 : Int32) := hp
  subst hq2
  have hP : va_P g.1 vwCl [] H := hP
  have hD : va_D A [] := hD
  refine lv_ishr hx hb dJ0_length_8abf5_9 ?_
  refine zt (z := 4) (by decide) ?_
  exact hret (4 : Int32) () (Nat.le_of_ble_eq_true rfl) (Nat.le_of_ble_eq_true rfl) rfl (rfl) hP hD hS dJ0_length_8abf5_10
abbrev rm_kJ1_charAt_3b067_11 : Room := { frames := 2, cells := 0, slots := 0, locals := 43 }
set_option maxHeartbeats 4000000 in
set_option maxRecDepth 100000 in
theorem kJ1_charAt_3b067_11 (l : Launch) (g : zL) (x2 : Int32) (hy0 : 0 ≤ x2.toInt ∧ x2.toInt ≤ 3) : zCi l g yJ1_charAt_3b067 cJ1_charAt_3b067 2 (some .char) rm_kJ1_charAt_3b067_11 [.ref (g.2.2.2.1 11), .int x2] [] (fun (r : Int32) (u : Unit) => (pChr r)) (fun (u : Unit) => []) := by
  refine zCi.mk2 (by decide) (Nat.le_of_ble_eq_true rfl) ?_
  intro p e s m below meth c A args Q hE hret hP hD hS ls hl
  obtain ⟨hx, hb, hr, hml, hown, hG, hlocks, hnm, hX, hA⟩ := hE
  have hown : s.vm.findClass RJ1 = some m.cls := hown
  have hl : lv_has ls 2 [(0, .ref (g.2.2.2.1 11)), (1, .int x2)] := hl
  refine lv_iload_n hx hb dJ1_charAt_3b067_0 rfl (lv_at hl 1 rfl) ?_
  refine lv_aload_n hx hb dJ1_charAt_3b067_1 rfl (lv_at hl 0 rfl) ?_
  refine va_tlen (v := 4) hx hb (hX.2.2.2.1.1 11 (by decide)).2.2.2 hS (by decide) dJ1_charAt_3b067_2 ?_
  refine zfv (wr := []) (va_runS (As := [.int x2, .int 4]) (rest := []) ⟨hx, hb, hml, hown, hG⟩ (kJ0_checkIndex_df160 l g x2 (4 : Int32) (ox_446 hy0) ((show 0 ≤ (4 : Int) ∧ (4 : Int) ≤ 200 from by decide)) (ox_447 hy0) _) ⟨callB_of 2 hG (zGood wc_J0_checkIndex_df160) rfl rfl rfl (hG _ wini_J0) (hG _ wm_J1_9) hJ0_checkIndex_df160 ⟨Nat.le_of_ble_eq_true rfl, Nat.le_of_ble_eq_true rfl⟩, hG _ ws_J0_checkIndex_df160⟩ (zpreS hX hP hD hS hA [] rfl (by decide)) rfl rfl hl.1 rfl (lv_room (Nat.le_of_ble_eq_true rfl)) dJ1_charAt_3b067_3 ⟨Nat.le_of_ble_eq_true rfl, Nat.le_of_ble_eq_true rfl⟩) hP hD hS hA [] [] rfl rfl (by decide) (by decide) (fun _ H locs hp hP hD hS => ?_)
  refine W.cs (cells' := 0) (slots' := 0) rfl rfl ?_
  have hP : va_P g.1 vwCl [] H := hP
  have hD : va_D A [] := hD
  refine lv_aload_n hx hb dJ1_charAt_3b067_6 rfl (lv_at hl 0 rfl) ?_
  refine lv_iload_n hx hb dJ1_charAt_3b067_7 rfl (lv_at hl 1 rfl) ?_
  refine va_tb hx hb (hX.2.2.2.1.1 11 (by decide)).2.2.2 hS (zin (rfl : x2.toInt = _) (ox_448 hy0)) rfl dJ1_charAt_3b067_8 ?_
  refine lv_topi (fun z2 e3 => ?_)
  refine lv_sipush (v := 255) hx hb dJ1_charAt_3b067_9 (by decide) ?_
  refine lv_iand hx hb dJ1_charAt_3b067_12 ?_
  refine lv_topi (fun z4 e5 => ?_)
  have f6 : 0 ≤ z4.toInt ∧ z4.toInt ≤ (255 : Int) := zand e5 (show (255 : Int32).toInt = (255 : Int) from by decide) ((show 0 ≤ (255 : Int) from by decide))
  refine lv_i2c (v := (z4.toUInt32 % 65536).toInt32) hx hb dJ1_charAt_3b067_13 rfl ?_
  refine lv_topi (fun z7 e8 => ?_)
  exact hret z7 () (Nat.le_of_ble_eq_true rfl) (Nat.le_of_ble_eq_true rfl) (pChr.of e8) ((pChr.of e8)) hP hD hS dJ1_charAt_3b067_14
abbrev rm_kJ0_charAt_5068e_11 : Room := { frames := 3, cells := 0, slots := 0, locals := 64 }
set_option maxHeartbeats 4000000 in
set_option maxRecDepth 100000 in
theorem kJ0_charAt_5068e_11 (l : Launch) (g : zL) (x1 : Int32) (hy0 : 0 ≤ x1.toInt ∧ x1.toInt ≤ 3) : zCi l g yJ0_charAt_5068e cJ0_charAt_5068e 2 (some .char) rm_kJ0_charAt_5068e_11 [.ref (g.2.2.1 11), .int x1] [] (fun (r : Int32) (u : Unit) => (pChr r)) (fun (u : Unit) => []) := by
  refine zCi.mk2 (by decide) (Nat.le_of_ble_eq_true rfl) ?_
  intro p e s m below meth c A args Q hE hret hP hD hS ls hl
  obtain ⟨hx, hb, hr, hml, hown, hG, hlocks, hnm, hX, hA⟩ := hE
  have hown : s.vm.findClass RJ0 = some m.cls := hown
  have hl : lv_has ls 2 [(0, .ref (g.2.2.1 11)), (1, .int x1)] := hl
  refine lv_aload_n hx hb dJ0_charAt_5068e_0 rfl (lv_at hl 0 rfl) ?_
  refine zfi (wr := []) (va_runV (As := []) (rest := []) ⟨hx, hb, hml, hown, hG⟩ (kJ0_isLatin1_aae02_11 l g _) ⟨callB_of 0 hG (zGood wc_J0_isLatin1_aae02) rfl rfl rfl (hG _ wini_J0) (hG _ wm_J0_492) hJ0_isLatin1_aae02 ⟨Nat.le_of_ble_eq_true rfl, Nat.le_of_ble_eq_true rfl⟩, hG _ wi_J0_isLatin1_aae02, hG _ wse_J0_J0_isLatin1_aae02⟩ (zpreV (vk_recv hX.2.2.2.1 (by decide) hS) hX hP hD hS hA [] rfl (by decide)) rfl rfl hl.1 rfl (lv_room (Nat.le_of_ble_eq_true rfl)) dJ0_charAt_5068e_1 ⟨Nat.le_of_ble_eq_true rfl, Nat.le_of_ble_eq_true rfl⟩) hP hD hS hA [] [] rfl rfl (by decide) (by decide) (fun r1 _ H locs hp hP hD hS => ?_)
  refine W.cs (cells' := 0) (slots' := 0) rfl rfl ?_
  have hq2 : r1 = (1 : Int32) := hp
  subst hq2
  have hP : va_P g.1 vwCl [] H := hP
  have hD : va_D A [] := hD
  refine lv_if_eq (tgt := 16) hx hb dJ0_charAt_5068e_4 (by decide) (fun c3 => absurd c3 (by decide)) (fun c3 => ?_)
  refine lv_aload_n hx hb dJ0_charAt_5068e_7 rfl (lv_at hl 0 rfl) ?_
  refine vk_getf (v := .ref (g.2.2.2.1 11)) hx hb (hX.2.2.2.1.1 11 (by decide)).2.2.1 hS hown (hG _ wf_J0_9) (fun _ h9 => h9) dJ0_charAt_5068e_8 ?_
  refine lv_iload_n hx hb dJ0_charAt_5068e_11 rfl (lv_at hl 1 rfl) ?_
  refine zfi (wr := []) (va_runS (As := [.ref (g.2.2.2.1 11), .int x1]) (rest := []) ⟨hx, hb, hml, hown, hG⟩ (kJ1_charAt_3b067_11 l g x1 (ox_449 hy0) _) ⟨callB_of 2 hG (zGood wc_J1_charAt_3b067) rfl rfl rfl (hG _ wini_J1) (hG _ wm_J0_495) hJ1_charAt_3b067 ⟨Nat.le_of_ble_eq_true rfl, Nat.le_of_ble_eq_true rfl⟩, hG _ ws_J1_charAt_3b067⟩ (zpreS hX hP hD hS hA [] rfl (by decide)) rfl rfl hl.1 rfl (lv_room (Nat.le_of_ble_eq_true rfl)) dJ0_charAt_5068e_12 ⟨Nat.le_of_ble_eq_true rfl, Nat.le_of_ble_eq_true rfl⟩) hP hD hS hA [] [] rfl rfl (by decide) (by decide) (fun r4 _ H locs hp hP hD hS => ?_)
  refine W.cs (cells' := 0) (slots' := 0) rfl rfl ?_
  have hq5 : pChr r4 := hp
  have hP : va_P g.1 vwCl [] H := hP
  have hD : va_D A [] := hD
  exact hret r4 () (Nat.le_of_ble_eq_true rfl) (Nat.le_of_ble_eq_true rfl) hq5 (hq5) hP hD hS dJ0_charAt_5068e_15
abbrev rm_kJ0_coder_7d493_12 : Room := { frames := 0, cells := 0, slots := 0, locals := 0 }
set_option maxHeartbeats 4000000 in
set_option maxRecDepth 100000 in
theorem kJ0_coder_7d493_12 (l : Launch) (g : zL) : zCi l g yJ0_coder_7d493 cJ0_coder_7d493 1 (some .byte) rm_kJ0_coder_7d493_12 [.ref (g.2.2.1 12)] [] (fun (r : Int32) (u : Unit) => (r = (0 : Int32))) (fun (u : Unit) => []) := by
  refine zCi.mk2 (by decide) (Nat.le_of_ble_eq_true rfl) ?_
  intro p e s m below meth c A args Q hE hret hP hD hS ls hl
  obtain ⟨hx, hb, hr, hml, hown, hG, hlocks, hnm, hX, hA⟩ := hE
  have hown : s.vm.findClass RJ0 = some m.cls := hown
  have hl : lv_has ls 1 [(0, .ref (g.2.2.1 12))] := hl
  refine va_gets hx hb hX.2.2.2.2.1 hS hown (hG _ wf_J0_38) (fun _ h9 => h9) dJ0_coder_7d493_0 ?_
  refine lv_if_eq (tgt := 13) hx hb dJ0_coder_7d493_3 (by decide) (fun c1 => absurd c1 (by decide)) (fun c1 => ?_)
  refine lv_aload_n hx hb dJ0_coder_7d493_6 rfl (lv_at hl 0 rfl) ?_
  refine vk_getf (v := .int 0) hx hb (hX.2.2.2.1.1 12 (by decide)).2.1 hS hown (hG _ wf_J0_15) (fun _ h9 => h9) dJ0_coder_7d493_7 ?_
  refine lv_goto (tgt := 14) hx hb dJ0_coder_7d493_10 (by decide) ?_
  exact hret (0 : Int32) () (Nat.le_of_ble_eq_true rfl) (Nat.le_of_ble_eq_true rfl) rfl (rfl) hP hD hS dJ0_coder_7d493_14
abbrev rm_kJ0_isLatin1_aae02_12 : Room := { frames := 0, cells := 0, slots := 0, locals := 0 }
set_option maxHeartbeats 4000000 in
set_option maxRecDepth 100000 in
theorem kJ0_isLatin1_aae02_12 (l : Launch) (g : zL) : zCi l g yJ0_isLatin1_aae02 cJ0_isLatin1_aae02 1 (some .boolean) rm_kJ0_isLatin1_aae02_12 [.ref (g.2.2.1 12)] [] (fun (r : Int32) (u : Unit) => (r = (1 : Int32))) (fun (u : Unit) => []) := by
  refine zCi.mk2 (by decide) (Nat.le_of_ble_eq_true rfl) ?_
  intro p e s m below meth c A args Q hE hret hP hD hS ls hl
  obtain ⟨hx, hb, hr, hml, hown, hG, hlocks, hnm, hX, hA⟩ := hE
  have hown : s.vm.findClass RJ0 = some m.cls := hown
  have hl : lv_has ls 1 [(0, .ref (g.2.2.1 12))] := hl
  refine va_gets hx hb hX.2.2.2.2.1 hS hown (hG _ wf_J0_38) (fun _ h9 => h9) dJ0_isLatin1_aae02_0 ?_
  refine lv_if_eq (tgt := 17) hx hb dJ0_isLatin1_aae02_3 (by decide) (fun c1 => absurd c1 (by decide)) (fun c1 => ?_)
  refine lv_aload_n hx hb dJ0_isLatin1_aae02_6 rfl (lv_at hl 0 rfl) ?_
  refine vk_getf (v := .int 0) hx hb (hX.2.2.2.1.1 12 (by decide)).2.1 hS hown (hG _ wf_J0_15) (fun _ h9 => h9) dJ0_isLatin1_aae02_7 ?_
  refine lv_if_ne (tgt := 17) hx hb dJ0_isLatin1_aae02_10 (by decide) (fun c2 => (c2 (by decide)).elim) (fun c2 => ?_)
  refine lv_iconst (v := 1) hx hb dJ0_isLatin1_aae02_13 (by decide) ?_
  refine lv_goto (tgt := 18) hx hb dJ0_isLatin1_aae02_14 (by decide) ?_
  exact hret (1 : Int32) () (Nat.le_of_ble_eq_true rfl) (Nat.le_of_ble_eq_true rfl) rfl (rfl) hP hD hS dJ0_isLatin1_aae02_18
abbrev rm_kJ0_length_8abf5_12 : Room := { frames := 1, cells := 0, slots := 0, locals := 20 }
set_option maxHeartbeats 4000000 in
set_option maxRecDepth 100000 in
theorem kJ0_length_8abf5_12 (l : Launch) (g : zL) : zCi l g yJ0_length_8abf5 cJ0_length_8abf5 1 (some .int) rm_kJ0_length_8abf5_12 [.ref (g.2.2.1 12)] [] (fun (r : Int32) (u : Unit) => (r = (5 : Int32))) (fun (u : Unit) => []) := by
  refine zCi.mk2 (by decide) (Nat.le_of_ble_eq_true rfl) ?_
  intro p e s m below meth c A args Q hE hret hP hD hS ls hl
  obtain ⟨hx, hb, hr, hml, hown, hG, hlocks, hnm, hX, hA⟩ := hE
  have hown : s.vm.findClass RJ0 = some m.cls := hown
  have hl : lv_has ls 1 [(0, .ref (g.2.2.1 12))] := hl
  refine lv_aload_n hx hb dJ0_length_8abf5_0 rfl (lv_at hl 0 rfl) ?_
  refine vk_getf (v := .ref (g.2.2.2.1 12)) hx hb (hX.2.2.2.1.1 12 (by decide)).2.2.1 hS hown (hG _ wf_J0_9) (fun _ h9 => h9) dJ0_length_8abf5_1 ?_
  refine va_tlen (v := 5) hx hb (hX.2.2.2.1.1 12 (by decide)).2.2.2 hS (by decide) dJ0_length_8abf5_4 ?_
  refine lv_aload_n hx hb dJ0_length_8abf5_5 rfl (lv_at hl 0 rfl) ?_
  refine zfi (wr := []) (va_runV (As := []) (rest := [.int 5]) ⟨hx, hb, hml, hown, hG⟩ (kJ0_coder_7d493_12 l g _) ⟨callB_of 0 hG (zGood wc_J0_coder_7d493) rfl rfl rfl (hG _ wini_J0) (hG _ wm_J0_335) hJ0_coder_7d493 ⟨Nat.le_of_ble_eq_true rfl, Nat.le_of_ble_eq_true rfl⟩, hG _ wi_J0_coder_7d493, hG _ wse_J0_J0_coder_7d493⟩ (zpreV (vk_recv hX.2.2.2.1 (by decide) hS) hX hP hD hS hA [] rfl (by decide)) rfl rfl hl.1 rfl (lv_room (Nat.le_of_ble_eq_true rfl)) dJ0_length_8abf5_6 ⟨Nat.le_of_ble_eq_true rfl, Nat.le_of_ble_eq_true rfl⟩) hP hD hS hA [] [] rfl rfl (by decide) (by decide) (fun r1 _ H locs hp hP hD hS => ?_)
  refine W.cs (cells' := 0) (slots' := 0) rfl rfl ?_
  have hq2 : r1 = (0 : Int32) := hp
  subst hq2
  have hP : va_P g.1 vwCl [] H := hP
  have hD : va_D A [] := hD
  refine lv_ishr hx hb dJ0_length_8abf5_9 ?_
  refine zt (z := 5) (by decide) ?_
  exact hret (5 : Int32) () (Nat.le_of_ble_eq_true rfl) (Nat.le_of_ble_eq_true rfl) rfl (rfl) hP hD hS dJ0_length_8abf5_10
abbrev rm_kJ1_charAt_3b067_12 : Room := { frames := 2, cells := 0, slots := 0, locals := 43 }
set_option maxHeartbeats 4000000 in
set_option maxRecDepth 100000 in
theorem kJ1_charAt_3b067_12 (l : Launch) (g : zL) (x2 : Int32) (hy0 : 0 ≤ x2.toInt ∧ x2.toInt ≤ 4) : zCi l g yJ1_charAt_3b067 cJ1_charAt_3b067 2 (some .char) rm_kJ1_charAt_3b067_12 [.ref (g.2.2.2.1 12), .int x2] [] (fun (r : Int32) (u : Unit) => (pChr r)) (fun (u : Unit) => []) := by
  refine zCi.mk2 (by decide) (Nat.le_of_ble_eq_true rfl) ?_
  intro p e s m below meth c A args Q hE hret hP hD hS ls hl
  obtain ⟨hx, hb, hr, hml, hown, hG, hlocks, hnm, hX, hA⟩ := hE
  have hown : s.vm.findClass RJ1 = some m.cls := hown
  have hl : lv_has ls 2 [(0, .ref (g.2.2.2.1 12)), (1, .int x2)] := hl
  refine lv_iload_n hx hb dJ1_charAt_3b067_0 rfl (lv_at hl 1 rfl) ?_
  refine lv_aload_n hx hb dJ1_charAt_3b067_1 rfl (lv_at hl 0 rfl) ?_
  refine va_tlen (v := 5) hx hb (hX.2.2.2.1.1 12 (by decide)).2.2.2 hS (by decide) dJ1_charAt_3b067_2 ?_
  refine zfv (wr := []) (va_runS (As := [.int x2, .int 5]) (rest := []) ⟨hx, hb, hml, hown, hG⟩ (kJ0_checkIndex_df160 l g x2 (5 : Int32) (ox_442 hy0) ((show 0 ≤ (5 : Int) ∧ (5 : Int) ≤ 200 from by decide)) (ox_443 hy0) _) ⟨callB_of 2 hG (zGood wc_J0_checkIndex_df160) rfl rfl rfl (hG _ wini_J0) (hG _ wm_J1_9) hJ0_checkIndex_df160 ⟨Nat.le_of_ble_eq_true rfl, Nat.le_of_ble_eq_true rfl⟩, hG _ ws_J0_checkIndex_df160⟩ (zpreS hX hP hD hS hA [] rfl (by decide)) rfl rfl hl.1 rfl (lv_room (Nat.le_of_ble_eq_true rfl)) dJ1_charAt_3b067_3 ⟨Nat.le_of_ble_eq_true rfl, Nat.le_of_ble_eq_true rfl⟩) hP hD hS hA [] [] rfl rfl (by decide) (by decide) (fun _ H locs hp hP hD hS => ?_)
  refine W.cs (cells' := 0) (slots' := 0) rfl rfl ?_
  have hP : va_P g.1 vwCl [] H := hP
  have hD : va_D A [] := hD
  refine lv_aload_n hx hb dJ1_charAt_3b067_6 rfl (lv_at hl 0 rfl) ?_
  refine lv_iload_n hx hb dJ1_charAt_3b067_7 rfl (lv_at hl 1 rfl) ?_
  refine va_tb hx hb (hX.2.2.2.1.1 12 (by decide)).2.2.2 hS (zin (rfl : x2.toInt = _) (ox_444 hy0)) rfl dJ1_charAt_3b067_8 ?_
  refine lv_topi (fun z2 e3 => ?_)
  refine lv_sipush (v := 255) hx hb dJ1_charAt_3b067_9 (by decide) ?_
  refine lv_iand hx hb dJ1_charAt_3b067_12 ?_
  refine lv_topi (fun z4 e5 => ?_)
  have f6 : 0 ≤ z4.toInt ∧ z4.toInt ≤ (255 : Int) := zand e5 (show (255 : Int32).toInt = (255 : Int) from by decide) ((show 0 ≤ (255 : Int) from by decide))
  refine lv_i2c (v := (z4.toUInt32 % 65536).toInt32) hx hb dJ1_charAt_3b067_13 rfl ?_
  refine lv_topi (fun z7 e8 => ?_)
  exact hret z7 () (Nat.le_of_ble_eq_true rfl) (Nat.le_of_ble_eq_true rfl) (pChr.of e8) ((pChr.of e8)) hP hD hS dJ1_charAt_3b067_14
abbrev rm_kJ0_charAt_5068e_12 : Room := { frames := 3, cells := 0, slots := 0, locals := 64 }
set_option maxHeartbeats 4000000 in
set_option maxRecDepth 100000 in
theorem kJ0_charAt_5068e_12 (l : Launch) (g : zL) (x1 : Int32) (hy0 : 0 ≤ x1.toInt ∧ x1.toInt ≤ 4) : zCi l g yJ0_charAt_5068e cJ0_charAt_5068e 2 (some .char) rm_kJ0_charAt_5068e_12 [.ref (g.2.2.1 12), .int x1] [] (fun (r : Int32) (u : Unit) => (pChr r)) (fun (u : Unit) => []) := by
  refine zCi.mk2 (by decide) (Nat.le_of_ble_eq_true rfl) ?_
  intro p e s m below meth c A args Q hE hret hP hD hS ls hl
  obtain ⟨hx, hb, hr, hml, hown, hG, hlocks, hnm, hX, hA⟩ := hE
  have hown : s.vm.findClass RJ0 = some m.cls := hown
  have hl : lv_has ls 2 [(0, .ref (g.2.2.1 12)), (1, .int x1)] := hl
  refine lv_aload_n hx hb dJ0_charAt_5068e_0 rfl (lv_at hl 0 rfl) ?_
  refine zfi (wr := []) (va_runV (As := []) (rest := []) ⟨hx, hb, hml, hown, hG⟩ (kJ0_isLatin1_aae02_12 l g _) ⟨callB_of 0 hG (zGood wc_J0_isLatin1_aae02) rfl rfl rfl (hG _ wini_J0) (hG _ wm_J0_492) hJ0_isLatin1_aae02 ⟨Nat.le_of_ble_eq_true rfl, Nat.le_of_ble_eq_true rfl⟩, hG _ wi_J0_isLatin1_aae02, hG _ wse_J0_J0_isLatin1_aae02⟩ (zpreV (vk_recv hX.2.2.2.1 (by decide) hS) hX hP hD hS hA [] rfl (by decide)) rfl rfl hl.1 rfl (lv_room (Nat.le_of_ble_eq_true rfl)) dJ0_charAt_5068e_1 ⟨Nat.le_of_ble_eq_true rfl, Nat.le_of_ble_eq_true rfl⟩) hP hD hS hA [] [] rfl rfl (by decide) (by decide) (fun r1 _ H locs hp hP hD hS => ?_)
  refine W.cs (cells' := 0) (slots' := 0) rfl rfl ?_
  have hq2 : r1 = (1 : Int32) := hp
  subst hq2
  have hP : va_P g.1 vwCl [] H := hP
  have hD : va_D A [] := hD
  refine lv_if_eq (tgt := 16) hx hb dJ0_charAt_5068e_4 (by decide) (fun c3 => absurd c3 (by decide)) (fun c3 => ?_)
  refine lv_aload_n hx hb dJ0_charAt_5068e_7 rfl (lv_at hl 0 rfl) ?_
  refine vk_getf (v := .ref (g.2.2.2.1 12)) hx hb (hX.2.2.2.1.1 12 (by decide)).2.2.1 hS hown (hG _ wf_J0_9) (fun _ h9 => h9) dJ0_charAt_5068e_8 ?_
  refine lv_iload_n hx hb dJ0_charAt_5068e_11 rfl (lv_at hl 1 rfl) ?_
  refine zfi (wr := []) (va_runS (As := [.ref (g.2.2.2.1 12), .int x1]) (rest := []) ⟨hx, hb, hml, hown, hG⟩ (kJ1_charAt_3b067_12 l g x1 (ox_445 hy0) _) ⟨callB_of 2 hG (zGood wc_J1_charAt_3b067) rfl rfl rfl (hG _ wini_J1) (hG _ wm_J0_495) hJ1_charAt_3b067 ⟨Nat.le_of_ble_eq_true rfl, Nat.le_of_ble_eq_true rfl⟩, hG _ ws_J1_charAt_3b067⟩ (zpreS hX hP hD hS hA [] rfl (by decide)) rfl rfl hl.1 rfl (lv_room (Nat.le_of_ble_eq_true rfl)) dJ0_charAt_5068e_12 ⟨Nat.le_of_ble_eq_true rfl, Nat.le_of_ble_eq_true rfl⟩) hP hD hS hA [] [] rfl rfl (by decide) (by decide) (fun r4 _ H locs hp hP hD hS => ?_)
  refine W.cs (cells' := 0) (slots' := 0) rfl rfl ?_
  have hq5 : pChr r4 := hp
  have hP : va_P g.1 vwCl [] H := hP
  have hD : va_D A [] := hD
  exact hret r4 () (Nat.le_of_ble_eq_true rfl) (Nat.le_of_ble_eq_true rfl) hq5 (hq5) hP hD hS dJ0_charAt_5068e_15
abbrev rm_kJ0_coder_7d493_13 : Room := { frames := 0, cells := 0, slots := 0, locals := 0 }
set_option maxHeartbeats 4000000 in
set_option maxRecDepth 100000 in
theorem kJ0_coder_7d493_13 (l : Launch) (g : zL) : zCi l g yJ0_coder_7d493 cJ0_coder_7d493 1 (some .byte) rm_kJ0_coder_7d493_13 [.ref (g.2.2.1 13)] [] (fun (r : Int32) (u : Unit) => (r = (0 : Int32))) (fun (u : Unit) => []) := by
  refine zCi.mk2 (by decide) (Nat.le_of_ble_eq_true rfl) ?_
  intro p e s m below meth c A args Q hE hret hP hD hS ls hl
  obtain ⟨hx, hb, hr, hml, hown, hG, hlocks, hnm, hX, hA⟩ := hE
  have hown : s.vm.findClass RJ0 = some m.cls := hown
  have hl : lv_has ls 1 [(0, .ref (g.2.2.1 13))] := hl
  refine va_gets hx hb hX.2.2.2.2.1 hS hown (hG _ wf_J0_38) (fun _ h9 => h9) dJ0_coder_7d493_0 ?_
  refine lv_if_eq (tgt := 13) hx hb dJ0_coder_7d493_3 (by decide) (fun c1 => absurd c1 (by decide)) (fun c1 => ?_)
  refine lv_aload_n hx hb dJ0_coder_7d493_6 rfl (lv_at hl 0 rfl) ?_
  refine vk_getf (v := .int 0) hx hb (hX.2.2.2.1.1 13 (by decide)).2.1 hS hown (hG _ wf_J0_15) (fun _ h9 => h9) dJ0_coder_7d493_7 ?_
  refine lv_goto (tgt := 14) hx hb dJ0_coder_7d493_10 (by decide) ?_
  exact hret (0 : Int32) () (Nat.le_of_ble_eq_true rfl) (Nat.le_of_ble_eq_true rfl) rfl (rfl) hP hD hS dJ0_coder_7d493_14
abbrev rm_kJ0_isLatin1_aae02_13 : Room := { frames := 0, cells := 0, slots := 0, locals := 0 }
set_option maxHeartbeats 4000000 in
set_option maxRecDepth 100000 in
theorem kJ0_isLatin1_aae02_13 (l : Launch) (g : zL) : zCi l g yJ0_isLatin1_aae02 cJ0_isLatin1_aae02 1 (some .boolean) rm_kJ0_isLatin1_aae02_13 [.ref (g.2.2.1 13)] [] (fun (r : Int32) (u : Unit) => (r = (1 : Int32))) (fun (u : Unit) => []) := by
  refine zCi.mk2 (by decide) (Nat.le_of_ble_eq_true rfl) ?_
  intro p e s m below meth c A args Q hE hret hP hD hS ls hl
  obtain ⟨hx, hb, hr, hml, hown, hG, hlocks, hnm, hX, hA⟩ := hE
  have hown : s.vm.findClass RJ0 = some m.cls := hown
  have hl : lv_has ls 1 [(0, .ref (g.2.2.1 13))] := hl
  refine va_gets hx hb hX.2.2.2.2.1 hS hown (hG _ wf_J0_38) (fun _ h9 => h9) dJ0_isLatin1_aae02_0 ?_
  refine lv_if_eq (tgt := 17) hx hb dJ0_isLatin1_aae02_3 (by decide) (fun c1 => absurd c1 (by decide)) (fun c1 => ?_)
  refine lv_aload_n hx hb dJ0_isLatin1_aae02_6 rfl (lv_at hl 0 rfl) ?_
  refine vk_getf (v := .int 0) hx hb (hX.2.2.2.1.1 13 (by decide)).2.1 hS hown (hG _ wf_J0_15) (fun _ h9 => h9) dJ0_isLatin1_aae02_7 ?_
  refine lv_if_ne (tgt := 17) hx hb dJ0_isLatin1_aae02_10 (by decide) (fun c2 => (c2 (by decide)).elim) (fun c2 => ?_)
  refine lv_iconst (v := 1) hx hb dJ0_isLatin1_aae02_13 (by decide) ?_
  refine lv_goto (tgt := 18) hx hb dJ0_isLatin1_aae02_14 (by decide) ?_
  exact hret (1 : Int32) () (Nat.le_of_ble_eq_true rfl) (Nat.le_of_ble_eq_true rfl) rfl (rfl) hP hD hS dJ0_isLatin1_aae02_18
abbrev rm_kJ0_length_8abf5_13 : Room := { frames := 1, cells := 0, slots := 0, locals := 20 }
set_option maxHeartbeats 4000000 in
set_option maxRecDepth 100000 in
theorem kJ0_length_8abf5_13 (l : Launch) (g : zL) : zCi l g yJ0_length_8abf5 cJ0_length_8abf5 1 (some .int) rm_kJ0_length_8abf5_13 [.ref (g.2.2.1 13)] [] (fun (r : Int32) (u : Unit) => (r = (4 : Int32))) (fun (u : Unit) => []) := by
  refine zCi.mk2 (by decide) (Nat.le_of_ble_eq_true rfl) ?_
  intro p e s m below meth c A args Q hE hret hP hD hS ls hl
  obtain ⟨hx, hb, hr, hml, hown, hG, hlocks, hnm, hX, hA⟩ := hE
  have hown : s.vm.findClass RJ0 = some m.cls := hown
  have hl : lv_has ls 1 [(0, .ref (g.2.2.1 13))] := hl
  refine lv_aload_n hx hb dJ0_length_8abf5_0 rfl (lv_at hl 0 rfl) ?_
  refine vk_getf (v := .ref (g.2.2.2.1 13)) hx hb (hX.2.2.2.1.1 13 (by decide)).2.2.1 hS hown (hG _ wf_J0_9) (fun _ h9 => h9) dJ0_length_8abf5_1 ?_
  refine va_tlen (v := 4) hx hb (hX.2.2.2.1.1 13 (by decide)).2.2.2 hS (by decide) dJ0_length_8abf5_4 ?_
  refine lv_aload_n hx hb dJ0_length_8abf5_5 rfl (lv_at hl 0 rfl) ?_
  refine zfi (wr := []) (va_runV (As := []) (rest := [.int 4]) ⟨hx, hb, hml, hown, hG⟩ (kJ0_coder_7d493_13 l g _) ⟨callB_of 0 hG (zGood wc_J0_coder_7d493) rfl rfl rfl (hG _ wini_J0) (hG _ wm_J0_335) hJ0_coder_7d493 ⟨Nat.le_of_ble_eq_true rfl, Nat.le_of_ble_eq_true rfl⟩, hG _ wi_J0_coder_7d493, hG _ wse_J0_J0_coder_7d493⟩ (zpreV (vk_recv hX.2.2.2.1 (by decide) hS) hX hP hD hS hA [] rfl (by decide)) rfl rfl hl.1 rfl (lv_room (Nat.le_of_ble_eq_true rfl)) dJ0_length_8abf5_6 ⟨Nat.le_of_ble_eq_true rfl, Nat.le_of_ble_eq_true rfl⟩) hP hD hS hA [] [] rfl rfl (by decide) (by decide) (fun r1 _ H locs hp hP hD hS => ?_)
  refine W.cs (cells' := 0) (slots' := 0) rfl rfl ?_
  have hq2 : r1 = (0 : Int32) := hp
  subst hq2
  have hP : va_P g.1 vwCl [] H := hP
  have hD : va_D A [] := hD
  refine lv_ishr hx hb dJ0_length_8abf5_9 ?_
  refine zt (z := 4) (by decide) ?_
  exact hret (4 : Int32) () (Nat.le_of_ble_eq_true rfl) (Nat.le_of_ble_eq_true rfl) rfl (rfl) hP hD hS dJ0_length_8abf5_10
abbrev rm_kJ1_charAt_3b067_13 : Room := { frames := 2, cells := 0, slots := 0, locals := 43 }
set_option maxHeartbeats 4000000 in
set_option maxRecDepth 100000 in
theorem kJ1_charAt_3b067_13 (l : Launch) (g : zL) (x2 : Int32) (hy0 : 0 ≤ x2.toInt ∧ x2.toInt ≤ 3) : zCi l g yJ1_charAt_3b067 cJ1_charAt_3b067 2 (some .char) rm_kJ1_charAt_3b067_13 [.ref (g.2.2.2.1 13), .int x2] [] (fun (r : Int32) (u : Unit) => (pChr r)) (fun (u : Unit) => []) := by
  refine zCi.mk2 (by decide) (Nat.le_of_ble_eq_true rfl) ?_
  intro p e s m below meth c A args Q hE hret hP hD hS ls hl
  obtain ⟨hx, hb, hr, hml, hown, hG, hlocks, hnm, hX, hA⟩ := hE
  have hown : s.vm.findClass RJ1 = some m.cls := hown
  have hl : lv_has ls 2 [(0, .ref (g.2.2.2.1 13)), (1, .int x2)] := hl
  refine lv_iload_n hx hb dJ1_charAt_3b067_0 rfl (lv_at hl 1 rfl) ?_
  refine lv_aload_n hx hb dJ1_charAt_3b067_1 rfl (lv_at hl 0 rfl) ?_
  refine va_tlen (v := 4) hx hb (hX.2.2.2.1.1 13 (by decide)).2.2.2 hS (by decide) dJ1_charAt_3b067_2 ?_
  refine zfv (wr := []) (va_runS (As := [.int x2, .int 4]) (rest := []) ⟨hx, hb, hml, hown, hG⟩ (kJ0_checkIndex_df160 l g x2 (4 : Int32) (ox_446 hy0) ((show 0 ≤ (4 : Int) ∧ (4 : Int) ≤ 200 from by decide)) (ox_447 hy0) _) ⟨callB_of 2 hG (zGood wc_J0_checkIndex_df160) rfl rfl rfl (hG _ wini_J0) (hG _ wm_J1_9) hJ0_checkIndex_df160 ⟨Nat.le_of_ble_eq_true rfl, Nat.le_of_ble_eq_true rfl⟩, hG _ ws_J0_checkIndex_df160⟩ (zpreS hX hP hD hS hA [] rfl (by decide)) rfl rfl hl.1 rfl (lv_room (Nat.le_of_ble_eq_true rfl)) dJ1_charAt_3b067_3 ⟨Nat.le_of_ble_eq_true rfl, Nat.le_of_ble_eq_true rfl⟩) hP hD hS hA [] [] rfl rfl (by decide) (by decide) (fun _ H locs hp hP hD hS => ?_)
  refine W.cs (cells' := 0) (slots' := 0) rfl rfl ?_
  have hP : va_P g.1 vwCl [] H := hP
  have hD : va_D A [] := hD
  refine lv_aload_n hx hb dJ1_charAt_3b067_6 rfl (lv_at hl 0 rfl) ?_
  refine lv_iload_n hx hb dJ1_charAt_3b067_7 rfl (lv_at hl 1 rfl) ?_
  refine va_tb hx hb (hX.2.2.2.1.1 13 (by decide)).2.2.2 hS (zin (rfl : x2.toInt = _) (ox_448 hy0)) rfl dJ1_charAt_3b067_8 ?_
  refine lv_topi (fun z2 e3 => ?_)
  refine lv_sipush (v := 255) hx hb dJ1_charAt_3b067_9 (by decide) ?_
  refine lv_iand hx hb dJ1_charAt_3b067_12 ?_
  refine lv_topi (fun z4 e5 => ?_)
  have f6 : 0 ≤ z4.toInt ∧ z4.toInt ≤ (255 : Int) := zand e5 (show (255 : Int32).toInt = (255 : Int) from by decide) ((show 0 ≤ (255 : Int) from by decide))
  refine lv_i2c (v := (z4.toUInt32 % 65536).toInt32) hx hb dJ1_charAt_3b067_13 rfl ?_
  refine lv_topi (fun z7 e8 => ?_)
  exact hret z7 () (Nat.le_of_ble_eq_true rfl) (Nat.le_of_ble_eq_true rfl) (pChr.of e8) ((pChr.of e8)) hP hD hS dJ1_charAt_3b067_14
abbrev rm_kJ0_charAt_5068e_13 : Room := { frames := 3, cells := 0, slots := 0, locals := 64 }
set_option maxHeartbeats 4000000 in
set_option maxRecDepth 100000 in
theorem kJ0_charAt_5068e_13 (l : Launch) (g : zL) (x1 : Int32) (hy0 : 0 ≤ x1.toInt ∧ x1.toInt ≤ 3) : zCi l g yJ0_charAt_5068e cJ0_charAt_5068e 2 (some .char) rm_kJ0_charAt_5068e_13 [.ref (g.2.2.1 13), .int x1] [] (fun (r : Int32) (u : Unit) => (pChr r)) (fun (u : Unit) => []) := by
  refine zCi.mk2 (by decide) (Nat.le_of_ble_eq_true rfl) ?_
  intro p e s m below meth c A args Q hE hret hP hD hS ls hl
  obtain ⟨hx, hb, hr, hml, hown, hG, hlocks, hnm, hX, hA⟩ := hE
  have hown : s.vm.findClass RJ0 = some m.cls := hown
  have hl : lv_has ls 2 [(0, .ref (g.2.2.1 13)), (1, .int x1)] := hl
  refine lv_aload_n hx hb dJ0_charAt_5068e_0 rfl (lv_at hl 0 rfl) ?_
  refine zfi (wr := []) (va_runV (As := []) (rest := []) ⟨hx, hb, hml, hown, hG⟩ (kJ0_isLatin1_aae02_13 l g _) ⟨callB_of 0 hG (zGood wc_J0_isLatin1_aae02) rfl rfl rfl (hG _ wini_J0) (hG _ wm_J0_492) hJ0_isLatin1_aae02 ⟨Nat.le_of_ble_eq_true rfl, Nat.le_of_ble_eq_true rfl⟩, hG _ wi_J0_isLatin1_aae02, hG _ wse_J0_J0_isLatin1_aae02⟩ (zpreV (vk_recv hX.2.2.2.1 (by decide) hS) hX hP hD hS hA [] rfl (by decide)) rfl rfl hl.1 rfl (lv_room (Nat.le_of_ble_eq_true rfl)) dJ0_charAt_5068e_1 ⟨Nat.le_of_ble_eq_true rfl, Nat.le_of_ble_eq_true rfl⟩) hP hD hS hA [] [] rfl rfl (by decide) (by decide) (fun r1 _ H locs hp hP hD hS => ?_)
  refine W.cs (cells' := 0) (slots' := 0) rfl rfl ?_
  have hq2 : r1 = (1 : Int32) := hp
  subst hq2
  have hP : va_P g.1 vwCl [] H := hP
  have hD : va_D A [] := hD
  refine lv_if_eq (tgt := 16) hx hb dJ0_charAt_5068e_4 (by decide) (fun c3 => absurd c3 (by decide)) (fun c3 => ?_)
  refine lv_aload_n hx hb dJ0_charAt_5068e_7 rfl (lv_at hl 0 rfl) ?_
  refine vk_getf (v := .ref (g.2.2.2.1 13)) hx hb (hX.2.2.2.1.1 13 (by decide)).2.2.1 hS hown (hG _ wf_J0_9) (fun _ h9 => h9) dJ0_charAt_5068e_8 ?_
  refine lv_iload_n hx hb dJ0_charAt_5068e_11 rfl (lv_at hl 1 rfl) ?_
  refine zfi (wr := []) (va_runS (As := [.ref (g.2.2.2.1 13), .int x1]) (rest := []) ⟨hx, hb, hml, hown, hG⟩ (kJ1_charAt_3b067_13 l g x1 (ox_449 hy0) _) ⟨callB_of 2 hG (zGood wc_J1_charAt_3b067) rfl rfl rfl (hG _ wini_J1) (hG _ wm_J0_495) hJ1_charAt_3b067 ⟨Nat.le_of_ble_eq_true rfl, Nat.le_of_ble_eq_true rfl⟩, hG _ ws_J1_charAt_3b067⟩ (zpreS hX hP hD hS hA [] rfl (by decide)) rfl rfl hl.1 rfl (lv_room (Nat.le_of_ble_eq_true rfl)) dJ0_charAt_5068e_12 ⟨Nat.le_of_ble_eq_true rfl, Nat.le_of_ble_eq_true rfl⟩) hP hD hS hA [] [] rfl rfl (by decide) (by decide) (fun r4 _ H locs hp hP hD hS => ?_)
  refine W.cs (cells' := 0) (slots' := 0) rfl rfl ?_
  have hq5 : pChr r4 := hp
  have hP : va_P g.1 vwCl [] H := hP
  have hD : va_D A [] := hD
  exact hret r4 () (Nat.le_of_ble_eq_true rfl) (Nat.le_of_ble_eq_true rfl) hq5 (hq5) hP hD hS dJ0_charAt_5068e_15
abbrev rm_kJ0_coder_7d493_14 : Room := { frames := 0, cells := 0, slots := 0, locals := 0 }
set_option maxHeartbeats 4000000 in
set_option maxRecDepth 100000 in
theorem kJ0_coder_7d493_14 (l : Launch) (g : zL) : zCi l g yJ0_coder_7d493 cJ0_coder_7d493 1 (some .byte) rm_kJ0_coder_7d493_14 [.ref (g.2.2.1 14)] [] (fun (r : Int32) (u : Unit) => (r = (0 : Int32))) (fun (u : Unit) => []) := by
  refine zCi.mk2 (by decide) (Nat.le_of_ble_eq_true rfl) ?_
  intro p e s m below meth c A args Q hE hret hP hD hS ls hl
  obtain ⟨hx, hb, hr, hml, hown, hG, hlocks, hnm, hX, hA⟩ := hE
  have hown : s.vm.findClass RJ0 = some m.cls := hown
  have hl : lv_has ls 1 [(0, .ref (g.2.2.1 14))] := hl
  refine va_gets hx hb hX.2.2.2.2.1 hS hown (hG _ wf_J0_38) (fun _ h9 => h9) dJ0_coder_7d493_0 ?_
  refine lv_if_eq (tgt := 13) hx hb dJ0_coder_7d493_3 (by decide) (fun c1 => absurd c1 (by decide)) (fun c1 => ?_)
  refine lv_aload_n hx hb dJ0_coder_7d493_6 rfl (lv_at hl 0 rfl) ?_
  refine vk_getf (v := .int 0) hx hb (hX.2.2.2.1.1 14 (by decide)).2.1 hS hown (hG _ wf_J0_15) (fun _ h9 => h9) dJ0_coder_7d493_7 ?_
  refine lv_goto (tgt := 14) hx hb dJ0_coder_7d493_10 (by decide) ?_
  exact hret (0 : Int32) () (Nat.le_of_ble_eq_true rfl) (Nat.le_of_ble_eq_true rfl) rfl (rfl) hP hD hS dJ0_coder_7d493_14
abbrev rm_kJ0_isLatin1_aae02_14 : Room := { frames := 0, cells := 0, slots := 0, locals := 0 }
set_option maxHeartbeats 4000000 in
set_option maxRecDepth 100000 in
theorem kJ0_isLatin1_aae02_14 (l : Launch) (g : zL) : zCi l g yJ0_isLatin1_aae02 cJ0_isLatin1_aae02 1 (some .boolean) rm_kJ0_isLatin1_aae02_14 [.ref (g.2.2.1 14)] [] (fun (r : Int32) (u : Unit) => (r = (1 : Int32))) (fun (u : Unit) => []) := by
  refine zCi.mk2 (by decide) (Nat.le_of_ble_eq_true rfl) ?_
  intro p e s m below meth c A args Q hE hret hP hD hS ls hl
  obtain ⟨hx, hb, hr, hml, hown, hG, hlocks, hnm, hX, hA⟩ := hE
  have hown : s.vm.findClass RJ0 = some m.cls := hown
  have hl : lv_has ls 1 [(0, .ref (g.2.2.1 14))] := hl
  refine va_gets hx hb hX.2.2.2.2.1 hS hown (hG _ wf_J0_38) (fun _ h9 => h9) dJ0_isLatin1_aae02_0 ?_
  refine lv_if_eq (tgt := 17) hx hb dJ0_isLatin1_aae02_3 (by decide) (fun c1 => absurd c1 (by decide)) (fun c1 => ?_)
  refine lv_aload_n hx hb dJ0_isLatin1_aae02_6 rfl (lv_at hl 0 rfl) ?_
  refine vk_getf (v := .int 0) hx hb (hX.2.2.2.1.1 14 (by decide)).2.1 hS hown (hG _ wf_J0_15) (fun _ h9 => h9) dJ0_isLatin1_aae02_7 ?_
  refine lv_if_ne (tgt := 17) hx hb dJ0_isLatin1_aae02_10 (by decide) (fun c2 => (c2 (by decide)).elim) (fun c2 => ?_)
  refine lv_iconst (v := 1) hx hb dJ0_isLatin1_aae02_13 (by decide) ?_
  refine lv_goto (tgt := 18) hx hb dJ0_isLatin1_aae02_14 (by decide) ?_
  exact hret (1 : Int32) () (Nat.le_of_ble_eq_true rfl) (Nat.le_of_ble_eq_true rfl) rfl (rfl) hP hD hS dJ0_isLatin1_aae02_18
abbrev rm_kJ0_length_8abf5_14 : Room := { frames := 1, cells := 0, slots := 0, locals := 20 }
set_option maxHeartbeats 4000000 in
set_option maxRecDepth 100000 in
theorem kJ0_length_8abf5_14 (l : Launch) (g : zL) : zCi l g yJ0_length_8abf5 cJ0_length_8abf5 1 (some .int) rm_kJ0_length_8abf5_14 [.ref (g.2.2.1 14)] [] (fun (r : Int32) (u : Unit) => (r = (4 : Int32))) (fun (u : Unit) => []) := by
  refine zCi.mk2 (by decide) (Nat.le_of_ble_eq_true rfl) ?_
  intro p e s m below meth c A args Q hE hret hP hD hS ls hl
  obtain ⟨hx, hb, hr, hml, hown, hG, hlocks, hnm, hX, hA⟩ := hE
  have hown : s.vm.findClass RJ0 = some m.cls := hown
  have hl : lv_has ls 1 [(0, .ref (g.2.2.1 14))] := hl
  refine lv_aload_n hx hb dJ0_length_8abf5_0 rfl (lv_at hl 0 rfl) ?_
  refine vk_getf (v := .ref (g.2.2.2.1 14)) hx hb (hX.2.2.2.1.1 14 (by decide)).2.2.1 hS hown (hG _ wf_J0_9) (fun _ h9 => h9) dJ0_length_8abf5_1 ?_
  refine va_tlen (v := 4) hx hb (hX.2.2.2.1.1 14 (by decide)).2.2.2 hS (by decide) dJ0_length_8abf5_4 ?_
  refine lv_aload_n hx hb dJ0_length_8abf5_5 rfl (lv_at hl 0 rfl) ?_
  refine zfi (wr := []) (va_runV (As := []) (rest := [.int 4]) ⟨hx, hb, hml, hown, hG⟩ (kJ0_coder_7d493_14 l g _) ⟨callB_of 0 hG (zGood wc_J0_coder_7d493) rfl rfl rfl (hG _ wini_J0) (hG _ wm_J0_335) hJ0_coder_7d493 ⟨Nat.le_of_ble_eq_true rfl, Nat.le_of_ble_eq_true rfl⟩, hG _ wi_J0_coder_7d493, hG _ wse_J0_J0_coder_7d493⟩ (zpreV (vk_recv hX.2.2.2.1 (by decide) hS) hX hP hD hS hA [] rfl (by decide)) rfl rfl hl.1 rfl (lv_room (Nat.le_of_ble_eq_true rfl)) dJ0_length_8abf5_6 ⟨Nat.le_of_ble_eq_true rfl, Nat.le_of_ble_eq_true rfl⟩) hP hD hS hA [] [] rfl rfl (by decide) (by decide) (fun r1 _ H locs hp hP hD hS => ?_)
  refine W.cs (cells' := 0) (slots' := 0) rfl rfl ?_
  have hq2 : r1 = (0 : Int32) := hp
  subst hq2
  have hP : va_P g.1 vwCl [] H := hP
  have hD : va_D A [] := hD
  refine lv_ishr hx hb dJ0_length_8abf5_9 ?_
  refine zt (z := 4) (by decide) ?_
  exact hret (4 : Int32) () (Nat.le_of_ble_eq_true rfl) (Nat.le_of_ble_eq_true rfl) rfl (rfl) hP hD hS dJ0_length_8abf5_10
abbrev rm_kJ1_charAt_3b067_14 : Room := { frames := 2, cells := 0, slots := 0, locals := 43 }
set_option maxHeartbeats 4000000 in
set_option maxRecDepth 100000 in
theorem kJ1_charAt_3b067_14 (l : Launch) (g : zL) (x2 : Int32) (hy0 : 0 ≤ x2.toInt ∧ x2.toInt ≤ 3) : zCi l g yJ1_charAt_3b067 cJ1_charAt_3b067 2 (some .char) rm_kJ1_charAt_3b067_14 [.ref (g.2.2.2.1 14), .int x2] [] (fun (r : Int32) (u : Unit) => (pChr r)) (fun (u : Unit) => []) := by
  refine zCi.mk2 (by decide) (Nat.le_of_ble_eq_true rfl) ?_
  intro p e s m below meth c A args Q hE hret hP hD hS ls hl
  obtain ⟨hx, hb, hr, hml, hown, hG, hlocks, hnm, hX, hA⟩ := hE
  have hown : s.vm.findClass RJ1 = some m.cls := hown
  have hl : lv_has ls 2 [(0, .ref (g.2.2.2.1 14)), (1, .int x2)] := hl
  refine lv_iload_n hx hb dJ1_charAt_3b067_0 rfl (lv_at hl 1 rfl) ?_
  refine lv_aload_n hx hb dJ1_charAt_3b067_1 rfl (lv_at hl 0 rfl) ?_
  refine va_tlen (v := 4) hx hb (hX.2.2.2.1.1 14 (by decide)).2.2.2 hS (by decide) dJ1_charAt_3b067_2 ?_
  refine zfv (wr := []) (va_runS (As := [.int x2, .int 4]) (rest := []) ⟨hx, hb, hml, hown, hG⟩ (kJ0_checkIndex_df160 l g x2 (4 : Int32) (ox_446 hy0) ((show 0 ≤ (4 : Int) ∧ (4 : Int) ≤ 200 from by decide)) (ox_447 hy0) _) ⟨callB_of 2 hG (zGood wc_J0_checkIndex_df160) rfl rfl rfl (hG _ wini_J0) (hG _ wm_J1_9) hJ0_checkIndex_df160 ⟨Nat.le_of_ble_eq_true rfl, Nat.le_of_ble_eq_true rfl⟩, hG _ ws_J0_checkIndex_df160⟩ (zpreS hX hP hD hS hA [] rfl (by decide)) rfl rfl hl.1 rfl (lv_room (Nat.le_of_ble_eq_true rfl)) dJ1_charAt_3b067_3 ⟨Nat.le_of_ble_eq_true rfl, Nat.le_of_ble_eq_true rfl⟩) hP hD hS hA [] [] rfl rfl (by decide) (by decide) (fun _ H locs hp hP hD hS => ?_)
  refine W.cs (cells' := 0) (slots' := 0) rfl rfl ?_
  have hP : va_P g.1 vwCl [] H := hP
  have hD : va_D A [] := hD
  refine lv_aload_n hx hb dJ1_charAt_3b067_6 rfl (lv_at hl 0 rfl) ?_
  refine lv_iload_n hx hb dJ1_charAt_3b067_7 rfl (lv_at hl 1 rfl) ?_
  refine va_tb hx hb (hX.2.2.2.1.1 14 (by decide)).2.2.2 hS (zin (rfl : x2.toInt = _) (ox_448 hy0)) rfl dJ1_charAt_3b067_8 ?_
  refine lv_topi (fun z2 e3 => ?_)
  refine lv_sipush (v := 255) hx hb dJ1_charAt_3b067_9 (by decide) ?_
  refine lv_iand hx hb dJ1_charAt_3b067_12 ?_
  refine lv_topi (fun z4 e5 => ?_)
  have f6 : 0 ≤ z4.toInt ∧ z4.toInt ≤ (255 : Int) := zand e5 (show (255 : Int32).toInt = (255 : Int) from by decide) ((show 0 ≤ (255 : Int) from by decide))
  refine lv_i2c (v := (z4.toUInt32 % 65536).toInt32) hx hb dJ1_charAt_3b067_13 rfl ?_
  refine lv_topi (fun z7 e8 => ?_)
  exact hret z7 () (Nat.le_of_ble_eq_true rfl) (Nat.le_of_ble_eq_true rfl) (pChr.of e8) ((pChr.of e8)) hP hD hS dJ1_charAt_3b067_14
abbrev rm_kJ0_charAt_5068e_14 : Room := { frames := 3, cells := 0, slots := 0, locals := 64 }
set_option maxHeartbeats 4000000 in
set_option maxRecDepth 100000 in
theorem kJ0_charAt_5068e_14 (l : Launch) (g : zL) (x1 : Int32) (hy0 : 0 ≤ x1.toInt ∧ x1.toInt ≤ 3) : zCi l g yJ0_charAt_5068e cJ0_charAt_5068e 2 (some .char) rm_kJ0_charAt_5068e_14 [.ref (g.2.2.1 14), .int x1] [] (fun (r : Int32) (u : Unit) => (pChr r)) (fun (u : Unit) => []) := by
  refine zCi.mk2 (by decide) (Nat.le_of_ble_eq_true rfl) ?_
  intro p e s m below meth c A args Q hE hret hP hD hS ls hl
  obtain ⟨hx, hb, hr, hml, hown, hG, hlocks, hnm, hX, hA⟩ := hE
  have hown : s.vm.findClass RJ0 = some m.cls := hown
  have hl : lv_has ls 2 [(0, .ref (g.2.2.1 14)), (1, .int x1)] := hl
  refine lv_aload_n hx hb dJ0_charAt_5068e_0 rfl (lv_at hl 0 rfl) ?_
  refine zfi (wr := []) (va_runV (As := []) (rest := []) ⟨hx, hb, hml, hown, hG⟩ (kJ0_isLatin1_aae02_14 l g _) ⟨callB_of 0 hG (zGood wc_J0_isLatin1_aae02) rfl rfl rfl (hG _ wini_J0) (hG _ wm_J0_492) hJ0_isLatin1_aae02 ⟨Nat.le_of_ble_eq_true rfl, Nat.le_of_ble_eq_true rfl⟩, hG _ wi_J0_isLatin1_aae02, hG _ wse_J0_J0_isLatin1_aae02⟩ (zpreV (vk_recv hX.2.2.2.1 (by decide) hS) hX hP hD hS hA [] rfl (by decide)) rfl rfl hl.1 rfl (lv_room (Nat.le_of_ble_eq_true rfl)) dJ0_charAt_5068e_1 ⟨Nat.le_of_ble_eq_true rfl, Nat.le_of_ble_eq_true rfl⟩) hP hD hS hA [] [] rfl rfl (by decide) (by decide) (fun r1 _ H locs hp hP hD hS => ?_)
  refine W.cs (cells' := 0) (slots' := 0) rfl rfl ?_
  have hq2 : r1 = (1 : Int32) := hp
  subst hq2
  have hP : va_P g.1 vwCl [] H := hP
  have hD : va_D A [] := hD
  refine lv_if_eq (tgt := 16) hx hb dJ0_charAt_5068e_4 (by decide) (fun c3 => absurd c3 (by decide)) (fun c3 => ?_)
  refine lv_aload_n hx hb dJ0_charAt_5068e_7 rfl (lv_at hl 0 rfl) ?_
  refine vk_getf (v := .ref (g.2.2.2.1 14)) hx hb (hX.2.2.2.1.1 14 (by decide)).2.2.1 hS hown (hG _ wf_J0_9) (fun _ h9 => h9) dJ0_charAt_5068e_8 ?_
  refine lv_iload_n hx hb dJ0_charAt_5068e_11 rfl (lv_at hl 1 rfl) ?_
  refine zfi (wr := []) (va_runS (As := [.ref (g.2.2.2.1 14), .int x1]) (rest := []) ⟨hx, hb, hml, hown, hG⟩ (kJ1_charAt_3b067_14 l g x1 (ox_449 hy0) _) ⟨callB_of 2 hG (zGood wc_J1_charAt_3b067) rfl rfl rfl (hG _ wini_J1) (hG _ wm_J0_495) hJ1_charAt_3b067 ⟨Nat.le_of_ble_eq_true rfl, Nat.le_of_ble_eq_true rfl⟩, hG _ ws_J1_charAt_3b067⟩ (zpreS hX hP hD hS hA [] rfl (by decide)) rfl rfl hl.1 rfl (lv_room (Nat.le_of_ble_eq_true rfl)) dJ0_charAt_5068e_12 ⟨Nat.le_of_ble_eq_true rfl, Nat.le_of_ble_eq_true rfl⟩) hP hD hS hA [] [] rfl rfl (by decide) (by decide) (fun r4 _ H locs hp hP hD hS => ?_)
  refine W.cs (cells' := 0) (slots' := 0) rfl rfl ?_
  have hq5 : pChr r4 := hp
  have hP : va_P g.1 vwCl [] H := hP
  have hD : va_D A [] := hD
  exact hret r4 () (Nat.le_of_ble_eq_true rfl) (Nat.le_of_ble_eq_true rfl) hq5 (hq5) hP hD hS dJ0_charAt_5068e_15
abbrev rm_kJ0_coder_7d493_15 : Room := { frames := 0, cells := 0, slots := 0, locals := 0 }
set_option maxHeartbeats 4000000 in
set_option maxRecDepth 100000 in
theorem kJ0_coder_7d493_15 (l : Launch) (g : zL) : zCi l g yJ0_coder_7d493 cJ0_coder_7d493 1 (some .byte) rm_kJ0_coder_7d493_15 [.ref (g.2.2.1 15)] [] (fun (r : Int32) (u : Unit) => (r = (0 : Int32))) (fun (u : Unit) => []) := by
  refine zCi.mk2 (by decide) (Nat.le_of_ble_eq_true rfl) ?_
  intro p e s m below meth c A args Q hE hret hP hD hS ls hl
  obtain ⟨hx, hb, hr, hml, hown, hG, hlocks, hnm, hX, hA⟩ := hE
  have hown : s.vm.findClass RJ0 = some m.cls := hown
  have hl : lv_has ls 1 [(0, .ref (g.2.2.1 15))] := hl
  refine va_gets hx hb hX.2.2.2.2.1 hS hown (hG _ wf_J0_38) (fun _ h9 => h9) dJ0_coder_7d493_0 ?_
  refine lv_if_eq (tgt := 13) hx hb dJ0_coder_7d493_3 (by decide) (fun c1 => absurd c1 (by decide)) (fun c1 => ?_)
  refine lv_aload_n hx hb dJ0_coder_7d493_6 rfl (lv_at hl 0 rfl) ?_
  refine vk_getf (v := .int 0) hx hb (hX.2.2.2.1.1 15 (by decide)).2.1 hS hown (hG _ wf_J0_15) (fun _ h9 => h9) dJ0_coder_7d493_7 ?_
  refine lv_goto (tgt := 14) hx hb dJ0_coder_7d493_10 (by decide) ?_
  exact hret (0 : Int32) () (Nat.le_of_ble_eq_true rfl) (Nat.le_of_ble_eq_true rfl) rfl (rfl) hP hD hS dJ0_coder_7d493_14
abbrev rm_kJ0_isLatin1_aae02_15 : Room := { frames := 0, cells := 0, slots := 0, locals := 0 }
set_option maxHeartbeats 4000000 in
set_option maxRecDepth 100000 in
theorem kJ0_isLatin1_aae02_15 (l : Launch) (g : zL) : zCi l g yJ0_isLatin1_aae02 cJ0_isLatin1_aae02 1 (some .boolean) rm_kJ0_isLatin1_aae02_15 [.ref (g.2.2.1 15)] [] (fun (r : Int32) (u : Unit) => (r = (1 : Int32))) (fun (u : Unit) => []) := by
  refine zCi.mk2 (by decide) (Nat.le_of_ble_eq_true rfl) ?_
  intro p e s m below meth c A args Q hE hret hP hD hS ls hl
  obtain ⟨hx, hb, hr, hml, hown, hG, hlocks, hnm, hX, hA⟩ := hE
  have hown : s.vm.findClass RJ0 = some m.cls := hown
  have hl : lv_has ls 1 [(0, .ref (g.2.2.1 15))] := hl
  refine va_gets hx hb hX.2.2.2.2.1 hS hown (hG _ wf_J0_38) (fun _ h9 => h9) dJ0_isLatin1_aae02_0 ?_
  refine lv_if_eq (tgt := 17) hx hb dJ0_isLatin1_aae02_3 (by decide) (fun c1 => absurd c1 (by decide)) (fun c1 => ?_)
  refine lv_aload_n hx hb dJ0_isLatin1_aae02_6 rfl (lv_at hl 0 rfl) ?_
  refine vk_getf (v := .int 0) hx hb (hX.2.2.2.1.1 15 (by decide)).2.1 hS hown (hG _ wf_J0_15) (fun _ h9 => h9) dJ0_isLatin1_aae02_7 ?_
  refine lv_if_ne (tgt := 17) hx hb dJ0_isLatin1_aae02_10 (by decide) (fun c2 => (c2 (by decide)).elim) (fun c2 => ?_)
  refine lv_iconst (v := 1) hx hb dJ0_isLatin1_aae02_13 (by decide) ?_
  refine lv_goto (tgt := 18) hx hb dJ0_isLatin1_aae02_14 (by decide) ?_
  exact hret (1 : Int32) () (Nat.le_of_ble_eq_true rfl) (Nat.le_of_ble_eq_true rfl) rfl (rfl) hP hD hS dJ0_isLatin1_aae02_18
abbrev rm_kJ0_length_8abf5_15 : Room := { frames := 1, cells := 0, slots := 0, locals := 20 }
set_option maxHeartbeats 4000000 in
set_option maxRecDepth 100000 in
theorem kJ0_length_8abf5_15 (l : Launch) (g : zL) : zCi l g yJ0_length_8abf5 cJ0_length_8abf5 1 (some .int) rm_kJ0_length_8abf5_15 [.ref (g.2.2.1 15)] [] (fun (r : Int32) (u : Unit) => (r = (4 : Int32))) (fun (u : Unit) => []) := by
  refine zCi.mk2 (by decide) (Nat.le_of_ble_eq_true rfl) ?_
  intro p e s m below meth c A args Q hE hret hP hD hS ls hl
  obtain ⟨hx, hb, hr, hml, hown, hG, hlocks, hnm, hX, hA⟩ := hE
  have hown : s.vm.findClass RJ0 = some m.cls := hown
  have hl : lv_has ls 1 [(0, .ref (g.2.2.1 15))] := hl
  refine lv_aload_n hx hb dJ0_length_8abf5_0 rfl (lv_at hl 0 rfl) ?_
  refine vk_getf (v := .ref (g.2.2.2.1 15)) hx hb (hX.2.2.2.1.1 15 (by decide)).2.2.1 hS hown (hG _ wf_J0_9) (fun _ h9 => h9) dJ0_length_8abf5_1 ?_
  refine va_tlen (v := 4) hx hb (hX.2.2.2.1.1 15 (by decide)).2.2.2 hS (by decide) dJ0_length_8abf5_4 ?_
  refine lv_aload_n hx hb dJ0_length_8abf5_5 rfl (lv_at hl 0 rfl) ?_
  refine zfi (wr := []) (va_runV (As := []) (rest := [.int 4]) ⟨hx, hb, hml, hown, hG⟩ (kJ0_coder_7d493_15 l g _) ⟨callB_of 0 hG (zGood wc_J0_coder_7d493) rfl rfl rfl (hG _ wini_J0) (hG _ wm_J0_335) hJ0_coder_7d493 ⟨Nat.le_of_ble_eq_true rfl, Nat.le_of_ble_eq_true rfl⟩, hG _ wi_J0_coder_7d493, hG _ wse_J0_J0_coder_7d493⟩ (zpreV (vk_recv hX.2.2.2.1 (by decide) hS) hX hP hD hS hA [] rfl (by decide)) rfl rfl hl.1 rfl (lv_room (Nat.le_of_ble_eq_true rfl)) dJ0_length_8abf5_6 ⟨Nat.le_of_ble_eq_true rfl, Nat.le_of_ble_eq_true rfl⟩) hP hD hS hA [] [] rfl rfl (by decide) (by decide) (fun r1 _ H locs hp hP hD hS => ?_)
  refine W.cs (cells' := 0) (slots' := 0) rfl rfl ?_
  have hq2 : r1 = (0 : Int32) := hp
  subst hq2
  have hP : va_P g.1 vwCl [] H := hP
  have hD : va_D A [] := hD
  refine lv_ishr hx hb dJ0_length_8abf5_9 ?_
  refine zt (z := 4) (by decide) ?_
  exact hret (4 : Int32) () (Nat.le_of_ble_eq_true rfl) (Nat.le_of_ble_eq_true rfl) rfl (rfl) hP hD hS dJ0_length_8abf5_10
abbrev rm_kJ1_charAt_3b067_15 : Room := { frames := 2, cells := 0, slots := 0, locals := 43 }
set_option maxHeartbeats 4000000 in
set_option maxRecDepth 100000 in
theorem kJ1_charAt_3b067_15 (l : Launch) (g : zL) (x2 : Int32) (hy0 : 0 ≤ x2.toInt ∧ x2.toInt ≤ 3) : zCi l g yJ1_charAt_3b067 cJ1_charAt_3b067 2 (some .char) rm_kJ1_charAt_3b067_15 [.ref (g.2.2.2.1 15), .int x2] [] (fun (r : Int32) (u : Unit) => (pChr r)) (fun (u : Unit) => []) := by
  refine zCi.mk2 (by decide) (Nat.le_of_ble_eq_true rfl) ?_
  intro p e s m below meth c A args Q hE hret hP hD hS ls hl
  obtain ⟨hx, hb, hr, hml, hown, hG, hlocks, hnm, hX, hA⟩ := hE
  have hown : s.vm.findClass RJ1 = some m.cls := hown
  have hl : lv_has ls 2 [(0, .ref (g.2.2.2.1 15)), (1, .int x2)] := hl
  refine lv_iload_n hx hb dJ1_charAt_3b067_0 rfl (lv_at hl 1 rfl) ?_
  refine lv_aload_n hx hb dJ1_charAt_3b067_1 rfl (lv_at hl 0 rfl) ?_
  refine va_tlen (v := 4) hx hb (hX.2.2.2.1.1 15 (by decide)).2.2.2 hS (by decide) dJ1_charAt_3b067_2 ?_
  refine zfv (wr := []) (va_runS (As := [.int x2, .int 4]) (rest := []) ⟨hx, hb, hml, hown, hG⟩ (kJ0_checkIndex_df160 l g x2 (4 : Int32) (ox_446 hy0) ((show 0 ≤ (4 : Int) ∧ (4 : Int) ≤ 200 from by decide)) (ox_447 hy0) _) ⟨callB_of 2 hG (zGood wc_J0_checkIndex_df160) rfl rfl rfl (hG _ wini_J0) (hG _ wm_J1_9) hJ0_checkIndex_df160 ⟨Nat.le_of_ble_eq_true rfl, Nat.le_of_ble_eq_true rfl⟩, hG _ ws_J0_checkIndex_df160⟩ (zpreS hX hP hD hS hA [] rfl (by decide)) rfl rfl hl.1 rfl (lv_room (Nat.le_of_ble_eq_true rfl)) dJ1_charAt_3b067_3 ⟨Nat.le_of_ble_eq_true rfl, Nat.le_of_ble_eq_true rfl⟩) hP hD hS hA [] [] rfl rfl (by decide) (by decide) (fun _ H locs hp hP hD hS => ?_)
  refine W.cs (cells' := 0) (slots' := 0) rfl rfl ?_
  have hP : va_P g.1 vwCl [] H := hP
  have hD : va_D A [] := hD
  refine lv_aload_n hx hb dJ1_charAt_3b067_6 rfl (lv_at hl 0 rfl) ?_
  refine lv_iload_n hx hb dJ1_charAt_3b067_7 rfl (lv_at hl 1 rfl) ?_
  refine va_tb hx hb (hX.2.2.2.1.1 15 (by decide)).2.2.2 hS (zin (rfl : x2.toInt = _) (ox_448 hy0)) rfl dJ1_charAt_3b067_8 ?_
  refine lv_topi (fun z2 e3 => ?_)
  refine lv_sipush (v := 255) hx hb dJ1_charAt_3b067_9 (by decide) ?_
  refine lv_iand hx hb dJ1_charAt_3b067_12 ?_
  refine lv_topi (fun z4 e5 => ?_)
  have f6 : 0 ≤ z4.toInt ∧ z4.toInt ≤ (255 : Int) := zand e5 (show (255 : Int32).toInt = (255 : Int) from by decide) ((show 0 ≤ (255 : Int) from by decide))
  refine lv_i2c (v := (z4.toUInt32 % 65536).toInt32) hx hb dJ1_charAt_3b067_13 rfl ?_
  refine lv_topi (fun z7 e8 => ?_)
  exact hret z7 () (Nat.le_of_ble_eq_true rfl) (Nat.le_of_ble_eq_true rfl) (pChr.of e8) ((pChr.of e8)) hP hD hS dJ1_charAt_3b067_14
abbrev rm_kJ0_charAt_5068e_15 : Room := { frames := 3, cells := 0, slots := 0, locals := 64 }
set_option maxHeartbeats 4000000 in
set_option maxRecDepth 100000 in
theorem kJ0_charAt_5068e_15 (l : Launch) (g : zL) (x1 : Int32) (hy0 : 0 ≤ x1.toInt ∧ x1.toInt ≤ 3) : zCi l g yJ0_charAt_5068e cJ0_charAt_5068e 2 (some .char) rm_kJ0_charAt_5068e_15 [.ref (g.2.2.1 15), .int x1] [] (fun (r : Int32) (u : Unit) => (pChr r)) (fun (u : Unit) => []) := by
  refine zCi.mk2 (by decide) (Nat.le_of_ble_eq_true rfl) ?_
  intro p e s m below meth c A args Q hE hret hP hD hS ls hl
  obtain ⟨hx, hb, hr, hml, hown, hG, hlocks, hnm, hX, hA⟩ := hE
  have hown : s.vm.findClass RJ0 = some m.cls := hown
  have hl : lv_has ls 2 [(0, .ref (g.2.2.1 15)), (1, .int x1)] := hl
  refine lv_aload_n hx hb dJ0_charAt_5068e_0 rfl (lv_at hl 0 rfl) ?_
  refine zfi (wr := []) (va_runV (As := []) (rest := []) ⟨hx, hb, hml, hown, hG⟩ (kJ0_isLatin1_aae02_15 l g _) ⟨callB_of 0 hG (zGood wc_J0_isLatin1_aae02) rfl rfl rfl (hG _ wini_J0) (hG _ wm_J0_492) hJ0_isLatin1_aae02 ⟨Nat.le_of_ble_eq_true rfl, Nat.le_of_ble_eq_true rfl⟩, hG _ wi_J0_isLatin1_aae02, hG _ wse_J0_J0_isLatin1_aae02⟩ (zpreV (vk_recv hX.2.2.2.1 (by decide) hS) hX hP hD hS hA [] rfl (by decide)) rfl rfl hl.1 rfl (lv_room (Nat.le_of_ble_eq_true rfl)) dJ0_charAt_5068e_1 ⟨Nat.le_of_ble_eq_true rfl, Nat.le_of_ble_eq_true rfl⟩) hP hD hS hA [] [] rfl rfl (by decide) (by decide) (fun r1 _ H locs hp hP hD hS => ?_)
  refine W.cs (cells' := 0) (slots' := 0) rfl rfl ?_
  have hq2 : r1 = (1 : Int32) := hp
  subst hq2
  have hP : va_P g.1 vwCl [] H := hP
  have hD : va_D A [] := hD
  refine lv_if_eq (tgt := 16) hx hb dJ0_charAt_5068e_4 (by decide) (fun c3 => absurd c3 (by decide)) (fun c3 => ?_)
  refine lv_aload_n hx hb dJ0_charAt_5068e_7 rfl (lv_at hl 0 rfl) ?_
  refine vk_getf (v := .ref (g.2.2.2.1 15)) hx hb (hX.2.2.2.1.1 15 (by decide)).2.2.1 hS hown (hG _ wf_J0_9) (fun _ h9 => h9) dJ0_charAt_5068e_8 ?_
  refine lv_iload_n hx hb dJ0_charAt_5068e_11 rfl (lv_at hl 1 rfl) ?_
  refine zfi (wr := []) (va_runS (As := [.ref (g.2.2.2.1 15), .int x1]) (rest := []) ⟨hx, hb, hml, hown, hG⟩ (kJ1_charAt_3b067_15 l g x1 (ox_449 hy0) _) ⟨callB_of 2 hG (zGood wc_J1_charAt_3b067) rfl rfl rfl (hG _ wini_J1) (hG _ wm_J0_495) hJ1_charAt_3b067 ⟨Nat.le_of_ble_eq_true rfl, Nat.le_of_ble_eq_true rfl⟩, hG _ ws_J1_charAt_3b067⟩ (zpreS hX hP hD hS hA [] rfl (by decide)) rfl rfl hl.1 rfl (lv_room (Nat.le_of_ble_eq_true rfl)) dJ0_charAt_5068e_12 ⟨Nat.le_of_ble_eq_true rfl, Nat.le_of_ble_eq_true rfl⟩) hP hD hS hA [] [] rfl rfl (by decide) (by decide) (fun r4 _ H locs hp hP hD hS => ?_)
  refine W.cs (cells' := 0) (slots' := 0) rfl rfl ?_
  have hq5 : pChr r4 := hp
  have hP : va_P g.1 vwCl [] H := hP
  have hD : va_D A [] := hD
  exact hret r4 () (Nat.le_of_ble_eq_true rfl) (Nat.le_of_ble_eq_true rfl) hq5 (hq5) hP hD hS dJ0_charAt_5068e_15
abbrev rm_kJ0_coder_7d493_16 : Room := { frames := 0, cells := 0, slots := 0, locals := 0 }
set_option maxHeartbeats 4000000 in
set_option maxRecDepth 100000 in
theorem kJ0_coder_7d493_16 (l : Launch) (g : zL) : zCi l g yJ0_coder_7d493 cJ0_coder_7d493 1 (some .byte) rm_kJ0_coder_7d493_16 [.ref (g.2.2.1 16)] [] (fun (r : Int32) (u : Unit) => (r = (0 : Int32))) (fun (u : Unit) => []) := by
  refine zCi.mk2 (by decide) (Nat.le_of_ble_eq_true rfl) ?_
  intro p e s m below meth c A args Q hE hret hP hD hS ls hl
  obtain ⟨hx, hb, hr, hml, hown, hG, hlocks, hnm, hX, hA⟩ := hE
  have hown : s.vm.findClass RJ0 = some m.cls := hown
  have hl : lv_has ls 1 [(0, .ref (g.2.2.1 16))] := hl
  refine va_gets hx hb hX.2.2.2.2.1 hS hown (hG _ wf_J0_38) (fun _ h9 => h9) dJ0_coder_7d493_0 ?_
  refine lv_if_eq (tgt := 13) hx hb dJ0_coder_7d493_3 (by decide) (fun c1 => absurd c1 (by decide)) (fun c1 => ?_)
  refine lv_aload_n hx hb dJ0_coder_7d493_6 rfl (lv_at hl 0 rfl) ?_
  refine vk_getf (v := .int 0) hx hb (hX.2.2.2.1.1 16 (by decide)).2.1 hS hown (hG _ wf_J0_15) (fun _ h9 => h9) dJ0_coder_7d493_7 ?_
  refine lv_goto (tgt := 14) hx hb dJ0_coder_7d493_10 (by decide) ?_
  exact hret (0 : Int32) () (Nat.le_of_ble_eq_true rfl) (Nat.le_of_ble_eq_true rfl) rfl (rfl) hP hD hS dJ0_coder_7d493_14
abbrev rm_kJ0_isLatin1_aae02_16 : Room := { frames := 0, cells := 0, slots := 0, locals := 0 }
set_option maxHeartbeats 4000000 in
set_option maxRecDepth 100000 in
theorem kJ0_isLatin1_aae02_16 (l : Launch) (g : zL) : zCi l g yJ0_isLatin1_aae02 cJ0_isLatin1_aae02 1 (some .boolean) rm_kJ0_isLatin1_aae02_16 [.ref (g.2.2.1 16)] [] (fun (r : Int32) (u : Unit) => (r = (1 : Int32))) (fun (u : Unit) => []) := by
  refine zCi.mk2 (by decide) (Nat.le_of_ble_eq_true rfl) ?_
  intro p e s m below meth c A args Q hE hret hP hD hS ls hl
  obtain ⟨hx, hb, hr, hml, hown, hG, hlocks, hnm, hX, hA⟩ := hE
  have hown : s.vm.findClass RJ0 = some m.cls := hown
  have hl : lv_has ls 1 [(0, .ref (g.2.2.1 16))] := hl
  refine va_gets hx hb hX.2.2.2.2.1 hS hown (hG _ wf_J0_38) (fun _ h9 => h9) dJ0_isLatin1_aae02_0 ?_
  refine lv_if_eq (tgt := 17) hx hb dJ0_isLatin1_aae02_3 (by decide) (fun c1 => absurd c1 (by decide)) (fun c1 => ?_)
  refine lv_aload_n hx hb dJ0_isLatin1_aae02_6 rfl (lv_at hl 0 rfl) ?_
  refine vk_getf (v := .int 0) hx hb (hX.2.2.2.1.1 16 (by decide)).2.1 hS hown (hG _ wf_J0_15) (fun _ h9 => h9) dJ0_isLatin1_aae02_7 ?_
  refine lv_if_ne (tgt := 17) hx hb dJ0_isLatin1_aae02_10 (by decide) (fun c2 => (c2 (by decide)).elim) (fun c2 => ?_)
  refine lv_iconst (v := 1) hx hb dJ0_isLatin1_aae02_13 (by decide) ?_
  refine lv_goto (tgt := 18) hx hb dJ0_isLatin1_aae02_14 (by decide) ?_
  exact hret (1 : Int32) () (Nat.le_of_ble_eq_true rfl) (Nat.le_of_ble_eq_true rfl) rfl (rfl) hP hD hS dJ0_isLatin1_aae02_18
abbrev rm_kJ0_length_8abf5_16 : Room := { frames := 1, cells := 0, slots := 0, locals := 20 }
set_option maxHeartbeats 4000000 in
set_option maxRecDepth 100000 in
theorem kJ0_length_8abf5_16 (l : Launch) (g : zL) : zCi l g yJ0_length_8abf5 cJ0_length_8abf5 1 (some .int) rm_kJ0_length_8abf5_16 [.ref (g.2.2.1 16)] [] (fun (r : Int32) (u : Unit) => (r = (2 : Int32))) (fun (u : Unit) => []) := by
  refine zCi.mk2 (by decide) (Nat.le_of_ble_eq_true rfl) ?_
  intro p e s m below meth c A args Q hE hret hP hD hS ls hl
  obtain ⟨hx, hb, hr, hml, hown, hG, hlocks, hnm, hX, hA⟩ := hE
  have hown : s.vm.findClass RJ0 = some m.cls := hown
  have hl : lv_has ls 1 [(0, .ref (g.2.2.1 16))] := hl
  refine lv_aload_n hx hb dJ0_length_8abf5_0 rfl (lv_at hl 0 rfl) ?_
  refine vk_getf (v := .ref (g.2.2.2.1 16)) hx hb (hX.2.2.2.1.1 16 (by decide)).2.2.1 hS hown (hG _ wf_J0_9) (fun _ h9 => h9) dJ0_length_8abf5_1 ?_
  refine va_tlen (v := 2) hx hb (hX.2.2.2.1.1 16 (by decide)).2.2.2 hS (by decide) dJ0_length_8abf5_4 ?_
  refine lv_aload_n hx hb dJ0_length_8abf5_5 rfl (lv_at hl 0 rfl) ?_
  refine zfi (wr := []) (va_runV (As := []) (rest := [.int 2]) ⟨hx, hb, hml, hown, hG⟩ (kJ0_coder_7d493_16 l g _) ⟨callB_of 0 hG (zGood wc_J0_coder_7d493) rfl rfl rfl (hG _ wini_J0) (hG _ wm_J0_335) hJ0_coder_7d493 ⟨Nat.le_of_ble_eq_true rfl, Nat.le_of_ble_eq_true rfl⟩, hG _ wi_J0_coder_7d493, hG _ wse_J0_J0_coder_7d493⟩ (zpreV (vk_recv hX.2.2.2.1 (by decide) hS) hX hP hD hS hA [] rfl (by decide)) rfl rfl hl.1 rfl (lv_room (Nat.le_of_ble_eq_true rfl)) dJ0_length_8abf5_6 ⟨Nat.le_of_ble_eq_true rfl, Nat.le_of_ble_eq_true rfl⟩) hP hD hS hA [] [] rfl rfl (by decide) (by decide) (fun r1 _ H locs hp hP hD hS => ?_)
  refine W.cs (cells' := 0) (slots' := 0) rfl rfl ?_
  have hq2 : r1 = (0 : Int32) := hp
  subst hq2
  have hP : va_P g.1 vwCl [] H := hP
  have hD : va_D A [] := hD
  refine lv_ishr hx hb dJ0_length_8abf5_9 ?_
  refine zt (z := 2) (by decide) ?_
  exact hret (2 : Int32) () (Nat.le_of_ble_eq_true rfl) (Nat.le_of_ble_eq_true rfl) rfl (rfl) hP hD hS dJ0_length_8abf5_10
abbrev rm_kJ1_charAt_3b067_16 : Room := { frames := 2, cells := 0, slots := 0, locals := 43 }
set_option maxHeartbeats 4000000 in
set_option maxRecDepth 100000 in
theorem kJ1_charAt_3b067_16 (l : Launch) (g : zL) (x2 : Int32) (hy0 : 0 ≤ x2.toInt ∧ x2.toInt ≤ 1) : zCi l g yJ1_charAt_3b067 cJ1_charAt_3b067 2 (some .char) rm_kJ1_charAt_3b067_16 [.ref (g.2.2.2.1 16), .int x2] [] (fun (r : Int32) (u : Unit) => (pChr r)) (fun (u : Unit) => []) := by
  refine zCi.mk2 (by decide) (Nat.le_of_ble_eq_true rfl) ?_
  intro p e s m below meth c A args Q hE hret hP hD hS ls hl
  obtain ⟨hx, hb, hr, hml, hown, hG, hlocks, hnm, hX, hA⟩ := hE
  have hown : s.vm.findClass RJ1 = some m.cls := hown
  have hl : lv_has ls 2 [(0, .ref (g.2.2.2.1 16)), (1, .int x2)] := hl
  refine lv_iload_n hx hb dJ1_charAt_3b067_0 rfl (lv_at hl 1 rfl) ?_
  refine lv_aload_n hx hb dJ1_charAt_3b067_1 rfl (lv_at hl 0 rfl) ?_
  refine va_tlen (v := 2) hx hb (hX.2.2.2.1.1 16 (by decide)).2.2.2 hS (by decide) dJ1_charAt_3b067_2 ?_
  refine zfv (wr := []) (va_runS (As := [.int x2, .int 2]) (rest := []) ⟨hx, hb, hml, hown, hG⟩ (kJ0_checkIndex_df160 l g x2 (2 : Int32) (ox_457 hy0) ((show 0 ≤ (2 : Int) ∧ (2 : Int) ≤ 200 from by decide)) (ox_458 hy0) _) ⟨callB_of 2 hG (zGood wc_J0_checkIndex_df160) rfl rfl rfl (hG _ wini_J0) (hG _ wm_J1_9) hJ0_checkIndex_df160 ⟨Nat.le_of_ble_eq_true rfl, Nat.le_of_ble_eq_true rfl⟩, hG _ ws_J0_checkIndex_df160⟩ (zpreS hX hP hD hS hA [] rfl (by decide)) rfl rfl hl.1 rfl (lv_room (Nat.le_of_ble_eq_true rfl)) dJ1_charAt_3b067_3 ⟨Nat.le_of_ble_eq_true rfl, Nat.le_of_ble_eq_true rfl⟩) hP hD hS hA [] [] rfl rfl (by decide) (by decide) (fun _ H locs hp hP hD hS => ?_)
  refine W.cs (cells' := 0) (slots' := 0) rfl rfl ?_
  have hP : va_P g.1 vwCl [] H := hP
  have hD : va_D A [] := hD
  refine lv_aload_n hx hb dJ1_charAt_3b067_6 rfl (lv_at hl 0 rfl) ?_
  refine lv_iload_n hx hb dJ1_charAt_3b067_7 rfl (lv_at hl 1 rfl) ?_
  refine va_tb hx hb (hX.2.2.2.1.1 16 (by decide)).2.2.2 hS (zin (rfl : x2.toInt = _) (ox_459 hy0)) rfl dJ1_charAt_3b067_8 ?_
  refine lv_topi (fun z2 e3 => ?_)
  refine lv_sipush (v := 255) hx hb dJ1_charAt_3b067_9 (by decide) ?_
  refine lv_iand hx hb dJ1_charAt_3b067_12 ?_
  refine lv_topi (fun z4 e5 => ?_)
  have f6 : 0 ≤ z4.toInt ∧ z4.toInt ≤ (255 : Int) := zand e5 (show (255 : Int32).toInt = (255 : Int) from by decide) ((show 0 ≤ (255 : Int) from by decide))
  refine lv_i2c (v := (z4.toUInt32 % 65536).toInt32) hx hb dJ1_charAt_3b067_13 rfl ?_
  refine lv_topi (fun z7 e8 => ?_)
  exact hret z7 () (Nat.le_of_ble_eq_true rfl) (Nat.le_of_ble_eq_true rfl) (pChr.of e8) ((pChr.of e8)) hP hD hS dJ1_charAt_3b067_14
abbrev rm_kJ0_charAt_5068e_16 : Room := { frames := 3, cells := 0, slots := 0, locals := 64 }
set_option maxHeartbeats 4000000 in
set_option maxRecDepth 100000 in
theorem kJ0_charAt_5068e_16 (l : Launch) (g : zL) (x1 : Int32) (hy0 : 0 ≤ x1.toInt ∧ x1.toInt ≤ 1) : zCi l g yJ0_charAt_5068e cJ0_charAt_5068e 2 (some .char) rm_kJ0_charAt_5068e_16 [.ref (g.2.2.1 16), .int x1] [] (fun (r : Int32) (u : Unit) => (pChr r)) (fun (u : Unit) => []) := by
  refine zCi.mk2 (by decide) (Nat.le_of_ble_eq_true rfl) ?_
  intro p e s m below meth c A args Q hE hret hP hD hS ls hl
  obtain ⟨hx, hb, hr, hml, hown, hG, hlocks, hnm, hX, hA⟩ := hE
  have hown : s.vm.findClass RJ0 = some m.cls := hown
  have hl : lv_has ls 2 [(0, .ref (g.2.2.1 16)), (1, .int x1)] := hl
  refine lv_aload_n hx hb dJ0_charAt_5068e_0 rfl (lv_at hl 0 rfl) ?_
  refine zfi (wr := []) (va_runV (As := []) (rest := []) ⟨hx, hb, hml, hown, hG⟩ (kJ0_isLatin1_aae02_16 l g _) ⟨callB_of 0 hG (zGood wc_J0_isLatin1_aae02) rfl rfl rfl (hG _ wini_J0) (hG _ wm_J0_492) hJ0_isLatin1_aae02 ⟨Nat.le_of_ble_eq_true rfl, Nat.le_of_ble_eq_true rfl⟩, hG _ wi_J0_isLatin1_aae02, hG _ wse_J0_J0_isLatin1_aae02⟩ (zpreV (vk_recv hX.2.2.2.1 (by decide) hS) hX hP hD hS hA [] rfl (by decide)) rfl rfl hl.1 rfl (lv_room (Nat.le_of_ble_eq_true rfl)) dJ0_charAt_5068e_1 ⟨Nat.le_of_ble_eq_true rfl, Nat.le_of_ble_eq_true rfl⟩) hP hD hS hA [] [] rfl rfl (by decide) (by decide) (fun r1 _ H locs hp hP hD hS => ?_)
  refine W.cs (cells' := 0) (slots' := 0) rfl rfl ?_
  have hq2 : r1 = (1 : Int32) := hp
  subst hq2
  have hP : va_P g.1 vwCl [] H := hP
  have hD : va_D A [] := hD
  refine lv_if_eq (tgt := 16) hx hb dJ0_charAt_5068e_4 (by decide) (fun c3 => absurd c3 (by decide)) (fun c3 => ?_)
  refine lv_aload_n hx hb dJ0_charAt_5068e_7 rfl (lv_at hl 0 rfl) ?_
  refine vk_getf (v := .ref (g.2.2.2.1 16)) hx hb (hX.2.2.2.1.1 16 (by decide)).2.2.1 hS hown (hG _ wf_J0_9) (fun _ h9 => h9) dJ0_charAt_5068e_8 ?_
  refine lv_iload_n hx hb dJ0_charAt_5068e_11 rfl (lv_at hl 1 rfl) ?_
  refine zfi (wr := []) (va_runS (As := [.ref (g.2.2.2.1 16), .int x1]) (rest := []) ⟨hx, hb, hml, hown, hG⟩ (kJ1_charAt_3b067_16 l g x1 (ox_33 hy0) _) ⟨callB_of 2 hG (zGood wc_J1_charAt_3b067) rfl rfl rfl (hG _ wini_J1) (hG _ wm_J0_495) hJ1_charAt_3b067 ⟨Nat.le_of_ble_eq_true rfl, Nat.le_of_ble_eq_true rfl⟩, hG _ ws_J1_charAt_3b067⟩ (zpreS hX hP hD hS hA [] rfl (by decide)) rfl rfl hl.1 rfl (lv_room (Nat.le_of_ble_eq_true rfl)) dJ0_charAt_5068e_12 ⟨Nat.le_of_ble_eq_true rfl, Nat.le_of_ble_eq_true rfl⟩) hP hD hS hA [] [] rfl rfl (by decide) (by decide) (fun r4 _ H locs hp hP hD hS => ?_)
  refine W.cs (cells' := 0) (slots' := 0) rfl rfl ?_
  have hq5 : pChr r4 := hp
  have hP : va_P g.1 vwCl [] H := hP
  have hD : va_D A [] := hD
  exact hret r4 () (Nat.le_of_ble_eq_true rfl) (Nat.le_of_ble_eq_true rfl) hq5 (hq5) hP hD hS dJ0_charAt_5068e_15
abbrev rm_kJ0_coder_7d493_17 : Room := { frames := 0, cells := 0, slots := 0, locals := 0 }
set_option maxHeartbeats 4000000 in
set_option maxRecDepth 100000 in
theorem kJ0_coder_7d493_17 (l : Launch) (g : zL) : zCi l g yJ0_coder_7d493 cJ0_coder_7d493 1 (some .byte) rm_kJ0_coder_7d493_17 [.ref (g.2.2.1 17)] [] (fun (r : Int32) (u : Unit) => (r = (0 : Int32))) (fun (u : Unit) => []) := by
  refine zCi.mk2 (by decide) (Nat.le_of_ble_eq_true rfl) ?_
  intro p e s m below meth c A args Q hE hret hP hD hS ls hl
  obtain ⟨hx, hb, hr, hml, hown, hG, hlocks, hnm, hX, hA⟩ := hE
  have hown : s.vm.findClass RJ0 = some m.cls := hown
  have hl : lv_has ls 1 [(0, .ref (g.2.2.1 17))] := hl
  refine va_gets hx hb hX.2.2.2.2.1 hS hown (hG _ wf_J0_38) (fun _ h9 => h9) dJ0_coder_7d493_0 ?_
  refine lv_if_eq (tgt := 13) hx hb dJ0_coder_7d493_3 (by decide) (fun c1 => absurd c1 (by decide)) (fun c1 => ?_)
  refine lv_aload_n hx hb dJ0_coder_7d493_6 rfl (lv_at hl 0 rfl) ?_
  refine vk_getf (v := .int 0) hx hb (hX.2.2.2.1.1 17 (by decide)).2.1 hS hown (hG _ wf_J0_15) (fun _ h9 => h9) dJ0_coder_7d493_7 ?_
  refine lv_goto (tgt := 14) hx hb dJ0_coder_7d493_10 (by decide) ?_
  exact hret (0 : Int32) () (Nat.le_of_ble_eq_true rfl) (Nat.le_of_ble_eq_true rfl) rfl (rfl) hP hD hS dJ0_coder_7d493_14
abbrev rm_kJ0_isLatin1_aae02_17 : Room := { frames := 0, cells := 0, slots := 0, locals := 0 }
set_option maxHeartbeats 4000000 in
set_option maxRecDepth 100000 in
theorem kJ0_isLatin1_aae02_17 (l : Launch) (g : zL) : zCi l g yJ0_isLatin1_aae02 cJ0_isLatin1_aae02 1 (some .boolean) rm_kJ0_isLatin1_aae02_17 [.ref (g.2.2.1 17)] [] (fun (r : Int32) (u : Unit) => (r = (1 : Int32))) (fun (u : Unit) => []) := by
  refine zCi.mk2 (by decide) (Nat.le_of_ble_eq_true rfl) ?_
  intro p e s m below meth c A args Q hE hret hP hD hS ls hl
  obtain ⟨hx, hb, hr, hml, hown, hG, hlocks, hnm, hX, hA⟩ := hE
  have hown : s.vm.findClass RJ0 = some m.cls := hown
  have hl : lv_has ls 1 [(0, .ref (g.2.2.1 17))] := hl
  refine va_gets hx hb hX.2.2.2.2.1 hS hown (hG _ wf_J0_38) (fun _ h9 => h9) dJ0_isLatin1_aae02_0 ?_
  refine lv_if_eq (tgt := 17) hx hb dJ0_isLatin1_aae02_3 (by decide) (fun c1 => absurd c1 (by decide)) (fun c1 => ?_)
  refine lv_aload_n hx hb dJ0_isLatin1_aae02_6 rfl (lv_at hl 0 rfl) ?_
  refine vk_getf (v := .int 0) hx hb (hX.2.2.2.1.1 17 (by decide)).2.1 hS hown (hG _ wf_J0_15) (fun _ h9 => h9) dJ0_isLatin1_aae02_7 ?_
  refine lv_if_ne (tgt := 17) hx hb dJ0_isLatin1_aae02_10 (by decide) (fun c2 => (c2 (by decide)).elim) (fun c2 => ?_)
  refine lv_iconst (v := 1) hx hb dJ0_isLatin1_aae02_13 (by decide) ?_
  refine lv_goto (tgt := 18) hx hb dJ0_isLatin1_aae02_14 (by decide) ?_
  exact hret (1 : Int32) () (Nat.le_of_ble_eq_true rfl) (Nat.le_of_ble_eq_true rfl) rfl (rfl) hP hD hS dJ0_isLatin1_aae02_18
abbrev rm_kJ0_length_8abf5_17 : Room := { frames := 1, cells := 0, slots := 0, locals := 20 }
set_option maxHeartbeats 4000000 in
set_option maxRecDepth 100000 in
theorem kJ0_length_8abf5_17 (l : Launch) (g : zL) : zCi l g yJ0_length_8abf5 cJ0_length_8abf5 1 (some .int) rm_kJ0_length_8abf5_17 [.ref (g.2.2.1 17)] [] (fun (r : Int32) (u : Unit) => (r = (4 : Int32))) (fun (u : Unit) => []) := by
  refine zCi.mk2 (by decide) (Nat.le_of_ble_eq_true rfl) ?_
  intro p e s m below meth c A args Q hE hret hP hD hS ls hl
  obtain ⟨hx, hb, hr, hml, hown, hG, hlocks, hnm, hX, hA⟩ := hE
  have hown : s.vm.findClass RJ0 = some m.cls := hown
  have hl : lv_has ls 1 [(0, .ref (g.2.2.1 17))] := hl
  refine lv_aload_n hx hb dJ0_length_8abf5_0 rfl (lv_at hl 0 rfl) ?_
  refine vk_getf (v := .ref (g.2.2.2.1 17)) hx hb (hX.2.2.2.1.1 17 (by decide)).2.2.1 hS hown (hG _ wf_J0_9) (fun _ h9 => h9) dJ0_length_8abf5_1 ?_
  refine va_tlen (v := 4) hx hb (hX.2.2.2.1.1 17 (by decide)).2.2.2 hS (by decide) dJ0_length_8abf5_4 ?_
  refine lv_aload_n hx hb dJ0_length_8abf5_5 rfl (lv_at hl 0 rfl) ?_
  refine zfi (wr := []) (va_runV (As := []) (rest := [.int 4]) ⟨hx, hb, hml, hown, hG⟩ (kJ0_coder_7d493_17 l g _) ⟨callB_of 0 hG (zGood wc_J0_coder_7d493) rfl rfl rfl (hG _ wini_J0) (hG _ wm_J0_335) hJ0_coder_7d493 ⟨Nat.le_of_ble_eq_true rfl, Nat.le_of_ble_eq_true rfl⟩, hG _ wi_J0_coder_7d493, hG _ wse_J0_J0_coder_7d493⟩ (zpreV (vk_recv hX.2.2.2.1 (by decide) hS) hX hP hD hS hA [] rfl (by decide)) rfl rfl hl.1 rfl (lv_room (Nat.le_of_ble_eq_true rfl)) dJ0_length_8abf5_6 ⟨Nat.le_of_ble_eq_true rfl, Nat.le_of_ble_eq_true rfl⟩) hP hD hS hA [] [] rfl rfl (by decide) (by decide) (fun r1 _ H locs hp hP hD hS => ?_)
  refine W.cs (cells' := 0) (slots' := 0) rfl rfl ?_
  have hq2 : r1 = (0 : Int32) := hp
  subst hq2
  have hP : va_P g.1 vwCl [] H := hP
  have hD : va_D A [] := hD
  refine lv_ishr hx hb dJ0_length_8abf5_9 ?_
  refine zt (z := 4) (by decide) ?_
  exact hret (4 : Int32) () (Nat.le_of_ble_eq_true rfl) (Nat.le_of_ble_eq_true rfl) rfl (rfl) hP hD hS dJ0_length_8abf5_10
abbrev rm_kJ1_charAt_3b067_17 : Room := { frames := 2, cells := 0, slots := 0, locals := 43 }
set_option maxHeartbeats 4000000 in
set_option maxRecDepth 100000 in
theorem kJ1_charAt_3b067_17 (l : Launch) (g : zL) (x2 : Int32) (hy0 : 0 ≤ x2.toInt ∧ x2.toInt ≤ 3) : zCi l g yJ1_charAt_3b067 cJ1_charAt_3b067 2 (some .char) rm_kJ1_charAt_3b067_17 [.ref (g.2.2.2.1 17), .int x2] [] (fun (r : Int32) (u : Unit) => (pChr r)) (fun (u : Unit) => []) := by
  refine zCi.mk2 (by decide) (Nat.le_of_ble_eq_true rfl) ?_
  intro p e s m below meth c A args Q hE hret hP hD hS ls hl
  obtain ⟨hx, hb, hr, hml, hown, hG, hlocks, hnm, hX, hA⟩ := hE
  have hown : s.vm.findClass RJ1 = some m.cls := hown
  have hl : lv_has ls 2 [(0, .ref (g.2.2.2.1 17)), (1, .int x2)] := hl
  refine lv_iload_n hx hb dJ1_charAt_3b067_0 rfl (lv_at hl 1 rfl) ?_
  refine lv_aload_n hx hb dJ1_charAt_3b067_1 rfl (lv_at hl 0 rfl) ?_
  refine va_tlen (v := 4) hx hb (hX.2.2.2.1.1 17 (by decide)).2.2.2 hS (by decide) dJ1_charAt_3b067_2 ?_
  refine zfv (wr := []) (va_runS (As := [.int x2, .int 4]) (rest := []) ⟨hx, hb, hml, hown, hG⟩ (kJ0_checkIndex_df160 l g x2 (4 : Int32) (ox_446 hy0) ((show 0 ≤ (4 : Int) ∧ (4 : Int) ≤ 200 from by decide)) (ox_447 hy0) _) ⟨callB_of 2 hG (zGood wc_J0_checkIndex_df160) rfl rfl rfl (hG _ wini_J0) (hG _ wm_J1_9) hJ0_checkIndex_df160 ⟨Nat.le_of_ble_eq_true rfl, Nat.le_of_ble_eq_true rfl⟩, hG _ ws_J0_checkIndex_df160⟩ (zpreS hX hP hD hS hA [] rfl (by decide)) rfl rfl hl.1 rfl (lv_room (Nat.le_of_ble_eq_true rfl)) dJ1_charAt_3b067_3 ⟨Nat.le_of_ble_eq_true rfl, Nat.le_of_ble_eq_true rfl⟩) hP hD hS hA [] [] rfl rfl (by decide) (by decide) (fun _ H locs hp hP hD hS => ?_)
  refine W.cs (cells' := 0) (slots' := 0) rfl rfl ?_
  have hP : va_P g.1 vwCl [] H := hP
  have hD : va_D A [] := hD
  refine lv_aload_n hx hb dJ1_charAt_3b067_6 rfl (lv_at hl 0 rfl) ?_
  refine lv_iload_n hx hb dJ1_charAt_3b067_7 rfl (lv_at hl 1 rfl) ?_
  refine va_tb hx hb (hX.2.2.2.1.1 17 (by decide)).2.2.2 hS (zin (rfl : x2.toInt = _) (ox_448 hy0)) rfl dJ1_charAt_3b067_8 ?_
  refine lv_topi (fun z2 e3 => ?_)
  refine lv_sipush (v := 255) hx hb dJ1_charAt_3b067_9 (by decide) ?_
  refine lv_iand hx hb dJ1_charAt_3b067_12 ?_
  refine lv_topi (fun z4 e5 => ?_)
  have f6 : 0 ≤ z4.toInt ∧ z4.toInt ≤ (255 : Int) := zand e5 (show (255 : Int32).toInt = (255 : Int) from by decide) ((show 0 ≤ (255 : Int) from by decide))
  refine lv_i2c (v := (z4.toUInt32 % 65536).toInt32) hx hb dJ1_charAt_3b067_13 rfl ?_
  refine lv_topi (fun z7 e8 => ?_)
  exact hret z7 () (Nat.le_of_ble_eq_true rfl) (Nat.le_of_ble_eq_true rfl) (pChr.of e8) ((pChr.of e8)) hP hD hS dJ1_charAt_3b067_14
abbrev rm_kJ0_charAt_5068e_17 : Room := { frames := 3, cells := 0, slots := 0, locals := 64 }
set_option maxHeartbeats 4000000 in
set_option maxRecDepth 100000 in
theorem kJ0_charAt_5068e_17 (l : Launch) (g : zL) (x1 : Int32) (hy0 : 0 ≤ x1.toInt ∧ x1.toInt ≤ 3) : zCi l g yJ0_charAt_5068e cJ0_charAt_5068e 2 (some .char) rm_kJ0_charAt_5068e_17 [.ref (g.2.2.1 17), .int x1] [] (fun (r : Int32) (u : Unit) => (pChr r)) (fun (u : Unit) => []) := by
  refine zCi.mk2 (by decide) (Nat.le_of_ble_eq_true rfl) ?_
  intro p e s m below meth c A args Q hE hret hP hD hS ls hl
  obtain ⟨hx, hb, hr, hml, hown, hG, hlocks, hnm, hX, hA⟩ := hE
  have hown : s.vm.findClass RJ0 = some m.cls := hown
  have hl : lv_has ls 2 [(0, .ref (g.2.2.1 17)), (1, .int x1)] := hl
  refine lv_aload_n hx hb dJ0_charAt_5068e_0 rfl (lv_at hl 0 rfl) ?_
  refine zfi (wr := []) (va_runV (As := []) (rest := []) ⟨hx, hb, hml, hown, hG⟩ (kJ0_isLatin1_aae02_17 l g _) ⟨callB_of 0 hG (zGood wc_J0_isLatin1_aae02) rfl rfl rfl (hG _ wini_J0) (hG _ wm_J0_492) hJ0_isLatin1_aae02 ⟨Nat.le_of_ble_eq_true rfl, Nat.le_of_ble_eq_true rfl⟩, hG _ wi_J0_isLatin1_aae02, hG _ wse_J0_J0_isLatin1_aae02⟩ (zpreV (vk_recv hX.2.2.2.1 (by decide) hS) hX hP hD hS hA [] rfl (by decide)) rfl rfl hl.1 rfl (lv_room (Nat.le_of_ble_eq_true rfl)) dJ0_charAt_5068e_1 ⟨Nat.le_of_ble_eq_true rfl, Nat.le_of_ble_eq_true rfl⟩) hP hD hS hA [] [] rfl rfl (by decide) (by decide) (fun r1 _ H locs hp hP hD hS => ?_)
  refine W.cs (cells' := 0) (slots' := 0) rfl rfl ?_
  have hq2 : r1 = (1 : Int32) := hp
  subst hq2
  have hP : va_P g.1 vwCl [] H := hP
  have hD : va_D A [] := hD
  refine lv_if_eq (tgt := 16) hx hb dJ0_charAt_5068e_4 (by decide) (fun c3 => absurd c3 (by decide)) (fun c3 => ?_)
  refine lv_aload_n hx hb dJ0_charAt_5068e_7 rfl (lv_at hl 0 rfl) ?_
  refine vk_getf (v := .ref (g.2.2.2.1 17)) hx hb (hX.2.2.2.1.1 17 (by decide)).2.2.1 hS hown (hG _ wf_J0_9) (fun _ h9 => h9) dJ0_charAt_5068e_8 ?_
  refine lv_iload_n hx hb dJ0_charAt_5068e_11 rfl (lv_at hl 1 rfl) ?_
  refine zfi (wr := []) (va_runS (As := [.ref (g.2.2.2.1 17), .int x1]) (rest := []) ⟨hx, hb, hml, hown, hG⟩ (kJ1_charAt_3b067_17 l g x1 (ox_449 hy0) _) ⟨callB_of 2 hG (zGood wc_J1_charAt_3b067) rfl rfl rfl (hG _ wini_J1) (hG _ wm_J0_495) hJ1_charAt_3b067 ⟨Nat.le_of_ble_eq_true rfl, Nat.le_of_ble_eq_true rfl⟩, hG _ ws_J1_charAt_3b067⟩ (zpreS hX hP hD hS hA [] rfl (by decide)) rfl rfl hl.1 rfl (lv_room (Nat.le_of_ble_eq_true rfl)) dJ0_charAt_5068e_12 ⟨Nat.le_of_ble_eq_true rfl, Nat.le_of_ble_eq_true rfl⟩) hP hD hS hA [] [] rfl rfl (by decide) (by decide) (fun r4 _ H locs hp hP hD hS => ?_)
  refine W.cs (cells' := 0) (slots' := 0) rfl rfl ?_
  have hq5 : pChr r4 := hp
  have hP : va_P g.1 vwCl [] H := hP
  have hD : va_D A [] := hD
  exact hret r4 () (Nat.le_of_ble_eq_true rfl) (Nat.le_of_ble_eq_true rfl) hq5 (hq5) hP hD hS dJ0_charAt_5068e_15
abbrev rm_kJ0_coder_7d493_18 : Room := { frames := 0, cells := 0, slots := 0, locals := 0 }
set_option maxHeartbeats 4000000 in
set_option maxRecDepth 100000 in
theorem kJ0_coder_7d493_18 (l : Launch) (g : zL) : zCi l g yJ0_coder_7d493 cJ0_coder_7d493 1 (some .byte) rm_kJ0_coder_7d493_18 [.ref (g.2.2.1 18)] [] (fun (r : Int32) (u : Unit) => (r = (0 : Int32))) (fun (u : Unit) => []) := by
  refine zCi.mk2 (by decide) (Nat.le_of_ble_eq_true rfl) ?_
  intro p e s m below meth c A args Q hE hret hP hD hS ls hl
  obtain ⟨hx, hb, hr, hml, hown, hG, hlocks, hnm, hX, hA⟩ := hE
  have hown : s.vm.findClass RJ0 = some m.cls := hown
  have hl : lv_has ls 1 [(0, .ref (g.2.2.1 18))] := hl
  refine va_gets hx hb hX.2.2.2.2.1 hS hown (hG _ wf_J0_38) (fun _ h9 => h9) dJ0_coder_7d493_0 ?_
  refine lv_if_eq (tgt := 13) hx hb dJ0_coder_7d493_3 (by decide) (fun c1 => absurd c1 (by decide)) (fun c1 => ?_)
  refine lv_aload_n hx hb dJ0_coder_7d493_6 rfl (lv_at hl 0 rfl) ?_
  refine vk_getf (v := .int 0) hx hb (hX.2.2.2.1.1 18 (by decide)).2.1 hS hown (hG _ wf_J0_15) (fun _ h9 => h9) dJ0_coder_7d493_7 ?_
  refine lv_goto (tgt := 14) hx hb dJ0_coder_7d493_10 (by decide) ?_
  exact hret (0 : Int32) () (Nat.le_of_ble_eq_true rfl) (Nat.le_of_ble_eq_true rfl) rfl (rfl) hP hD hS dJ0_coder_7d493_14
abbrev rm_kJ0_isLatin1_aae02_18 : Room := { frames := 0, cells := 0, slots := 0, locals := 0 }
set_option maxHeartbeats 4000000 in
set_option maxRecDepth 100000 in
theorem kJ0_isLatin1_aae02_18 (l : Launch) (g : zL) : zCi l g yJ0_isLatin1_aae02 cJ0_isLatin1_aae02 1 (some .boolean) rm_kJ0_isLatin1_aae02_18 [.ref (g.2.2.1 18)] [] (fun (r : Int32) (u : Unit) => (r = (1 : Int32))) (fun (u : Unit) => []) := by
  refine zCi.mk2 (by decide) (Nat.le_of_ble_eq_true rfl) ?_
  intro p e s m below meth c A args Q hE hret hP hD hS ls hl
  obtain ⟨hx, hb, hr, hml, hown, hG, hlocks, hnm, hX, hA⟩ := hE
  have hown : s.vm.findClass RJ0 = some m.cls := hown
  have hl : lv_has ls 1 [(0, .ref (g.2.2.1 18))] := hl
  refine va_gets hx hb hX.2.2.2.2.1 hS hown (hG _ wf_J0_38) (fun _ h9 => h9) dJ0_isLatin1_aae02_0 ?_
  refine lv_if_eq (tgt := 17) hx hb dJ0_isLatin1_aae02_3 (by decide) (fun c1 => absurd c1 (by decide)) (fun c1 => ?_)
  refine lv_aload_n hx hb dJ0_isLatin1_aae02_6 rfl (lv_at hl 0 rfl) ?_
  refine vk_getf (v := .int 0) hx hb (hX.2.2.2.1.1 18 (by decide)).2.1 hS hown (hG _ wf_J0_15) (fun _ h9 => h9) dJ0_isLatin1_aae02_7 ?_
  refine lv_if_ne (tgt := 17) hx hb dJ0_isLatin1_aae02_10 (by decide) (fun c2 => (c2 (by decide)).elim) (fun c2 => ?_)
  refine lv_iconst (v := 1) hx hb dJ0_isLatin1_aae02_13 (by decide) ?_
  refine lv_goto (tgt := 18) hx hb dJ0_isLatin1_aae02_14 (by decide) ?_
  exact hret (1 : Int32) () (Nat.le_of_ble_eq_true rfl) (Nat.le_of_ble_eq_true rfl) rfl (rfl) hP hD hS dJ0_isLatin1_aae02_18
abbrev rm_kJ0_length_8abf5_18 : Room := { frames := 1, cells := 0, slots := 0, locals := 20 }
set_option maxHeartbeats 4000000 in
set_option maxRecDepth 100000 in
theorem kJ0_length_8abf5_18 (l : Launch) (g : zL) : zCi l g yJ0_length_8abf5 cJ0_length_8abf5 1 (some .int) rm_kJ0_length_8abf5_18 [.ref (g.2.2.1 18)] [] (fun (r : Int32) (u : Unit) => (r = (5 : Int32))) (fun (u : Unit) => []) := by
  refine zCi.mk2 (by decide) (Nat.le_of_ble_eq_true rfl) ?_
  intro p e s m below meth c A args Q hE hret hP hD hS ls hl
  obtain ⟨hx, hb, hr, hml, hown, hG, hlocks, hnm, hX, hA⟩ := hE
  have hown : s.vm.findClass RJ0 = some m.cls := hown
  have hl : lv_has ls 1 [(0, .ref (g.2.2.1 18))] := hl
  refine lv_aload_n hx hb dJ0_length_8abf5_0 rfl (lv_at hl 0 rfl) ?_
  refine vk_getf (v := .ref (g.2.2.2.1 18)) hx hb (hX.2.2.2.1.1 18 (by decide)).2.2.1 hS hown (hG _ wf_J0_9) (fun _ h9 => h9) dJ0_length_8abf5_1 ?_
  refine va_tlen (v := 5) hx hb (hX.2.2.2.1.1 18 (by decide)).2.2.2 hS (by decide) dJ0_length_8abf5_4 ?_
  refine lv_aload_n hx hb dJ0_length_8abf5_5 rfl (lv_at hl 0 rfl) ?_
  refine zfi (wr := []) (va_runV (As := []) (rest := [.int 5]) ⟨hx, hb, hml, hown, hG⟩ (kJ0_coder_7d493_18 l g _) ⟨callB_of 0 hG (zGood wc_J0_coder_7d493) rfl rfl rfl (hG _ wini_J0) (hG _ wm_J0_335) hJ0_coder_7d493 ⟨Nat.le_of_ble_eq_true rfl, Nat.le_of_ble_eq_true rfl⟩, hG _ wi_J0_coder_7d493, hG _ wse_J0_J0_coder_7d493⟩ (zpreV (vk_recv hX.2.2.2.1 (by decide) hS) hX hP hD hS hA [] rfl (by decide)) rfl rfl hl.1 rfl (lv_room (Nat.le_of_ble_eq_true rfl)) dJ0_length_8abf5_6 ⟨Nat.le_of_ble_eq_true rfl, Nat.le_of_ble_eq_true rfl⟩) hP hD hS hA [] [] rfl rfl (by decide) (by decide) (fun r1 _ H locs hp hP hD hS => ?_)
  refine W.cs (cells' := 0) (slots' := 0) rfl rfl ?_
  have hq2 : r1 = (0 : Int32) := hp
  subst hq2
  have hP : va_P g.1 vwCl [] H := hP
  have hD : va_D A [] := hD
  refine lv_ishr hx hb dJ0_length_8abf5_9 ?_
  refine zt (z := 5) (by decide) ?_
  exact hret (5 : Int32) () (Nat.le_of_ble_eq_true rfl) (Nat.le_of_ble_eq_true rfl) rfl (rfl) hP hD hS dJ0_length_8abf5_10
abbrev rm_kJ1_charAt_3b067_18 : Room := { frames := 2, cells := 0, slots := 0, locals := 43 }
set_option maxHeartbeats 4000000 in
set_option maxRecDepth 100000 in
theorem kJ1_charAt_3b067_18 (l : Launch) (g : zL) (x2 : Int32) (hy0 : 0 ≤ x2.toInt ∧ x2.toInt ≤ 4) : zCi l g yJ1_charAt_3b067 cJ1_charAt_3b067 2 (some .char) rm_kJ1_charAt_3b067_18 [.ref (g.2.2.2.1 18), .int x2] [] (fun (r : Int32) (u : Unit) => (pChr r)) (fun (u : Unit) => []) := by
  refine zCi.mk2 (by decide) (Nat.le_of_ble_eq_true rfl) ?_
  intro p e s m below meth c A args Q hE hret hP hD hS ls hl
  obtain ⟨hx, hb, hr, hml, hown, hG, hlocks, hnm, hX, hA⟩ := hE
  have hown : s.vm.findClass RJ1 = some m.cls := hown
  have hl : lv_has ls 2 [(0, .ref (g.2.2.2.1 18)), (1, .int x2)] := hl
  refine lv_iload_n hx hb dJ1_charAt_3b067_0 rfl (lv_at hl 1 rfl) ?_
  refine lv_aload_n hx hb dJ1_charAt_3b067_1 rfl (lv_at hl 0 rfl) ?_
  refine va_tlen (v := 5) hx hb (hX.2.2.2.1.1 18 (by decide)).2.2.2 hS (by decide) dJ1_charAt_3b067_2 ?_
  refine zfv (wr := []) (va_runS (As := [.int x2, .int 5]) (rest := []) ⟨hx, hb, hml, hown, hG⟩ (kJ0_checkIndex_df160 l g x2 (5 : Int32) (ox_442 hy0) ((show 0 ≤ (5 : Int) ∧ (5 : Int) ≤ 200 from by decide)) (ox_443 hy0) _) ⟨callB_of 2 hG (zGood wc_J0_checkIndex_df160) rfl rfl rfl (hG _ wini_J0) (hG _ wm_J1_9) hJ0_checkIndex_df160 ⟨Nat.le_of_ble_eq_true rfl, Nat.le_of_ble_eq_true rfl⟩, hG _ ws_J0_checkIndex_df160⟩ (zpreS hX hP hD hS hA [] rfl (by decide)) rfl rfl hl.1 rfl (lv_room (Nat.le_of_ble_eq_true rfl)) dJ1_charAt_3b067_3 ⟨Nat.le_of_ble_eq_true rfl, Nat.le_of_ble_eq_true rfl⟩) hP hD hS hA [] [] rfl rfl (by decide) (by decide) (fun _ H locs hp hP hD hS => ?_)
  refine W.cs (cells' := 0) (slots' := 0) rfl rfl ?_
  have hP : va_P g.1 vwCl [] H := hP
  have hD : va_D A [] := hD
  refine lv_aload_n hx hb dJ1_charAt_3b067_6 rfl (lv_at hl 0 rfl) ?_
  refine lv_iload_n hx hb dJ1_charAt_3b067_7 rfl (lv_at hl 1 rfl) ?_
  refine va_tb hx hb (hX.2.2.2.1.1 18 (by decide)).2.2.2 hS (zin (rfl : x2.toInt = _) (ox_444 hy0)) rfl dJ1_charAt_3b067_8 ?_
  refine lv_topi (fun z2 e3 => ?_)
  refine lv_sipush (v := 255) hx hb dJ1_charAt_3b067_9 (by decide) ?_
  refine lv_iand hx hb dJ1_charAt_3b067_12 ?_
  refine lv_topi (fun z4 e5 => ?_)
  have f6 : 0 ≤ z4.toInt ∧ z4.toInt ≤ (255 : Int) := zand e5 (show (255 : Int32).toInt = (255 : Int) from by decide) ((show 0 ≤ (255 : Int) from by decide))
  refine lv_i2c (v := (z4.toUInt32 % 65536).toInt32) hx hb dJ1_charAt_3b067_13 rfl ?_
  refine lv_topi (fun z7 e8 => ?_)
  exact hret z7 () (Nat.le_of_ble_eq_true rfl) (Nat.le_of_ble_eq_true rfl) (pChr.of e8) ((pChr.of e8)) hP hD hS dJ1_charAt_3b067_14
abbrev rm_kJ0_charAt_5068e_18 : Room := { frames := 3, cells := 0, slots := 0, locals := 64 }
set_option maxHeartbeats 4000000 in
set_option maxRecDepth 100000 in
theorem kJ0_charAt_5068e_18 (l : Launch) (g : zL) (x1 : Int32) (hy0 : 0 ≤ x1.toInt ∧ x1.toInt ≤ 4) : zCi l g yJ0_charAt_5068e cJ0_charAt_5068e 2 (some .char) rm_kJ0_charAt_5068e_18 [.ref (g.2.2.1 18), .int x1] [] (fun (r : Int32) (u : Unit) => (pChr r)) (fun (u : Unit) => []) := by
  refine zCi.mk2 (by decide) (Nat.le_of_ble_eq_true rfl) ?_
  intro p e s m below meth c A args Q hE hret hP hD hS ls hl
  obtain ⟨hx, hb, hr, hml, hown, hG, hlocks, hnm, hX, hA⟩ := hE
  have hown : s.vm.findClass RJ0 = some m.cls := hown
  have hl : lv_has ls 2 [(0, .ref (g.2.2.1 18)), (1, .int x1)] := hl
  refine lv_aload_n hx hb dJ0_charAt_5068e_0 rfl (lv_at hl 0 rfl) ?_
  refine zfi (wr := []) (va_runV (As := []) (rest := []) ⟨hx, hb, hml, hown, hG⟩ (kJ0_isLatin1_aae02_18 l g _) ⟨callB_of 0 hG (zGood wc_J0_isLatin1_aae02) rfl rfl rfl (hG _ wini_J0) (hG _ wm_J0_492) hJ0_isLatin1_aae02 ⟨Nat.le_of_ble_eq_true rfl, Nat.le_of_ble_eq_true rfl⟩, hG _ wi_J0_isLatin1_aae02, hG _ wse_J0_J0_isLatin1_aae02⟩ (zpreV (vk_recv hX.2.2.2.1 (by decide) hS) hX hP hD hS hA [] rfl (by decide)) rfl rfl hl.1 rfl (lv_room (Nat.le_of_ble_eq_true rfl)) dJ0_charAt_5068e_1 ⟨Nat.le_of_ble_eq_true rfl, Nat.le_of_ble_eq_true rfl⟩) hP hD hS hA [] [] rfl rfl (by decide) (by decide) (fun r1 _ H locs hp hP hD hS => ?_)
  refine W.cs (cells' := 0) (slots' := 0) rfl rfl ?_
  have hq2 : r1 = (1 : Int32) := hp
  subst hq2
  have hP : va_P g.1 vwCl [] H := hP
  have hD : va_D A [] := hD
  refine lv_if_eq (tgt := 16) hx hb dJ0_charAt_5068e_4 (by decide) (fun c3 => absurd c3 (by decide)) (fun c3 => ?_)
  refine lv_aload_n hx hb dJ0_charAt_5068e_7 rfl (lv_at hl 0 rfl) ?_
  refine vk_getf (v := .ref (g.2.2.2.1 18)) hx hb (hX.2.2.2.1.1 18 (by decide)).2.2.1 hS hown (hG _ wf_J0_9) (fun _ h9 => h9) dJ0_charAt_5068e_8 ?_
  refine lv_iload_n hx hb dJ0_charAt_5068e_11 rfl (lv_at hl 1 rfl) ?_
  refine zfi (wr := []) (va_runS (As := [.ref (g.2.2.2.1 18), .int x1]) (rest := []) ⟨hx, hb, hml, hown, hG⟩ (kJ1_charAt_3b067_18 l g x1 (ox_445 hy0) _) ⟨callB_of 2 hG (zGood wc_J1_charAt_3b067) rfl rfl rfl (hG _ wini_J1) (hG _ wm_J0_495) hJ1_charAt_3b067 ⟨Nat.le_of_ble_eq_true rfl, Nat.le_of_ble_eq_true rfl⟩, hG _ ws_J1_charAt_3b067⟩ (zpreS hX hP hD hS hA [] rfl (by decide)) rfl rfl hl.1 rfl (lv_room (Nat.le_of_ble_eq_true rfl)) dJ0_charAt_5068e_12 ⟨Nat.le_of_ble_eq_true rfl, Nat.le_of_ble_eq_true rfl⟩) hP hD hS hA [] [] rfl rfl (by decide) (by decide) (fun r4 _ H locs hp hP hD hS => ?_)
  refine W.cs (cells' := 0) (slots' := 0) rfl rfl ?_
  have hq5 : pChr r4 := hp
  have hP : va_P g.1 vwCl [] H := hP
  have hD : va_D A [] := hD
  exact hret r4 () (Nat.le_of_ble_eq_true rfl) (Nat.le_of_ble_eq_true rfl) hq5 (hq5) hP hD hS dJ0_charAt_5068e_15
