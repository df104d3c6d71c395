theorem dX7_init_0 : decode cX7_init 0 = .ok (.aload_n 0, 1) := by decide +kernel
theorem dX7_init_1 : decode cX7_init 1 = .ok (.invokespecial 3, 3) := by decide +kernel
theorem dX7_init_4 : decode cX7_init 4 = .ok (.aload_n 0, 1) := by decide +kernel
theorem dX7_init_5 : decode cX7_init 5 = .ok (.sipush 1200, 3) := by decide +kernel
theorem dX7_init_8 : decode cX7_init 8 = .ok (.newarray .byte, 2) := by decide +kernel
theorem dX7_init_10 : decode cX7_init 10 = .ok (.putfield 9, 3) := by decide +kernel
theorem dX7_init_13 : decode cX7_init 13 = .ok (.return_, 1) := by decide +kernel
set_option maxHeartbeats 4000000 in
set_option maxRecDepth 100000 in
theorem kX7_init (l : Launch) (g : zL) (h0 : Nat) : zCv l g yX7_init cX7_init 1 none { frames := 1, cells := 1, slots := 1200, locals := 12 } [.ref h0] [(h0, .inr (7, [.null, .int 0]))] (fun (u : (Nat)) => True) (fun (u : (Nat)) => [(h0, .inr (7, [.ref u, .int 0])), (u, .inl (g.2.1.2.1, 1200, .inl (fun _ => 0)))]) := by
  refine zCv.mk (by decide) (Nat.le_of_ble_eq_true rfl) ?_
  intro p e s m below meth c A hE hP hD hS ls hl
  obtain ⟨hx, hb, hr, hml, hown, hG, hlocks, hnm, hX, hA⟩ := hE
  have hown : s.vm.findClass RX7 = some m.cls := hown
  have hnm : meth.name = "<init>" := hnm
  have hl : lv_has ls 1 [(0, .ref h0)] := hl
  refine lv_aload_n hx hb dX7_init_0 rfl (lv_at hl 0 rfl) ?_
  refine W.objInit hx hb hown (hG _ g233) (hG _ g226) (hG _ g227) rfl (by rw [hml]; exact hl.1) rfl dX7_init_1 (Nat.le_of_ble_eq_true rfl) (Nat.le_of_ble_eq_true rfl) ?_
  refine W.eq (g2 := F0 m 4 ls []) rfl ?_
  refine lv_aload_n hx hb dX7_init_4 rfl (lv_at hl 0 rfl) ?_
  refine lv_sipush (v := 1200) hx hb dX7_init_5 (by decide) ?_
  refine zna (atype := .byte) (N' := 1200) (a0 := (1200, .inl (fun _ => 0))) hx hb (hG _ g244) (ty := .byte) rfl 1 rfl (fun _ h9 => va_nm_byte h9) hX hP hD hS hA (fun _ => rfl) (by decide) (by decide) (Nat.le_of_ble_eq_true rfl) (Nat.le_of_ble_eq_true rfl) (Nat.le_of_ble_eq_true rfl) dX7_init_8 (fun q1 H hP hD hS => ?_)
  refine W.cs (cells' := 1) (slots' := 1200) rfl rfl ?_
  have hP : va_P g.1 vwCl [(h0, .inr (7, [.null, .int 0])), (q1, .inl (g.2.1.2.1, 1200, .inl (fun _ => 0)))] H := hP
  have hD : va_D A [(h0, .inr (7, [.null, .int 0])), (q1, .inl (g.2.1.2.1, 1200, .inl (fun _ => 0)))] := hD
  refine va_putF (D := g.1) (ci := 7) (v := .ref q1) (ty := (.array .byte)) (C := RX7) (T := TX7) (N := 2) hx hb hG iX7 tyX7 tyX7_ok nmX7 hown hX.1 hP hD hS 0 rfl rfl 0 (by decide) (hG _ g234) (fun _ h9 => h9) rfl hnm rfl (by decide +kernel) rfl rfl (Nat.le_of_ble_eq_true rfl) dX7_init_10 (fun H locs hP hD hS => ?_)
  have hP : va_P g.1 vwCl [(h0, .inr (7, [.ref q1, .int 0])), (q1, .inl (g.2.1.2.1, 1200, .inl (fun _ => 0)))] H := hP
  have hD : va_D A [(h0, .inr (7, [.ref q1, .int 0])), (q1, .inl (g.2.1.2.1, 1200, .inl (fun _ => 0)))] := hD
  exact zrv (rm := { frames := 1, cells := 1, slots := 1200, locals := 12 }) q1 hx hb hr hlocks (Nat.le_of_ble_eq_true rfl) (Nat.le_of_ble_eq_true rfl) (trivial) hP hD hS dX7_init_13
theorem dX6_init_0 : decode cX6_init 0 = .ok (.aload_n 0, 1) := by decide +kernel
theorem dX6_init_1 : decode cX6_init 1 = .ok (.invokespecial 3, 3) := by decide +kernel
theorem dX6_init_4 : decode cX6_init 4 = .ok (.aload_n 0, 1) := by decide +kernel
theorem dX6_init_5 : decode cX6_init 5 = .ok (.iconst (-1), 1) := by decide +kernel
theorem dX6_init_6 : decode cX6_init 6 = .ok (.putfield 9, 3) := by decide +kernel
theorem dX6_init_9 : decode cX6_init 9 = .ok (.aload_n 0, 1) := by decide +kernel
theorem dX6_init_10 : decode cX6_init 10 = .ok (.aload_n 1, 1) := by decide +kernel
theorem dX6_init_11 : decode cX6_init 11 = .ok (.putfield 15, 3) := by decide +kernel
theorem dX6_init_14 : decode cX6_init 14 = .ok (.return_, 1) := by decide +kernel
set_option maxHeartbeats 4000000 in
set_option maxRecDepth 100000 in
theorem kX6_init (l : Launch) (g : zL) (h0 : Nat) (xt : Nat) : zCv l g yX6_init cX6_init 2 none { frames := 1, cells := 0, slots := 0, locals := 12 } [.ref h0, .ref xt] [(h0, .inr (6, [.null, .null, .int 0, .int 0, .int 0, .int 0, .int 0]))] (fun (u : Unit) => True) (fun (u : Unit) => [(h0, .inr (6, [.ref xt, .null, .int 0, .int 0, .int 0, .int 0, .int (-1)]))]) := by
  refine zCv.mk (by decide) (Nat.le_of_ble_eq_true rfl) ?_
  intro p e s m below meth c A hE hP hD hS ls hl
  obtain ⟨hx, hb, hr, hml, hown, hG, hlocks, hnm, hX, hA⟩ := hE
  have hown : s.vm.findClass RX6 = some m.cls := hown
  have hnm : meth.name = "<init>" := hnm
  have hl : lv_has ls 2 [(0, .ref h0), (1, .ref xt)] := hl
  refine lv_aload_n hx hb dX6_init_0 rfl (lv_at hl 0 rfl) ?_
  refine W.objInit hx hb hown (hG _ g250) (hG _ g226) (hG _ g227) rfl (by rw [hml]; exact hl.1) rfl dX6_init_1 (Nat.le_of_ble_eq_true rfl) (Nat.le_of_ble_eq_true rfl) ?_
  refine W.eq (g2 := F0 m 4 ls []) rfl ?_
  refine lv_aload_n hx hb dX6_init_4 rfl (lv_at hl 0 rfl) ?_
  refine lv_iconst (v := (-1)) hx hb dX6_init_5 (by decide) ?_
  refine va_put (D := g.1) (ci := 6) (v := .int (-1)) (ty := .int) (C := RX6) (T := TX6) (N := 7) hx hb hG iX6 tyX6 tyX6_ok nmX6 hown hX.1 hP hD hS 0 rfl rfl 6 (by decide) (hG _ g258) (fun _ h9 => h9) rfl (by decide +kernel) rfl rfl (Nat.le_of_ble_eq_true rfl) dX6_init_6 (fun H locs hP hD hS => ?_)
  have hP : va_P g.1 vwCl [(h0, .inr (6, [.null, .null, .int 0, .int 0, .int 0, .int 0, .int (-1)]))] H := hP
  have hD : va_D A [(h0, .inr (6, [.null, .null, .int 0, .int 0, .int 0, .int 0, .int (-1)]))] := hD
  refine lv_aload_n hx hb dX6_init_9 rfl (lv_at hl 0 rfl) ?_
  refine lv_aload_n hx hb dX6_init_10 rfl (lv_at hl 1 rfl) ?_
  refine va_putF (D := g.1) (ci := 6) (v := .ref xt) (ty := (.object "SheetFolds$Tape")) (C := RX6) (T := TX6) (N := 7) hx hb hG iX6 tyX6 tyX6_ok nmX6 hown hX.1 hP hD hS 0 rfl rfl 0 (by decide) (hG _ g251) (fun _ h9 => h9) rfl hnm rfl (by decide +kernel) rfl rfl (Nat.le_of_ble_eq_true rfl) dX6_init_11 (fun H locs hP hD hS => ?_)
  have hP : va_P g.1 vwCl [(h0, .inr (6, [.ref xt, .null, .int 0, .int 0, .int 0, .int 0, .int (-1)]))] H := hP
  have hD : va_D A [(h0, .inr (6, [.ref xt, .null, .int 0, .int 0, .int 0, .int 0, .int (-1)]))] := hD
  exact zrv (rm := { frames := 1, cells := 0, slots := 0, locals := 12 }) () hx hb hr hlocks (Nat.le_of_ble_eq_true rfl) (Nat.le_of_ble_eq_true rfl) (trivial) hP hD hS dX6_init_14
theorem dX5_init_0 : decode cX5_init 0 = .ok (.aload_n 0, 1) := by decide +kernel
theorem dX5_init_1 : decode cX5_init 1 = .ok (.invokespecial 5, 3) := by decide +kernel
theorem dX5_init_4 : decode cX5_init 4 = .ok (.aload_n 0, 1) := by decide +kernel
theorem dX5_init_5 : decode cX5_init 5 = .ok (.bipush 54, 2) := by decide +kernel
theorem dX5_init_7 : decode cX5_init 7 = .ok (.newarray .int, 2) := by decide +kernel
theorem dX5_init_9 : decode cX5_init 9 = .ok (.putfield 11, 3) := by decide +kernel
theorem dX5_init_12 : decode cX5_init 12 = .ok (.aload_n 0, 1) := by decide +kernel
theorem dX5_init_13 : decode cX5_init 13 = .ok (.bipush 54, 2) := by decide +kernel
theorem dX5_init_15 : decode cX5_init 15 = .ok (.newarray .int, 2) := by decide +kernel
theorem dX5_init_17 : decode cX5_init 17 = .ok (.putfield 15, 3) := by decide +kernel
theorem dX5_init_20 : decode cX5_init 20 = .ok (.aload_n 0, 1) := by decide +kernel
theorem dX5_init_21 : decode cX5_init 21 = .ok (.bipush 18, 2) := by decide +kernel
theorem dX5_init_23 : decode cX5_init 23 = .ok (.newarray .int, 2) := by decide +kernel
theorem dX5_init_25 : decode cX5_init 25 = .ok (.putfield 18, 3) := by decide +kernel
theorem dX5_init_28 : decode cX5_init 28 = .ok (.aload_n 0, 1) := by decide +kernel
theorem dX5_init_29 : decode cX5_init 29 = .ok (.bipush 27, 2) := by decide +kernel
theorem dX5_init_31 : decode cX5_init 31 = .ok (.newarray .int, 2) := by decide +kernel
theorem dX5_init_33 : decode cX5_init 33 = .ok (.putfield 21, 3) := by decide +kernel
theorem dX5_init_36 : decode cX5_init 36 = .ok (.aload_n 0, 1) := by decide +kernel
theorem dX5_init_37 : decode cX5_init 37 = .ok (.bipush 9, 2) := by decide +kernel
theorem dX5_init_39 : decode cX5_init 39 = .ok (.newarray .int, 2) := by decide +kernel
theorem dX5_init_41 : decode cX5_init 41 = .ok (.putfield 24, 3) := by decide +kernel
theorem dX5_init_44 : decode cX5_init 44 = .ok (.aload_n 0, 1) := by decide +kernel
theorem dX5_init_45 : decode cX5_init 45 = .ok (.bipush 9, 2) := by decide +kernel
theorem dX5_init_47 : decode cX5_init 47 = .ok (.newarray .int, 2) := by decide +kernel
theorem dX5_init_49 : decode cX5_init 49 = .ok (.putfield 27, 3) := by decide +kernel
theorem dX5_init_52 : decode cX5_init 52 = .ok (.aload_n 0, 1) := by decide +kernel
theorem dX5_init_53 : decode cX5_init 53 = .ok (.iconst 3, 1) := by decide +kernel
theorem dX5_init_54 : decode cX5_init 54 = .ok (.newarray .int, 2) := by decide +kernel
theorem dX5_init_56 : decode cX5_init 56 = .ok (.putfield 30, 3) := by decide +kernel
theorem dX5_init_59 : decode cX5_init 59 = .ok (.aload_n 0, 1) := by decide +kernel
theorem dX5_init_60 : decode cX5_init 60 = .ok (.iconst 3, 1) := by decide +kernel
theorem dX5_init_61 : decode cX5_init 61 = .ok (.newarray .int, 2) := by decide +kernel
theorem dX5_init_63 : decode cX5_init 63 = .ok (.putfield 33, 3) := by decide +kernel
theorem dX5_init_66 : decode cX5_init 66 = .ok (.return_, 1) := by decide +kernel
set_option maxHeartbeats 4000000 in
set_option maxRecDepth 100000 in
theorem kX5_init (l : Launch) (g : zL) (h0 : Nat) : zCv l g yX5_init cX5_init 1 none { frames := 1, cells := 8, slots := 177, locals := 12 } [.ref h0] [(h0, .inr (5, [.null, .null, .null, .null, .null, .null, .null, .null]))] (fun (u : Nat → Nat) => True) (fun (u : Nat → Nat) => [(h0, .inr (5, [.ref (u 0), .ref (u 1), .ref (u 2), .ref (u 3), .ref (u 4), .ref (u 5), .ref (u 6), .ref (u 7)]))]) := by
  refine zCv.mk (by decide) (Nat.le_of_ble_eq_true rfl) ?_
  intro p e s m below meth c A hE hP hD hS ls hl
  obtain ⟨hx, hb, hr, hml, hown, hG, hlocks, hnm, hX, hA⟩ := hE
  have hown : s.vm.findClass RX5 = some m.cls := hown
  have hnm : meth.name = "<init>" := hnm
  have hl : lv_has ls 1 [(0, .ref h0)] := hl
  refine lv_aload_n hx hb dX5_init_0 rfl (lv_at hl 0 rfl) ?_
  refine W.objInit hx hb hown (hG _ g280) (hG _ g226) (hG _ g227) rfl (by rw [hml]; exact hl.1) rfl dX5_init_1 (Nat.le_of_ble_eq_true rfl) (Nat.le_of_ble_eq_true rfl) ?_
  refine W.eq (g2 := F0 m 4 ls []) rfl ?_
  refine lv_aload_n hx hb dX5_init_4 rfl (lv_at hl 0 rfl) ?_
  refine lv_bipush (v := 54) hx hb dX5_init_5 (by decide) ?_
  refine zna (atype := .int) (N' := 54) (a0 := (54, .inl (fun _ => 0))) hx hb (hG _ g306) (ty := .int) rfl 0 rfl (fun _ h9 => va_nm_int h9) hX hP hD hS hA (fun _ => rfl) (by decide) (by decide) (Nat.le_of_ble_eq_true rfl) (Nat.le_of_ble_eq_true rfl) (Nat.le_of_ble_eq_true rfl) dX5_init_7 (fun q1 H hP hD hS => ?_)
  refine W.cs (cells' := 1) (slots' := 54) rfl rfl ?_
  have hP : va_P g.1 vwCl [(h0, .inr (5, [.null, .null, .null, .null, .null, .null, .null, .null])), (q1, .inl (g.2.1.1, 54, .inl (fun _ => 0)))] H := hP
  have hD : va_D A [(h0, .inr (5, [.null, .null, .null, .null, .null, .null, .null, .null])), (q1, .inl (g.2.1.1, 54, .inl (fun _ => 0)))] := hD
  refine va_putF (D := g.1) (ci := 5) (v := .ref q1) (ty := (.array .int)) (C := RX5) (T := TX5) (N := 8) hx hb hG iX5 tyX5 tyX5_ok nmX5 hown hX.1 hP hD hS 0 rfl rfl 0 (by decide) (hG _ g281) (fun _ h9 => h9) rfl hnm rfl (by decide +kernel) rfl rfl (Nat.le_of_ble_eq_true rfl) dX5_init_9 (fun H locs hP hD hS => ?_)
  have hP : va_P g.1 vwCl [(h0, .inr (5, [.ref q1, .null, .null, .null, .null, .null, .null, .null])), (q1, .inl (g.2.1.1, 54, .inl (fun _ => 0)))] H := hP
  have hD : va_D A [(h0, .inr (5, [.ref q1, .null, .null, .null, .null, .null, .null, .null])), (q1, .inl (g.2.1.1, 54, .inl (fun _ => 0)))] := hD
  refine lv_aload_n hx hb dX5_init_12 rfl (lv_at hl 0 rfl) ?_
  refine lv_bipush (v := 54) hx hb dX5_init_13 (by decide) ?_
  refine zna (atype := .int) (N' := 54) (a0 := (54, .inl (fun _ => 0))) hx hb (hG _ g306) (ty := .int) rfl 0 rfl (fun _ h9 => va_nm_int h9) hX hP hD hS hA (fun _ => rfl) (by decide) (by decide) (Nat.le_of_ble_eq_true rfl) (Nat.le_of_ble_eq_true rfl) (Nat.le_of_ble_eq_true rfl) dX5_init_15 (fun q2 H hP hD hS => ?_)
  refine W.cs (cells' := 2) (slots' := 108) rfl rfl ?_
  have hP : va_P g.1 vwCl [(h0, .inr (5, [.ref q1, .null, .null, .null, .null, .null, .null, .null])), (q1, .inl (g.2.1.1, 54, .inl (fun _ => 0))), (q2, .inl (g.2.1.1, 54, .inl (fun _ => 0)))] H := hP
  have hD : va_D A [(h0, .inr (5, [.ref q1, .null, .null, .null, .null, .null, .null, .null])), (q1, .inl (g.2.1.1, 54, .inl (fun _ => 0))), (q2, .inl (g.2.1.1, 54, .inl (fun _ => 0)))] := hD
  refine va_putF (D := g.1) (ci := 5) (v := .ref q2) (ty := (.array .int)) (C := RX5) (T := TX5) (N := 8) hx hb hG iX5 tyX5 tyX5_ok nmX5 hown hX.1 hP hD hS 0 rfl rfl 1 (by decide) (hG _ g282) (fun _ h9 => h9) rfl hnm rfl (by decide +kernel) rfl rfl (Nat.le_of_ble_eq_true rfl) dX5_init_17 (fun H locs hP hD hS => ?_)
  have hP : va_P g.1 vwCl [(h0, .inr (5, [.ref q1, .ref q2, .null, .null, .null, .null, .null, .null])), (q1, .inl (g.2.1.1, 54, .inl (fun _ => 0))), (q2, .inl (g.2.1.1, 54, .inl (fun _ => 0)))] H := hP
  have hD : va_D A [(h0, .inr (5, [.ref q1, .ref q2, .null, .null, .null, .null, .null, .null])), (q1, .inl (g.2.1.1, 54, .inl (fun _ => 0))), (q2, .inl (g.2.1.1, 54, .inl (fun _ => 0)))] := hD
  refine lv_aload_n hx hb dX5_init_20 rfl (lv_at hl 0 rfl) ?_
  refine lv_bipush (v := 18) hx hb dX5_init_21 (by decide) ?_
  refine zna (atype := .int) (N' := 18) (a0 := (18, .inl (fun _ => 0))) hx hb (hG _ g306) (ty := .int) rfl 0 rfl (fun _ h9 => va_nm_int h9) hX hP hD hS hA (fun _ => rfl) (by decide) (by decide) (Nat.le_of_ble_eq_true rfl) (Nat.le_of_ble_eq_true rfl) (Nat.le_of_ble_eq_true rfl) dX5_init_23 (fun q3 H hP hD hS => ?_)
  refine W.cs (cells' := 3) (slots' := 126) rfl rfl ?_
  have hP : va_P g.1 vwCl [(h0, .inr (5, [.ref q1, .ref q2, .null, .null, .null, .null, .null, .null])), (q1, .inl (g.2.1.1, 54, .inl (fun _ => 0))), (q2, .inl (g.2.1.1, 54, .inl (fun _ => 0))), (q3, .inl (g.2.1.1, 18, .inl (fun _ => 0)))] H := hP
  have hD : va_D A [(h0, .inr (5, [.ref q1, .ref q2, .null, .null, .null, .null, .null, .null])), (q1, .inl (g.2.1.1, 54, .inl (fun _ => 0))), (q2, .inl (g.2.1.1, 54, .inl (fun _ => 0))), (q3, .inl (g.2.1.1, 18, .inl (fun _ => 0)))] := hD
  refine va_putF (D := g.1) (ci := 5) (v := .ref q3) (ty := (.array .int)) (C := RX5) (T := TX5) (N := 8) hx hb hG iX5 tyX5 tyX5_ok nmX5 hown hX.1 hP hD hS 0 rfl rfl 2 (by decide) (hG _ g283) (fun _ h9 => h9) rfl hnm rfl (by decide +kernel) rfl rfl (Nat.le_of_ble_eq_true rfl) dX5_init_25 (fun H locs hP hD hS => ?_)
  have hP : va_P g.1 vwCl [(h0, .inr (5, [.ref q1, .ref q2, .ref q3, .null, .null, .null, .null, .null])), (q1, .inl (g.2.1.1, 54, .inl (fun _ => 0))), (q2, .inl (g.2.1.1, 54, .inl (fun _ => 0))), (q3, .inl (g.2.1.1, 18, .inl (fun _ => 0)))] H := hP
  have hD : va_D A [(h0, .inr (5, [.ref q1, .ref q2, .ref q3, .null, .null, .null, .null, .null])), (q1, .inl (g.2.1.1, 54, .inl (fun _ => 0))), (q2, .inl (g.2.1.1, 54, .inl (fun _ => 0))), (q3, .inl (g.2.1.1, 18, .inl (fun _ => 0)))] := hD
  refine lv_aload_n hx hb dX5_init_28 rfl (lv_at hl 0 rfl) ?_
  refine lv_bipush (v := 27) hx hb dX5_init_29 (by decide) ?_
  refine zna (atype := .int) (N' := 27) (a0 := (27, .inl (fun _ => 0))) hx hb (hG _ g306) (ty := .int) rfl 0 rfl (fun _ h9 => va_nm_int h9) hX hP hD hS hA (fun _ => rfl) (by decide) (by decide) (Nat.le_of_ble_eq_true rfl) (Nat.le_of_ble_eq_true rfl) (Nat.le_of_ble_eq_true rfl) dX5_init_31 (fun q4 H hP hD hS => ?_)
  refine W.cs (cells' := 4) (slots' := 153) rfl rfl ?_
  have hP : va_P g.1 vwCl [(h0, .inr (5, [.ref q1, .ref q2, .ref q3, .null, .null, .null, .null, .null])), (q1, .inl (g.2.1.1, 54, .inl (fun _ => 0))), (q2, .inl (g.2.1.1, 54, .inl (fun _ => 0))), (q3, .inl (g.2.1.1, 18, .inl (fun _ => 0))), (q4, .inl (g.2.1.1, 27, .inl (fun _ => 0)))] H := hP
  have hD : va_D A [(h0, .inr (5, [.ref q1, .ref q2, .ref q3, .null, .null, .null, .null, .null])), (q1, .inl (g.2.1.1, 54, .inl (fun _ => 0))), (q2, .inl (g.2.1.1, 54, .inl (fun _ => 0))), (q3, .inl (g.2.1.1, 18, .inl (fun _ => 0))), (q4, .inl (g.2.1.1, 27, .inl (fun _ => 0)))] := hD
  refine va_putF (D := g.1) (ci := 5) (v := .ref q4) (ty := (.array .int)) (C := RX5) (T := TX5) (N := 8) hx hb hG iX5 tyX5 tyX5_ok nmX5 hown hX.1 hP hD hS 0 rfl rfl 3 (by decide) (hG _ g284) (fun _ h9 => h9) rfl hnm rfl (by decide +kernel) rfl rfl (Nat.le_of_ble_eq_true rfl) dX5_init_33 (fun H locs hP hD hS => ?_)
  have hP : va_P g.1 vwCl [(h0, .inr (5, [.ref q1, .ref q2, .ref q3, .ref q4, .null, .null, .null, .null])), (q1, .inl (g.2.1.1, 54, .inl (fun _ => 0))), (q2, .inl (g.2.1.1, 54, .inl (fun _ => 0))), (q3, .inl (g.2.1.1, 18, .inl (fun _ => 0))), (q4, .inl (g.2.1.1, 27, .inl (fun _ => 0)))] H := hP
  have hD : va_D A [(h0, .inr (5, [.ref q1, .ref q2, .ref q3, .ref q4, .null, .null, .null, .null])), (q1, .inl (g.2.1.1, 54, .inl (fun _ => 0))), (q2, .inl (g.2.1.1, 54, .inl (fun _ => 0))), (q3, .inl (g.2.1.1, 18, .inl (fun _ => 0))), (q4, .inl (g.2.1.1, 27, .inl (fun _ => 0)))] := hD
  refine lv_aload_n hx hb dX5_init_36 rfl (lv_at hl 0 rfl) ?_
  refine lv_bipush (v := 9) hx hb dX5_init_37 (by decide) ?_
  refine zna (atype := .int) (N' := 9) (a0 := (9, .inl (fun _ => 0))) hx hb (hG _ g306) (ty := .int) rfl 0 rfl (fun _ h9 => va_nm_int h9) hX hP hD hS hA (fun _ => rfl) (by decide) (by decide) (Nat.le_of_ble_eq_true rfl) (Nat.le_of_ble_eq_true rfl) (Nat.le_of_ble_eq_true rfl) dX5_init_39 (fun q5 H hP hD hS => ?_)
  refine W.cs (cells' := 5) (slots' := 162) rfl rfl ?_
  have hP : va_P g.1 vwCl [(h0, .inr (5, [.ref q1, .ref q2, .ref q3, .ref q4, .null, .null, .null, .null])), (q1, .inl (g.2.1.1, 54, .inl (fun _ => 0))), (q2, .inl (g.2.1.1, 54, .inl (fun _ => 0))), (q3, .inl (g.2.1.1, 18, .inl (fun _ => 0))), (q4, .inl (g.2.1.1, 27, .inl (fun _ => 0))), (q5, .inl (g.2.1.1, 9, .inl (fun _ => 0)))] H := hP
  have hD : va_D A [(h0, .inr (5, [.ref q1, .ref q2, .ref q3, .ref q4, .null, .null, .null, .null])), (q1, .inl (g.2.1.1, 54, .inl (fun _ => 0))), (q2, .inl (g.2.1.1, 54, .inl (fun _ => 0))), (q3, .inl (g.2.1.1, 18, .inl (fun _ => 0))), (q4, .inl (g.2.1.1, 27, .inl (fun _ => 0))), (q5, .inl (g.2.1.1, 9, .inl (fun _ => 0)))] := hD
  refine va_putF (D := g.1) (ci := 5) (v := .ref q5) (ty := (.array .int)) (C := RX5) (T := TX5) (N := 8) hx hb hG iX5 tyX5 tyX5_ok nmX5 hown hX.1 hP hD hS 0 rfl rfl 4 (by decide) (hG _ g285) (fun _ h9 => h9) rfl hnm rfl (by decide +kernel) rfl rfl (Nat.le_of_ble_eq_true rfl) dX5_init_41 (fun H locs hP hD hS => ?_)
  have hP : va_P g.1 vwCl [(h0, .inr (5, [.ref q1, .ref q2, .ref q3, .ref q4, .ref q5, .null, .null, .null])), (q1, .inl (g.2.1.1, 54, .inl (fun _ => 0))), (q2, .inl (g.2.1.1, 54, .inl (fun _ => 0))), (q3, .inl (g.2.1.1, 18, .inl (fun _ => 0))), (q4, .inl (g.2.1.1, 27, .inl (fun _ => 0))), (q5, .inl (g.2.1.1, 9, .inl (fun _ => 0)))] H := hP
  have hD : va_D A [(h0, .inr (5, [.ref q1, .ref q2, .ref q3, .ref q4, .ref q5, .null, .null, .null])), (q1, .inl (g.2.1.1, 54, .inl (fun _ => 0))), (q2, .inl (g.2.1.1, 54, .inl (fun _ => 0))), (q3, .inl (g.2.1.1, 18, .inl (fun _ => 0))), (q4, .inl (g.2.1.1, 27, .inl (fun _ => 0))), (q5, .inl (g.2.1.1, 9, .inl (fun _ => 0)))] := hD
  refine lv_aload_n hx hb dX5_init_44 rfl (lv_at hl 0 rfl) ?_
  refine lv_bipush (v := 9) hx hb dX5_init_45 (by decide) ?_
  refine zna (atype := .int) (N' := 9) (a0 := (9, .inl (fun _ => 0))) hx hb (hG _ g306) (ty := .int) rfl 0 rfl (fun _ h9 => va_nm_int h9) hX hP hD hS hA (fun _ => rfl) (by decide) (by decide) (Nat.le_of_ble_eq_true rfl) (Nat.le_of_ble_eq_true rfl) (Nat.le_of_ble_eq_true rfl) dX5_init_47 (fun q6 H hP hD hS => ?_)
  refine W.cs (cells' := 6) (slots' := 171) rfl rfl ?_
  have hP : va_P g.1 vwCl [(h0, .inr (5, [.ref q1, .ref q2, .ref q3, .ref q4, .ref q5, .null, .null, .null])), (q1, .inl (g.2.1.1, 54, .inl (fun _ => 0))), (q2, .inl (g.2.1.1, 54, .inl (fun _ => 0))), (q3, .inl (g.2.1.1, 18, .inl (fun _ => 0))), (q4, .inl (g.2.1.1, 27, .inl (fun _ => 0))), (q5, .inl (g.2.1.1, 9, .inl (fun _ => 0))), (q6, .inl (g.2.1.1, 9, .inl (fun _ => 0)))] H := hP
  have hD : va_D A [(h0, .inr (5, [.ref q1, .ref q2, .ref q3, .ref q4, .ref q5, .null, .null, .null])), (q1, .inl (g.2.1.1, 54, .inl (fun _ => 0))), (q2, .inl (g.2.1.1, 54, .inl (fun _ => 0))), (q3, .inl (g.2.1.1, 18, .inl (fun _ => 0))), (q4, .inl (g.2.1.1, 27, .inl (fun _ => 0))), (q5, .inl (g.2.1.1, 9, .inl (fun _ => 0))), (q6, .inl (g.2.1.1, 9, .inl (fun _ => 0)))] := hD
  refine va_putF (D := g.1) (ci := 5) (v := .ref q6) (ty := (.array .int)) (C := RX5) (T := TX5) (N := 8) hx hb hG iX5 tyX5 tyX5_ok nmX5 hown hX.1 hP hD hS 0 rfl rfl 5 (by decide) (hG _ g286) (fun _ h9 => h9) rfl hnm rfl (by decide +kernel) rfl rfl (Nat.le_of_ble_eq_true rfl) dX5_init_49 (fun H locs hP hD hS => ?_)
  have hP : va_P g.1 vwCl [(h0, .inr (5, [.ref q1, .ref q2, .ref q3, .ref q4, .ref q5, .ref q6, .null, .null])), (q1, .inl (g.2.1.1, 54, .inl (fun _ => 0))), (q2, .inl (g.2.1.1, 54, .inl (fun _ => 0))), (q3, .inl (g.2.1.1, 18, .inl (fun _ => 0))), (q4, .inl (g.2.1.1, 27, .inl (fun _ => 0))), (q5, .inl (g.2.1.1, 9, .inl (fun _ => 0))), (q6, .inl (g.2.1.1, 9, .inl (fun _ => 0)))] H := hP
  have hD : va_D A [(h0, .inr (5, [.ref q1, .ref q2, .ref q3, .ref q4, .ref q5, .ref q6, .null, .null])), (q1, .inl (g.2.1.1, 54, .inl (fun _ => 0))), (q2, .inl (g.2.1.1, 54, .inl (fun _ => 0))), (q3, .inl (g.2.1.1, 18, .inl (fun _ => 0))), (q4, .inl (g.2.1.1, 27, .inl (fun _ => 0))), (q5, .inl (g.2.1.1, 9, .inl (fun _ => 0))), (q6, .inl (g.2.1.1, 9, .inl (fun _ => 0)))] := hD
  refine lv_aload_n hx hb dX5_init_52 rfl (lv_at hl 0 rfl) ?_
  refine lv_iconst (v := 3) hx hb dX5_init_53 (by decide) ?_
  refine zna (atype := .int) (N' := 3) (a0 := (3, .inl (fun _ => 0))) hx hb (hG _ g306) (ty := .int) rfl 0 rfl (fun _ h9 => va_nm_int h9) hX hP hD hS hA (fun _ => rfl) (by decide) (by decide) (Nat.le_of_ble_eq_true rfl) (Nat.le_of_ble_eq_true rfl) (Nat.le_of_ble_eq_true rfl) dX5_init_54 (fun q7 H hP hD hS => ?_)
  refine W.cs (cells' := 7) (slots' := 174) rfl rfl ?_
  have hP : va_P g.1 vwCl [(h0, .inr (5, [.ref q1, .ref q2, .ref q3, .ref q4, .ref q5, .ref q6, .null, .null])), (q1, .inl (g.2.1.1, 54, .inl (fun _ => 0))), (q2, .inl (g.2.1.1, 54, .inl (fun _ => 0))), (q3, .inl (g.2.1.1, 18, .inl (fun _ => 0))), (q4, .inl (g.2.1.1, 27, .inl (fun _ => 0))), (q5, .inl (g.2.1.1, 9, .inl (fun _ => 0))), (q6, .inl (g.2.1.1, 9, .inl (fun _ => 0))), (q7, .inl (g.2.1.1, 3, .inl (fun _ => 0)))] H := hP
  have hD : va_D A [(h0, .inr (5, [.ref q1, .ref q2, .ref q3, .ref q4, .ref q5, .ref q6, .null, .null])), (q1, .inl (g.2.1.1, 54, .inl (fun _ => 0))), (q2, .inl (g.2.1.1, 54, .inl (fun _ => 0))), (q3, .inl (g.2.1.1, 18, .inl (fun _ => 0))), (q4, .inl (g.2.1.1, 27, .inl (fun _ => 0))), (q5, .inl (g.2.1.1, 9, .inl (fun _ => 0))), (q6, .inl (g.2.1.1, 9, .inl (fun _ => 0))), (q7, .inl (g.2.1.1, 3, .inl (fun _ => 0)))] := hD
  refine va_putF (D := g.1) (ci := 5) (v := .ref q7) (ty := (.array .int)) (C := RX5) (T := TX5) (N := 8) hx hb hG iX5 tyX5 tyX5_ok nmX5 hown hX.1 hP hD hS 0 rfl rfl 6 (by decide) (hG _ g287) (fun _ h9 => h9) rfl hnm rfl (by decide +kernel) rfl rfl (Nat.le_of_ble_eq_true rfl) dX5_init_56 (fun H locs hP hD hS => ?_)
  have hP : va_P g.1 vwCl [(h0, .inr (5, [.ref q1, .ref q2, .ref q3, .ref q4, .ref q5, .ref q6, .ref q7, .null])), (q1, .inl (g.2.1.1, 54, .inl (fun _ => 0))), (q2, .inl (g.2.1.1, 54, .inl (fun _ => 0))), (q3, .inl (g.2.1.1, 18, .inl (fun _ => 0))), (q4, .inl (g.2.1.1, 27, .inl (fun _ => 0))), (q5, .inl (g.2.1.1, 9, .inl (fun _ => 0))), (q6, .inl (g.2.1.1, 9, .inl (fun _ => 0))), (q7, .inl (g.2.1.1, 3, .inl (fun _ => 0)))] H := hP
  have hD : va_D A [(h0, .inr (5, [.ref q1, .ref q2, .ref q3, .ref q4, .ref q5, .ref q6, .ref q7, .null])), (q1, .inl (g.2.1.1, 54, .inl (fun _ => 0))), (q2, .inl (g.2.1.1, 54, .inl (fun _ => 0))), (q3, .inl (g.2.1.1, 18, .inl (fun _ => 0))), (q4, .inl (g.2.1.1, 27, .inl (fun _ => 0))), (q5, .inl (g.2.1.1, 9, .inl (fun _ => 0))), (q6, .inl (g.2.1.1, 9, .inl (fun _ => 0))), (q7, .inl (g.2.1.1, 3, .inl (fun _ => 0)))] := hD
  refine lv_aload_n hx hb dX5_init_59 rfl (lv_at hl 0 rfl) ?_
  refine lv_iconst (v := 3) hx hb dX5_init_60 (by decide) ?_
  refine zna (atype := .int) (N' := 3) (a0 := (3, .inl (fun _ => 0))) hx hb (hG _ g306) (ty := .int) rfl 0 rfl (fun _ h9 => va_nm_int h9) hX hP hD hS hA (fun _ => rfl) (by decide) (by decide) (Nat.le_of_ble_eq_true rfl) (Nat.le_of_ble_eq_true rfl) (Nat.le_of_ble_eq_true rfl) dX5_init_61 (fun q8 H hP hD hS => ?_)
  refine W.cs (cells' := 8) (slots' := 177) rfl rfl ?_
  have hP : va_P g.1 vwCl [(h0, .inr (5, [.ref q1, .ref q2, .ref q3, .ref q4, .ref q5, .ref q6, .ref q7, .null])), (q1, .inl (g.2.1.1, 54, .inl (fun _ => 0))), (q2, .inl (g.2.1.1, 54, .inl (fun _ => 0))), (q3, .inl (g.2.1.1, 18, .inl (fun _ => 0))), (q4, .inl (g.2.1.1, 27, .inl (fun _ => 0))), (q5, .inl (g.2.1.1, 9, .inl (fun _ => 0))), (q6, .inl (g.2.1.1, 9, .inl (fun _ => 0))), (q7, .inl (g.2.1.1, 3, .inl (fun _ => 0))), (q8, .inl (g.2.1.1, 3, .inl (fun _ => 0)))] H := hP
  have hD : va_D A [(h0, .inr (5, [.ref q1, .ref q2, .ref q3, .ref q4, .ref q5, .ref q6, .ref q7, .null])), (q1, .inl (g.2.1.1, 54, .inl (fun _ => 0))), (q2, .inl (g.2.1.1, 54, .inl (fun _ => 0))), (q3, .inl (g.2.1.1, 18, .inl (fun _ => 0))), (q4, .inl (g.2.1.1, 27, .inl (fun _ => 0))), (q5, .inl (g.2.1.1, 9, .inl (fun _ => 0))), (q6, .inl (g.2.1.1, 9, .inl (fun _ => 0))), (q7, .inl (g.2.1.1, 3, .inl (fun _ => 0))), (q8, .inl (g.2.1.1, 3, .inl (fun _ => 0)))] := hD
  refine va_putF (D := g.1) (ci := 5) (v := .ref q8) (ty := (.array .int)) (C := RX5) (T := TX5) (N := 8) hx hb hG iX5 tyX5 tyX5_ok nmX5 hown hX.1 hP hD hS 0 rfl rfl 7 (by decide) (hG _ g288) (fun _ h9 => h9) rfl hnm rfl (by decide +kernel) rfl rfl (Nat.le_of_ble_eq_true rfl) dX5_init_63 (fun H locs hP hD hS => ?_)
  have hP : va_P g.1 vwCl [(h0, .inr (5, [.ref q1, .ref q2, .ref q3, .ref q4, .ref q5, .ref q6, .ref q7, .ref q8])), (q1, .inl (g.2.1.1, 54, .inl (fun _ => 0))), (q2, .inl (g.2.1.1, 54, .inl (fun _ => 0))), (q3, .inl (g.2.1.1, 18, .inl (fun _ => 0))), (q4, .inl (g.2.1.1, 27, .inl (fun _ => 0))), (q5, .inl (g.2.1.1, 9, .inl (fun _ => 0))), (q6, .inl (g.2.1.1, 9, .inl (fun _ => 0))), (q7, .inl (g.2.1.1, 3, .inl (fun _ => 0))), (q8, .inl (g.2.1.1, 3, .inl (fun _ => 0)))] H := hP
  have hD : va_D A [(h0, .inr (5, [.ref q1, .ref q2, .ref q3, .ref q4, .ref q5, .ref q6, .ref q7, .ref q8])), (q1, .inl (g.2.1.1, 54, .inl (fun _ => 0))), (q2, .inl (g.2.1.1, 54, .inl (fun _ => 0))), (q3, .inl (g.2.1.1, 18, .inl (fun _ => 0))), (q4, .inl (g.2.1.1, 27, .inl (fun _ => 0))), (q5, .inl (g.2.1.1, 9, .inl (fun _ => 0))), (q6, .inl (g.2.1.1, 9, .inl (fun _ => 0))), (q7, .inl (g.2.1.1, 3, .inl (fun _ => 0))), (q8, .inl (g.2.1.1, 3, .inl (fun _ => 0)))] := hD
  exact zrv (rm := { frames := 1, cells := 8, slots := 177, locals := 12 }) (fun k9 => [q1, q2, q3, q4, q5, q6, q7, q8].getD k9 0) hx hb hr hlocks (Nat.le_of_ble_eq_true rfl) (Nat.le_of_ble_eq_true rfl) (trivial) (hP.sub [0] rfl) (hD.sub [0] (by decide) rfl) hS dX5_init_66
theorem dX3_init_0 : decode cX3_init 0 = .ok (.aload_n 0, 1) := by decide +kernel
theorem dX3_init_1 : decode cX3_init 1 = .ok (.invokespecial 3, 3) := by decide +kernel
theorem dX3_init_4 : decode cX3_init 4 = .ok (.aload_n 0, 1) := by decide +kernel
theorem dX3_init_5 : decode cX3_init 5 = .ok (.sipush 2048, 3) := by decide +kernel
theorem dX3_init_8 : decode cX3_init 8 = .ok (.newarray .int, 2) := by decide +kernel
theorem dX3_init_10 : decode cX3_init 10 = .ok (.putfield 9, 3) := by decide +kernel
theorem dX3_init_13 : decode cX3_init 13 = .ok (.aload_n 0, 1) := by decide +kernel
theorem dX3_init_14 : decode cX3_init 14 = .ok (.sipush 256, 3) := by decide +kernel
theorem dX3_init_17 : decode cX3_init 17 = .ok (.newarray .byte, 2) := by decide +kernel
theorem dX3_init_19 : decode cX3_init 19 = .ok (.putfield 15, 3) := by decide +kernel
theorem dX3_init_22 : decode cX3_init 22 = .ok (.aload_n 0, 1) := by decide +kernel
theorem dX3_init_23 : decode cX3_init 23 = .ok (.sipush 256, 3) := by decide +kernel
theorem dX3_init_26 : decode cX3_init 26 = .ok (.newarray .byte, 2) := by decide +kernel
theorem dX3_init_28 : decode cX3_init 28 = .ok (.putfield 19, 3) := by decide +kernel
theorem dX3_init_31 : decode cX3_init 31 = .ok (.aload_n 0, 1) := by decide +kernel
theorem dX3_init_32 : decode cX3_init 32 = .ok (.sipush 256, 3) := by decide +kernel
theorem dX3_init_35 : decode cX3_init 35 = .ok (.newarray .int, 2) := by decide +kernel
theorem dX3_init_37 : decode cX3_init 37 = .ok (.putfield 22, 3) := by decide +kernel
theorem dX3_init_40 : decode cX3_init 40 = .ok (.aload_n 0, 1) := by decide +kernel
theorem dX3_init_41 : decode cX3_init 41 = .ok (.sipush 2048, 3) := by decide +kernel
theorem dX3_init_44 : decode cX3_init 44 = .ok (.newarray .int, 2) := by decide +kernel
theorem dX3_init_46 : decode cX3_init 46 = .ok (.putfield 25, 3) := by decide +kernel
theorem dX3_init_49 : decode cX3_init 49 = .ok (.aload_n 0, 1) := by decide +kernel
theorem dX3_init_50 : decode cX3_init 50 = .ok (.bipush 9, 2) := by decide +kernel
theorem dX3_init_52 : decode cX3_init 52 = .ok (.newarray .int, 2) := by decide +kernel
theorem dX3_init_54 : decode cX3_init 54 = .ok (.putfield 28, 3) := by decide +kernel
theorem dX3_init_57 : decode cX3_init 57 = .ok (.aload_n 0, 1) := by decide +kernel
theorem dX3_init_58 : decode cX3_init 58 = .ok (.sipush 256, 3) := by decide +kernel
theorem dX3_init_61 : decode cX3_init 61 = .ok (.newarray .int, 2) := by decide +kernel
theorem dX3_init_63 : decode cX3_init 63 = .ok (.putfield 31, 3) := by decide +kernel
theorem dX3_init_66 : decode cX3_init 66 = .ok (.aload_n 0, 1) := by decide +kernel
theorem dX3_init_67 : decode cX3_init 67 = .ok (.bipush 8, 2) := by decide +kernel
theorem dX3_init_69 : decode cX3_init 69 = .ok (.newarray .int, 2) := by decide +kernel
theorem dX3_init_71 : decode cX3_init 71 = .ok (.putfield 34, 3) := by decide +kernel
theorem dX3_init_74 : decode cX3_init 74 = .ok (.return_, 1) := by decide +kernel
set_option maxHeartbeats 4000000 in
set_option maxRecDepth 100000 in
theorem kX3_init (l : Launch) (g : zL) (h0 : Nat) : zCv l g yX3_init cX3_init 1 none { frames := 1, cells := 8, slots := 5137, locals := 12 } [.ref h0] [(h0, .inr (3, [.null, .null, .null, .null, .null, .null, .null, .null, .int 0, .int 0, .int 0, .int 0, .int 0]))] (fun (u : Nat → Nat) => True) (fun (u : Nat → Nat) => [(h0, .inr (3, [.ref (u 0), .ref (u 1), .ref (u 2), .ref (u 3), .ref (u 4), .ref (u 5), .ref (u 6), .ref (u 7), .int 0, .int 0, .int 0, .int 0, .int 0]))]) := by
  refine zCv.mk (by decide) (Nat.le_of_ble_eq_true rfl) ?_
  intro p e s m below meth c A hE hP hD hS ls hl
  obtain ⟨hx, hb, hr, hml, hown, hG, hlocks, hnm, hX, hA⟩ := hE
  have hown : s.vm.findClass RX3 = some m.cls := hown
  have hnm : meth.name = "<init>" := hnm
  have hl : lv_has ls 1 [(0, .ref h0)] := hl
  refine lv_aload_n hx hb dX3_init_0 rfl (lv_at hl 0 rfl) ?_
  refine W.objInit hx hb hown (hG _ g312) (hG _ g226) (hG _ g227) rfl (by rw [hml]; exact hl.1) rfl dX3_init_1 (Nat.le_of_ble_eq_true rfl) (Nat.le_of_ble_eq_true rfl) ?_
  refine W.eq (g2 := F0 m 4 ls []) rfl ?_
  refine lv_aload_n hx hb dX3_init_4 rfl (lv_at hl 0 rfl) ?_
  refine lv_sipush (v := 2048) hx hb dX3_init_5 (by decide) ?_
  refine zna (atype := .int) (N' := 2048) (a0 := (2048, .inl (fun _ => 0))) hx hb (hG _ g306) (ty := .int) rfl 0 rfl (fun _ h9 => va_nm_int h9) hX hP hD hS hA (fun _ => rfl) (by decide) (by decide) (Nat.le_of_ble_eq_true rfl) (Nat.le_of_ble_eq_true rfl) (Nat.le_of_ble_eq_true rfl) dX3_init_8 (fun q1 H hP hD hS => ?_)
  refine W.cs (cells' := 1) (slots' := 2048) rfl rfl ?_
  have hP : va_P g.1 vwCl [(h0, .inr (3, [.null, .null, .null, .null, .null, .null, .null, .null, .int 0, .int 0, .int 0, .int 0, .int 0])), (q1, .inl (g.2.1.1, 2048, .inl (fun _ => 0)))] H := hP
  have hD : va_D A [(h0, .inr (3, [.null, .null, .null, .null, .null, .null, .null, .null, .int 0, .int 0, .int 0, .int 0, .int 0])), (q1, .inl (g.2.1.1, 2048, .inl (fun _ => 0)))] := hD
  refine va_putF (D := g.1) (ci := 3) (v := .ref q1) (ty := (.array .int)) (C := RX3) (T := TX3) (N := 13) hx hb hG iX3 tyX3 tyX3_ok nmX3 hown hX.1 hP hD hS 0 rfl rfl 0 (by decide) (hG _ g313) (fun _ h9 => h9) rfl hnm rfl (by decide +kernel) rfl rfl (Nat.le_of_ble_eq_true rfl) dX3_init_10 (fun H locs hP hD hS => ?_)
  have hP : va_P g.1 vwCl [(h0, .inr (3, [.ref q1, .null, .null, .null, .null, .null, .null, .null, .int 0, .int 0, .int 0, .int 0, .int 0])), (q1, .inl (g.2.1.1, 2048, .inl (fun _ => 0)))] H := hP
  have hD : va_D A [(h0, .inr (3, [.ref q1, .null, .null, .null, .null, .null, .null, .null, .int 0, .int 0, .int 0, .int 0, .int 0])), (q1, .inl (g.2.1.1, 2048, .inl (fun _ => 0)))] := hD
  refine lv_aload_n hx hb dX3_init_13 rfl (lv_at hl 0 rfl) ?_
  refine lv_sipush (v := 256) hx hb dX3_init_14 (by decide) ?_
  refine zna (atype := .byte) (N' := 256) (a0 := (256, .inl (fun _ => 0))) hx hb (hG _ g244) (ty := .byte) rfl 1 rfl (fun _ h9 => va_nm_byte h9) hX hP hD hS hA (fun _ => rfl) (by decide) (by decide) (Nat.le_of_ble_eq_true rfl) (Nat.le_of_ble_eq_true rfl) (Nat.le_of_ble_eq_true rfl) dX3_init_17 (fun q2 H hP hD hS => ?_)
  refine W.cs (cells' := 2) (slots' := 2304) rfl rfl ?_
  have hP : va_P g.1 vwCl [(h0, .inr (3, [.ref q1, .null, .null, .null, .null, .null, .null, .null, .int 0, .int 0, .int 0, .int 0, .int 0])), (q1, .inl (g.2.1.1, 2048, .inl (fun _ => 0))), (q2, .inl (g.2.1.2.1, 256, .inl (fun _ => 0)))] H := hP
  have hD : va_D A [(h0, .inr (3, [.ref q1, .null, .null, .null, .null, .null, .null, .null, .int 0, .int 0, .int 0, .int 0, .int 0])), (q1, .inl (g.2.1.1, 2048, .inl (fun _ => 0))), (q2, .inl (g.2.1.2.1, 256, .inl (fun _ => 0)))] := hD
  refine va_putF (D := g.1) (ci := 3) (v := .ref q2) (ty := (.array .byte)) (C := RX3) (T := TX3) (N := 13) hx hb hG iX3 tyX3 tyX3_ok nmX3 hown hX.1 hP hD hS 0 rfl rfl 1 (by decide) (hG _ g314) (fun _ h9 => h9) rfl hnm rfl (by decide +kernel) rfl rfl (Nat.le_of_ble_eq_true rfl) dX3_init_19 (fun H locs hP hD hS => ?_)
  have hP : va_P g.1 vwCl [(h0, .inr (3, [.ref q1, .ref q2, .null, .null, .null, .null, .null, .null, .int 0, .int 0, .int 0, .int 0, .int 0])), (q1, .inl (g.2.1.1, 2048, .inl (fun _ => 0))), (q2, .inl (g.2.1.2.1, 256, .inl (fun _ => 0)))] H := hP
  have hD : va_D A [(h0, .inr (3, [.ref q1, .ref q2, .null, .null, .null, .null, .null, .null, .int 0, .int 0, .int 0, .int 0, .int 0])), (q1, .inl (g.2.1.1, 2048, .inl (fun _ => 0))), (q2, .inl (g.2.1.2.1, 256, .inl (fun _ => 0)))] := hD
  refine lv_aload_n hx hb dX3_init_22 rfl (lv_at hl 0 rfl) ?_
  refine lv_sipush (v := 256) hx hb dX3_init_23 (by decide) ?_
  refine zna (atype := .byte) (N' := 256) (a0 := (256, .inl (fun _ => 0))) hx hb (hG _ g244) (ty := .byte) rfl 1 rfl (fun _ h9 => va_nm_byte h9) hX hP hD hS hA (fun _ => rfl) (by decide) (by decide) (Nat.le_of_ble_eq_true rfl) (Nat.le_of_ble_eq_true rfl) (Nat.le_of_ble_eq_true rfl) dX3_init_26 (fun q3 H hP hD hS => ?_)
  refine W.cs (cells' := 3) (slots' := 2560) rfl rfl ?_
  have hP : va_P g.1 vwCl [(h0, .inr (3, [.ref q1, .ref q2, .null, .null, .null, .null, .null, .null, .int 0, .int 0, .int 0, .int 0, .int 0])), (q1, .inl (g.2.1.1, 2048, .inl (fun _ => 0))), (q2, .inl (g.2.1.2.1, 256, .inl (fun _ => 0))), (q3, .inl (g.2.1.2.1, 256, .inl (fun _ => 0)))] H := hP
  have hD : va_D A [(h0, .inr (3, [.ref q1, .ref q2, .null, .null, .null, .null, .null, .null, .int 0, .int 0, .int 0, .int 0, .int 0])), (q1, .inl (g.2.1.1, 2048, .inl (fun _ => 0))), (q2, .inl (g.2.1.2.1, 256, .inl (fun _ => 0))), (q3, .inl (g.2.1.2.1, 256, .inl (fun _ => 0)))] := hD
  refine va_putF (D := g.1) (ci := 3) (v := .ref q3) (ty := (.array .byte)) (C := RX3) (T := TX3) (N := 13) hx hb hG iX3 tyX3 tyX3_ok nmX3 hown hX.1 hP hD hS 0 rfl rfl 2 (by decide) (hG _ g315) (fun _ h9 => h9) rfl hnm rfl (by decide +kernel) rfl rfl (Nat.le_of_ble_eq_true rfl) dX3_init_28 (fun H locs hP hD hS => ?_)
  have hP : va_P g.1 vwCl [(h0, .inr (3, [.ref q1, .ref q2, .ref q3, .null, .null, .null, .null, .null, .int 0, .int 0, .int 0, .int 0, .int 0])), (q1, .inl (g.2.1.1, 2048, .inl (fun _ => 0))), (q2, .inl (g.2.1.2.1, 256, .inl (fun _ => 0))), (q3, .inl (g.2.1.2.1, 256, .inl (fun _ => 0)))] H := hP
  have hD : va_D A [(h0, .inr (3, [.ref q1, .ref q2, .ref q3, .null, .null, .null, .null, .null, .int 0, .int 0, .int 0, .int 0, .int 0])), (q1, .inl (g.2.1.1, 2048, .inl (fun _ => 0))), (q2, .inl (g.2.1.2.1, 256, .inl (fun _ => 0))), (q3, .inl (g.2.1.2.1, 256, .inl (fun _ => 0)))] := hD
  refine lv_aload_n hx hb dX3_init_31 rfl (lv_at hl 0 rfl) ?_
  refine lv_sipush (v := 256) hx hb dX3_init_32 (by decide) ?_
  refine zna (atype := .int) (N' := 256) (a0 := (256, .inl (fun _ => 0))) hx hb (hG _ g306) (ty := .int) rfl 0 rfl (fun _ h9 => va_nm_int h9) hX hP hD hS hA (fun _ => rfl) (by decide) (by decide) (Nat.le_of_ble_eq_true rfl) (Nat.le_of_ble_eq_true rfl) (Nat.le_of_ble_eq_true rfl) dX3_init_35 (fun q4 H hP hD hS => ?_)
  refine W.cs (cells' := 4) (slots' := 2816) rfl rfl ?_
  have hP : va_P g.1 vwCl [(h0, .inr (3, [.ref q1, .ref q2, .ref q3, .null, .null, .null, .null, .null, .int 0, .int 0, .int 0, .int 0, .int 0])), (q1, .inl (g.2.1.1, 2048, .inl (fun _ => 0))), (q2, .inl (g.2.1.2.1, 256, .inl (fun _ => 0))), (q3, .inl (g.2.1.2.1, 256, .inl (fun _ => 0))), (q4, .inl (g.2.1.1, 256, .inl (fun _ => 0)))] H := hP
  have hD : va_D A [(h0, .inr (3, [.ref q1, .ref q2, .ref q3, .null, .null, .null, .null, .null, .int 0, .int 0, .int 0, .int 0, .int 0])), (q1, .inl (g.2.1.1, 2048, .inl (fun _ => 0))), (q2, .inl (g.2.1.2.1, 256, .inl (fun _ => 0))), (q3, .inl (g.2.1.2.1, 256, .inl (fun _ => 0))), (q4, .inl (g.2.1.1, 256, .inl (fun _ => 0)))] := hD
  refine va_putF (D := g.1) (ci := 3) (v := .ref q4) (ty := (.array .int)) (C := RX3) (T := TX3) (N := 13) hx hb hG iX3 tyX3 tyX3_ok nmX3 hown hX.1 hP hD hS 0 rfl rfl 3 (by decide) (hG _ g316) (fun _ h9 => h9) rfl hnm rfl (by decide +kernel) rfl rfl (Nat.le_of_ble_eq_true rfl) dX3_init_37 (fun H locs hP hD hS => ?_)
  have hP : va_P g.1 vwCl [(h0, .inr (3, [.ref q1, .ref q2, .ref q3, .ref q4, .null, .null, .null, .null, .int 0, .int 0, .int 0, .int 0, .int 0])), (q1, .inl (g.2.1.1, 2048, .inl (fun _ => 0))), (q2, .inl (g.2.1.2.1, 256, .inl (fun _ => 0))), (q3, .inl (g.2.1.2.1, 256, .inl (fun _ => 0))), (q4, .inl (g.2.1.1, 256, .inl (fun _ => 0)))] H := hP
  have hD : va_D A [(h0, .inr (3, [.ref q1, .ref q2, .ref q3, .ref q4, .null, .null, .null, .null, .int 0, .int 0, .int 0, .int 0, .int 0])), (q1, .inl (g.2.1.1, 2048, .inl (fun _ => 0))), (q2, .inl (g.2.1.2.1, 256, .inl (fun _ => 0))), (q3, .inl (g.2.1.2.1, 256, .inl (fun _ => 0))), (q4, .inl (g.2.1.1, 256, .inl (fun _ => 0)))] := hD
  refine lv_aload_n hx hb dX3_init_40 rfl (lv_at hl 0 rfl) ?_
  refine lv_sipush (v := 2048) hx hb dX3_init_41 (by decide) ?_
  refine zna (atype := .int) (N' := 2048) (a0 := (2048, .inl (fun _ => 0))) hx hb (hG _ g306) (ty := .int) rfl 0 rfl (fun _ h9 => va_nm_int h9) hX hP hD hS hA (fun _ => rfl) (by decide) (by decide) (Nat.le_of_ble_eq_true rfl) (Nat.le_of_ble_eq_true rfl) (Nat.le_of_ble_eq_true rfl) dX3_init_44 (fun q5 H hP hD hS => ?_)
  refine W.cs (cells' := 5) (slots' := 4864) rfl rfl ?_
  have hP : va_P g.1 vwCl [(h0, .inr (3, [.ref q1, .ref q2, .ref q3, .ref q4, .null, .null, .null, .null, .int 0, .int 0, .int 0, .int 0, .int 0])), (q1, .inl (g.2.1.1, 2048, .inl (fun _ => 0))), (q2, .inl (g.2.1.2.1, 256, .inl (fun _ => 0))), (q3, .inl (g.2.1.2.1, 256, .inl (fun _ => 0))), (q4, .inl (g.2.1.1, 256, .inl (fun _ => 0))), (q5, .inl (g.2.1.1, 2048, .inl (fun _ => 0)))] H := hP
  have hD : va_D A [(h0, .inr (3, [.ref q1, .ref q2, .ref q3, .ref q4, .null, .null, .null, .null, .int 0, .int 0, .int 0, .int 0, .int 0])), (q1, .inl (g.2.1.1, 2048, .inl (fun _ => 0))), (q2, .inl (g.2.1.2.1, 256, .inl (fun _ => 0))), (q3, .inl (g.2.1.2.1, 256, .inl (fun _ => 0))), (q4, .inl (g.2.1.1, 256, .inl (fun _ => 0))), (q5, .inl (g.2.1.1, 2048, .inl (fun _ => 0)))] := hD
  refine va_putF (D := g.1) (ci := 3) (v := .ref q5) (ty := (.array .int)) (C := RX3) (T := TX3) (N := 13) hx hb hG iX3 tyX3 tyX3_ok nmX3 hown hX.1 hP hD hS 0 rfl rfl 4 (by decide) (hG _ g317) (fun _ h9 => h9) rfl hnm rfl (by decide +kernel) rfl rfl (Nat.le_of_ble_eq_true rfl) dX3_init_46 (fun H locs hP hD hS => ?_)
  have hP : va_P g.1 vwCl [(h0, .inr (3, [.ref q1, .ref q2, .ref q3, .ref q4, .ref q5, .null, .null, .null, .int 0, .int 0, .int 0, .int 0, .int 0])), (q1, .inl (g.2.1.1, 2048, .inl (fun _ => 0))), (q2, .inl (g.2.1.2.1, 256, .inl (fun _ => 0))), (q3, .inl (g.2.1.2.1, 256, .inl (fun _ => 0))), (q4, .inl (g.2.1.1, 256, .inl (fun _ => 0))), (q5, .inl (g.2.1.1, 2048, .inl (fun _ => 0)))] H := hP
  have hD : va_D A [(h0, .inr (3, [.ref q1, .ref q2, .ref q3, .ref q4, .ref q5, .null, .null, .null, .int 0, .int 0, .int 0, .int 0, .int 0])), (q1, .inl (g.2.1.1, 2048, .inl (fun _ => 0))), (q2, .inl (g.2.1.2.1, 256, .inl (fun _ => 0))), (q3, .inl (g.2.1.2.1, 256, .inl (fun _ => 0))), (q4, .inl (g.2.1.1, 256, .inl (fun _ => 0))), (q5, .inl (g.2.1.1, 2048, .inl (fun _ => 0)))] := hD
  refine lv_aload_n hx hb dX3_init_49 rfl (lv_at hl 0 rfl) ?_
  refine lv_bipush (v := 9) hx hb dX3_init_50 (by decide) ?_
  refine zna (atype := .int) (N' := 9) (a0 := (9, .inl (fun _ => 0))) hx hb (hG _ g306) (ty := .int) rfl 0 rfl (fun _ h9 => va_nm_int h9) hX hP hD hS hA (fun _ => rfl) (by decide) (by decide) (Nat.le_of_ble_eq_true rfl) (Nat.le_of_ble_eq_true rfl) (Nat.le_of_ble_eq_true rfl) dX3_init_52 (fun q6 H hP hD hS => ?_)
  refine W.cs (cells' := 6) (slots' := 4873) rfl rfl ?_
  have hP : va_P g.1 vwCl [(h0, .inr (3, [.ref q1, .ref q2, .ref q3, .ref q4, .ref q5, .null, .null, .null, .int 0, .int 0, .int 0, .int 0, .int 0])), (q1, .inl (g.2.1.1, 2048, .inl (fun _ => 0))), (q2, .inl (g.2.1.2.1, 256, .inl (fun _ => 0))), (q3, .inl (g.2.1.2.1, 256, .inl (fun _ => 0))), (q4, .inl (g.2.1.1, 256, .inl (fun _ => 0))), (q5, .inl (g.2.1.1, 2048, .inl (fun _ => 0))), (q6, .inl (g.2.1.1, 9, .inl (fun _ => 0)))] H := hP
  have hD : va_D A [(h0, .inr (3, [.ref q1, .ref q2, .ref q3, .ref q4, .ref q5, .null, .null, .null, .int 0, .int 0, .int 0, .int 0, .int 0])), (q1, .inl (g.2.1.1, 2048, .inl (fun _ => 0))), (q2, .inl (g.2.1.2.1, 256, .inl (fun _ => 0))), (q3, .inl (g.2.1.2.1, 256, .inl (fun _ => 0))), (q4, .inl (g.2.1.1, 256, .inl (fun _ => 0))), (q5, .inl (g.2.1.1, 2048, .inl (fun _ => 0))), (q6, .inl (g.2.1.1, 9, .inl (fun _ => 0)))] := hD
  refine va_putF (D := g.1) (ci := 3) (v := .ref q6) (ty := (.array .int)) (C := RX3) (T := TX3) (N := 13) hx hb hG iX3 tyX3 tyX3_ok nmX3 hown hX.1 hP hD hS 0 rfl rfl 5 (by decide) (hG _ g318) (fun _ h9 => h9) rfl hnm rfl (by decide +kernel) rfl rfl (Nat.le_of_ble_eq_true rfl) dX3_init_54 (fun H locs hP hD hS => ?_)
  have hP : va_P g.1 vwCl [(h0, .inr (3, [.ref q1, .ref q2, .ref q3, .ref q4, .ref q5, .ref q6, .null, .null, .int 0, .int 0, .int 0, .int 0, .int 0])), (q1, .inl (g.2.1.1, 2048, .inl (fun _ => 0))), (q2, .inl (g.2.1.2.1, 256, .inl (fun _ => 0))), (q3, .inl (g.2.1.2.1, 256, .inl (fun _ => 0))), (q4, .inl (g.2.1.1, 256, .inl (fun _ => 0))), (q5, .inl (g.2.1.1, 2048, .inl (fun _ => 0))), (q6, .inl (g.2.1.1, 9, .inl (fun _ => 0)))] H := hP
  have hD : va_D A [(h0, .inr (3, [.ref q1, .ref q2, .ref q3, .ref q4, .ref q5, .ref q6, .null, .null, .int 0, .int 0, .int 0, .int 0, .int 0])), (q1, .inl (g.2.1.1, 2048, .inl (fun _ => 0))), (q2, .inl (g.2.1.2.1, 256, .inl (fun _ => 0))), (q3, .inl (g.2.1.2.1, 256, .inl (fun _ => 0))), (q4, .inl (g.2.1.1, 256, .inl (fun _ => 0))), (q5, .inl (g.2.1.1, 2048, .inl (fun _ => 0))), (q6, .inl (g.2.1.1, 9, .inl (fun _ => 0)))] := hD
  refine lv_aload_n hx hb dX3_init_57 rfl (lv_at hl 0 rfl) ?_
  refine lv_sipush (v := 256) hx hb dX3_init_58 (by decide) ?_
  refine zna (atype := .int) (N' := 256) (a0 := (256, .inl (fun _ => 0))) hx hb (hG _ g306) (ty := .int) rfl 0 rfl (fun _ h9 => va_nm_int h9) hX hP hD hS hA (fun _ => rfl) (by decide) (by decide) (Nat.le_of_ble_eq_true rfl) (Nat.le_of_ble_eq_true rfl) (Nat.le_of_ble_eq_true rfl) dX3_init_61 (fun q7 H hP hD hS => ?_)
  refine W.cs (cells' := 7) (slots' := 5129) rfl rfl ?_
  have hP : va_P g.1 vwCl [(h0, .inr (3, [.ref q1, .ref q2, .ref q3, .ref q4, .ref q5, .ref q6, .null, .null, .int 0, .int 0, .int 0, .int 0, .int 0])), (q1, .inl (g.2.1.1, 2048, .inl (fun _ => 0))), (q2, .inl (g.2.1.2.1, 256, .inl (fun _ => 0))), (q3, .inl (g.2.1.2.1, 256, .inl (fun _ => 0))), (q4, .inl (g.2.1.1, 256, .inl (fun _ => 0))), (q5, .inl (g.2.1.1, 2048, .inl (fun _ => 0))), (q6, .inl (g.2.1.1, 9, .inl (fun _ => 0))), (q7, .inl (g.2.1.1, 256, .inl (fun _ => 0)))] H := hP
  have hD : va_D A [(h0, .inr (3, [.ref q1, .ref q2, .ref q3, .ref q4, .ref q5, .ref q6, .null, .null, .int 0, .int 0, .int 0, .int 0, .int 0])), (q1, .inl (g.2.1.1, 2048, .inl (fun _ => 0))), (q2, .inl (g.2.1.2.1, 256, .inl (fun _ => 0))), (q3, .inl (g.2.1.2.1, 256, .inl (fun _ => 0))), (q4, .inl (g.2.1.1, 256, .inl (fun _ => 0))), (q5, .inl (g.2.1.1, 2048, .inl (fun _ => 0))), (q6, .inl (g.2.1.1, 9, .inl (fun _ => 0))), (q7, .inl (g.2.1.1, 256, .inl (fun _ => 0)))] := hD
  refine va_putF (D := g.1) (ci := 3) (v := .ref q7) (ty := (.array .int)) (C := RX3) (T := TX3) (N := 13) hx hb hG iX3 tyX3 tyX3_ok nmX3 hown hX.1 hP hD hS 0 rfl rfl 6 (by decide) (hG _ g319) (fun _ h9 => h9) rfl hnm rfl (by decide +kernel) rfl rfl (Nat.le_of_ble_eq_true rfl) dX3_init_63 (fun H locs hP hD hS => ?_)
  have hP : va_P g.1 vwCl [(h0, .inr (3, [.ref q1, .ref q2, .ref q3, .ref q4, .ref q5, .ref q6, .ref q7, .null, .int 0, .int 0, .int 0, .int 0, .int 0])), (q1, .inl (g.2.1.1, 2048, .inl (fun _ => 0))), (q2, .inl (g.2.1.2.1, 256, .inl (fun _ => 0))), (q3, .inl (g.2.1.2.1, 256, .inl (fun _ => 0))), (q4, .inl (g.2.1.1, 256, .inl (fun _ => 0))), (q5, .inl (g.2.1.1, 2048, .inl (fun _ => 0))), (q6, .inl (g.2.1.1, 9, .inl (fun _ => 0))), (q7, .inl (g.2.1.1, 256, .inl (fun _ => 0)))] H := hP
  have hD : va_D A [(h0, .inr (3, [.ref q1, .ref q2, .ref q3, .ref q4, .ref q5, .ref q6, .ref q7, .null, .int 0, .int 0, .int 0, .int 0, .int 0])), (q1, .inl (g.2.1.1, 2048, .inl (fun _ => 0))), (q2, .inl (g.2.1.2.1, 256, .inl (fun _ => 0))), (q3, .inl (g.2.1.2.1, 256, .inl (fun _ => 0))), (q4, .inl (g.2.1.1, 256, .inl (fun _ => 0))), (q5, .inl (g.2.1.1, 2048, .inl (fun _ => 0))), (q6, .inl (g.2.1.1, 9, .inl (fun _ => 0))), (q7, .inl (g.2.1.1, 256, .inl (fun _ => 0)))] := hD
  refine lv_aload_n hx hb dX3_init_66 rfl (lv_at hl 0 rfl) ?_
  refine lv_bipush (v := 8) hx hb dX3_init_67 (by decide) ?_
  refine zna (atype := .int) (N' := 8) (a0 := (8, .inl (fun _ => 0))) hx hb (hG _ g306) (ty := .int) rfl 0 rfl (fun _ h9 => va_nm_int h9) hX hP hD hS hA (fun _ => rfl) (by decide) (by decide) (Nat.le_of_ble_eq_true rfl) (Nat.le_of_ble_eq_true rfl) (Nat.le_of_ble_eq_true rfl) dX3_init_69 (fun q8 H hP hD hS => ?_)
  refine W.cs (cells' := 8) (slots' := 5137) rfl rfl ?_
  have hP : va_P g.1 vwCl [(h0, .inr (3, [.ref q1, .ref q2, .ref q3, .ref q4, .ref q5, .ref q6, .ref q7, .null, .int 0, .int 0, .int 0, .int 0, .int 0])), (q1, .inl (g.2.1.1, 2048, .inl (fun _ => 0))), (q2, .inl (g.2.1.2.1, 256, .inl (fun _ => 0))), (q3, .inl (g.2.1.2.1, 256, .inl (fun _ => 0))), (q4, .inl (g.2.1.1, 256, .inl (fun _ => 0))), (q5, .inl (g.2.1.1, 2048, .inl (fun _ => 0))), (q6, .inl (g.2.1.1, 9, .inl (fun _ => 0))), (q7, .inl (g.2.1.1, 256, .inl (fun _ => 0))), (q8, .inl (g.2.1.1, 8, .inl (fun _ => 0)))] H := hP
  have hD : va_D A [(h0, .inr (3, [.ref q1, .ref q2, .ref q3, .ref q4, .ref q5, .ref q6, .ref q7, .null, .int 0, .int 0, .int 0, .int 0, .int 0])), (q1, .inl (g.2.1.1, 2048, .inl (fun _ => 0))), (q2, .inl (g.2.1.2.1, 256, .inl (fun _ => 0))), (q3, .inl (g.2.1.2.1, 256, .inl (fun _ => 0))), (q4, .inl (g.2.1.1, 256, .inl (fun _ => 0))), (q5, .inl (g.2.1.1, 2048, .inl (fun _ => 0))), (q6, .inl (g.2.1.1, 9, .inl (fun _ => 0))), (q7, .inl (g.2.1.1, 256, .inl (fun _ => 0))), (q8, .inl (g.2.1.1, 8, .inl (fun _ => 0)))] := hD
  refine va_putF (D := g.1) (ci := 3) (v := .ref q8) (ty := (.array .int)) (C := RX3) (T := TX3) (N := 13) hx hb hG iX3 tyX3 tyX3_ok nmX3 hown hX.1 hP hD hS 0 rfl rfl 7 (by decide) (hG _ g320) (fun _ h9 => h9) rfl hnm rfl (by decide +kernel) rfl rfl (Nat.le_of_ble_eq_true rfl) dX3_init_71 (fun H locs hP hD hS => ?_)
  have hP : va_P g.1 vwCl [(h0, .inr (3, [.ref q1, .ref q2, .ref q3, .ref q4, .ref q5, .ref q6, .ref q7, .ref q8, .int 0, .int 0, .int 0, .int 0, .int 0])), (q1, .inl (g.2.1.1, 2048, .inl (fun _ => 0))), (q2, .inl (g.2.1.2.1, 256, .inl (fun _ => 0))), (q3, .inl (g.2.1.2.1, 256, .inl (fun _ => 0))), (q4, .inl (g.2.1.1, 256, .inl (fun _ => 0))), (q5, .inl (g.2.1.1, 2048, .inl (fun _ => 0))), (q6, .inl (g.2.1.1, 9, .inl (fun _ => 0))), (q7, .inl (g.2.1.1, 256, .inl (fun _ => 0))), (q8, .inl (g.2.1.1, 8, .inl (fun _ => 0)))] H := hP
  have hD : va_D A [(h0, .inr (3, [.ref q1, .ref q2, .ref q3, .ref q4, .ref q5, .ref q6, .ref q7, .ref q8, .int 0, .int 0, .int 0, .int 0, .int 0])), (q1, .inl (g.2.1.1, 2048, .inl (fun _ => 0))), (q2, .inl (g.2.1.2.1, 256, .inl (fun _ => 0))), (q3, .inl (g.2.1.2.1, 256, .inl (fun _ => 0))), (q4, .inl (g.2.1.1, 256, .inl (fun _ => 0))), (q5, .inl (g.2.1.1, 2048, .inl (fun _ => 0))), (q6, .inl (g.2.1.1, 9, .inl (fun _ => 0))), (q7, .inl (g.2.1.1, 256, .inl (fun _ => 0))), (q8, .inl (g.2.1.1, 8, .inl (fun _ => 0)))] := hD
  exact zrv (rm := { frames := 1, cells := 8, slots := 5137, locals := 12 }) (fun k9 => [q1, q2, q3, q4, q5, q6, q7, q8].getD k9 0) hx hb hr hlocks (Nat.le_of_ble_eq_true rfl) (Nat.le_of_ble_eq_true rfl) (trivial) (hP.sub [0] rfl) (hD.sub [0] (by decide) rfl) hS dX3_init_74
theorem dX2_init_0 : decode cX2_init 0 = .ok (.aload_n 0, 1) := by decide +kernel
theorem dX2_init_1 : decode cX2_init 1 = .ok (.invokespecial 3, 3) := by decide +kernel
theorem dX2_init_4 : decode cX2_init 4 = .ok (.return_, 1) := by decide +kernel
set_option maxHeartbeats 4000000 in
set_option maxRecDepth 100000 in
theorem kX2_init (l : Launch) (g : zL) (h0 : Nat) : zCv l g yX2_init cX2_init 1 none { frames := 1, cells := 0, slots := 0, locals := 12 } [.ref h0] [(h0, .inr (2, [.null, .int 0, .int 0]))] (fun (u : Unit) => True) (fun (u : Unit) => [(h0, .inr (2, [.null, .int 0, .int 0]))]) := by
  refine zCv.mk (by decide) (Nat.le_of_ble_eq_true rfl) ?_
  intro p e s m below meth c A hE hP hD hS ls hl
  obtain ⟨hx, hb, hr, hml, hown, hG, hlocks, hnm, hX, hA⟩ := hE
  have hown : s.vm.findClass RX2 = some m.cls := hown
  have hnm : meth.name = "<init>" := hnm
  have hl : lv_has ls 1 [(0, .ref h0)] := hl
  refine lv_aload_n hx hb dX2_init_0 rfl (lv_at hl 0 rfl) ?_
  refine W.objInit hx hb hown (hG _ g358) (hG _ g226) (hG _ g227) rfl (by rw [hml]; exact hl.1) rfl dX2_init_1 (Nat.le_of_ble_eq_true rfl) (Nat.le_of_ble_eq_true rfl) ?_
  refine W.eq (g2 := F0 m 4 ls []) rfl ?_
  exact zrv (rm := { frames := 1, cells := 0, slots := 0, locals := 12 }) () hx hb hr hlocks (Nat.le_of_ble_eq_true rfl) (Nat.le_of_ble_eq_true rfl) (trivial) hP hD hS dX2_init_4
theorem dX0_init_0 : decode cX0_init 0 = .ok (.aload_n 0, 1) := by decide +kernel
theorem dX0_init_1 : decode cX0_init 1 = .ok (.invokespecial 3, 3) := by decide +kernel
theorem dX0_init_4 : decode cX0_init 4 = .ok (.aload_n 0, 1) := by decide +kernel
theorem dX0_init_5 : decode cX0_init 5 = .ok (.sipush 240, 3) := by decide +kernel
theorem dX0_init_8 : decode cX0_init 8 = .ok (.newarray .int, 2) := by decide +kernel
theorem dX0_init_10 : decode cX0_init 10 = .ok (.putfield 11, 3) := by decide +kernel
theorem dX0_init_13 : decode cX0_init 13 = .ok (.return_, 1) := by decide +kernel
set_option maxHeartbeats 4000000 in
set_option maxRecDepth 100000 in
theorem kX0_init (l : Launch) (g : zL) (h0 : Nat) : zCv l g yX0_init cX0_init 1 none { frames := 1, cells := 1, slots := 240, locals := 12 } [.ref h0] [(h0, .inr (0, [.null, .int 0, .int 0]))] (fun (u : (Nat)) => True) (fun (u : (Nat)) => [(h0, .inr (0, [.ref u, .int 0, .int 0])), (u, .inl (g.2.1.1, 240, .inl (fun _ => 0)))]) := by
  refine zCv.mk (by decide) (Nat.le_of_ble_eq_true rfl) ?_
  intro p e s m below meth c A hE hP hD hS ls hl
  obtain ⟨hx, hb, hr, hml, hown, hG, hlocks, hnm, hX, hA⟩ := hE
  have hown : s.vm.findClass RX0 = some m.cls := hown
  have hnm : meth.name = "<init>" := hnm
  have hl : lv_has ls 1 [(0, .ref h0)] := hl
  refine lv_aload_n hx hb dX0_init_0 rfl (lv_at hl 0 rfl) ?_
  refine W.objInit hx hb hown (hG _ g374) (hG _ g226) (hG _ g227) rfl (by rw [hml]; exact hl.1) rfl dX0_init_1 (Nat.le_of_ble_eq_true rfl) (Nat.le_of_ble_eq_true rfl) ?_
  refine W.eq (g2 := F0 m 4 ls []) rfl ?_
  refine lv_aload_n hx hb dX0_init_4 rfl (lv_at hl 0 rfl) ?_
  refine lv_sipush (v := 240) hx hb dX0_init_5 (by decide) ?_
  refine zna (atype := .int) (N' := 240) (a0 := (240, .inl (fun _ => 0))) hx hb (hG _ g306) (ty := .int) rfl 0 rfl (fun _ h9 => va_nm_int h9) hX hP hD hS hA (fun _ => rfl) (by decide) (by decide) (Nat.le_of_ble_eq_true rfl) (Nat.le_of_ble_eq_true rfl) (Nat.le_of_ble_eq_true rfl) dX0_init_8 (fun q1 H hP hD hS => ?_)
  refine W.cs (cells' := 1) (slots' := 240) rfl rfl ?_
  have hP : va_P g.1 vwCl [(h0, .inr (0, [.null, .int 0, .int 0])), (q1, .inl (g.2.1.1, 240, .inl (fun _ => 0)))] H := hP
  have hD : va_D A [(h0, .inr (0, [.null, .int 0, .int 0])), (q1, .inl (g.2.1.1, 240, .inl (fun _ => 0)))] := hD
  refine va_putF (D := g.1) (ci := 0) (v := .ref q1) (ty := (.array .int)) (C := RX0) (T := TX0) (N := 3) hx hb hG iX0 tyX0 tyX0_ok nmX0 hown hX.1 hP hD hS 0 rfl rfl 0 (by decide) (hG _ g375) (fun _ h9 => h9) rfl hnm rfl (by decide +kernel) rfl rfl (Nat.le_of_ble_eq_true rfl) dX0_init_10 (fun H locs hP hD hS => ?_)
  have hP : va_P g.1 vwCl [(h0, .inr (0, [.ref q1, .int 0, .int 0])), (q1, .inl (g.2.1.1, 240, .inl (fun _ => 0)))] H := hP
  have hD : va_D A [(h0, .inr (0, [.ref q1, .int 0, .int 0])), (q1, .inl (g.2.1.1, 240, .inl (fun _ => 0)))] := hD
  exact zrv (rm := { frames := 1, cells := 1, slots := 240, locals := 12 }) q1 hx hb hr hlocks (Nat.le_of_ble_eq_true rfl) (Nat.le_of_ble_eq_true rfl) (trivial) hP hD hS dX0_init_13
theorem dX1_init_0 : decode cX1_init 0 = .ok (.aload_n 0, 1) := by decide +kernel
theorem dX1_init_1 : decode cX1_init 1 = .ok (.invokespecial 3, 3) := by decide +kernel
theorem dX1_init_4 : decode cX1_init 4 = .ok (.aload_n 0, 1) := by decide +kernel
theorem dX1_init_5 : decode cX1_init 5 = .ok (.bipush 8, 2) := by decide +kernel
theorem dX1_init_7 : decode cX1_init 7 = .ok (.newarray .int, 2) := by decide +kernel
theorem dX1_init_9 : decode cX1_init 9 = .ok (.putfield 11, 3) := by decide +kernel
theorem dX1_init_12 : decode cX1_init 12 = .ok (.aload_n 0, 1) := by decide +kernel
theorem dX1_init_13 : decode cX1_init 13 = .ok (.bipush 8, 2) := by decide +kernel
theorem dX1_init_15 : decode cX1_init 15 = .ok (.newarray .int, 2) := by decide +kernel
theorem dX1_init_17 : decode cX1_init 17 = .ok (.putfield 15, 3) := by decide +kernel
theorem dX1_init_20 : decode cX1_init 20 = .ok (.return_, 1) := by decide +kernel
set_option maxHeartbeats 4000000 in
set_option maxRecDepth 100000 in
theorem kX1_init (l : Launch) (g : zL) (h0 : Nat) : zCv l g yX1_init cX1_init 1 none { frames := 1, cells := 2, slots := 16, locals := 12 } [.ref h0] [(h0, .inr (1, [.null, .null, .int 0]))] (fun (u : (Nat) × (Nat)) => True) (fun (u : (Nat) × (Nat)) => [(h0, .inr (1, [.ref u.1, .ref u.2, .int 0])), (u.1, .inl (g.2.1.1, 8, .inl (fun _ => 0))), (u.2, .inl (g.2.1.1, 8, .inl (fun _ => 0)))]) := by
  refine zCv.mk (by decide) (Nat.le_of_ble_eq_true rfl) ?_
  intro p e s m below meth c A hE hP hD hS ls hl
  obtain ⟨hx, hb, hr, hml, hown, hG, hlocks, hnm, hX, hA⟩ := hE
  have hown : s.vm.findClass RX1 = some m.cls := hown
  have hnm : meth.name = "<init>" := hnm
  have hl : lv_has ls 1 [(0, .ref h0)] := hl
  refine lv_aload_n hx hb dX1_init_0 rfl (lv_at hl 0 rfl) ?_
  refine W.objInit hx hb hown (hG _ g391) (hG _ g226) (hG _ g227) rfl (by rw [hml]; exact hl.1) rfl dX1_init_1 (Nat.le_of_ble_eq_true rfl) (Nat.le_of_ble_eq_true rfl) ?_
  refine W.eq (g2 := F0 m 4 ls []) rfl ?_
  refine lv_aload_n hx hb dX1_init_4 rfl (lv_at hl 0 rfl) ?_
  refine lv_bipush (v := 8) hx hb dX1_init_5 (by decide) ?_
  refine zna (atype := .int) (N' := 8) (a0 := (8, .inl (fun _ => 0))) hx hb (hG _ g306) (ty := .int) rfl 0 rfl (fun _ h9 => va_nm_int h9) hX hP hD hS hA (fun _ => rfl) (by decide) (by decide) (Nat.le_of_ble_eq_true rfl) (Nat.le_of_ble_eq_true rfl) (Nat.le_of_ble_eq_true rfl) dX1_init_7 (fun q1 H hP hD hS => ?_)
  refine W.cs (cells' := 1) (slots' := 8) rfl rfl ?_
  have hP : va_P g.1 vwCl [(h0, .inr (1, [.null, .null, .int 0])), (q1, .inl (g.2.1.1, 8, .inl (fun _ => 0)))] H := hP
  have hD : va_D A [(h0, .inr (1, [.null, .null, .int 0])), (q1, .inl (g.2.1.1, 8, .inl (fun _ => 0)))] := hD
  refine va_putF (D := g.1) (ci := 1) (v := .ref q1) (ty := (.array .int)) (C := RX1) (T := TX1) (N := 3) hx hb hG iX1 tyX1 tyX1_ok nmX1 hown hX.1 hP hD hS 0 rfl rfl 0 (by decide) (hG _ g392) (fun _ h9 => h9) rfl hnm rfl (by decide +kernel) rfl rfl (Nat.le_of_ble_eq_true rfl) dX1_init_9 (fun H locs hP hD hS => ?_)
  have hP : va_P g.1 vwCl [(h0, .inr (1, [.ref q1, .null, .int 0])), (q1, .inl (g.2.1.1, 8, .inl (fun _ => 0)))] H := hP
  have hD : va_D A [(h0, .inr (1, [.ref q1, .null, .int 0])), (q1, .inl (g.2.1.1, 8, .inl (fun _ => 0)))] := hD
  refine lv_aload_n hx hb dX1_init_12 rfl (lv_at hl 0 rfl) ?_
  refine lv_bipush (v := 8) hx hb dX1_init_13 (by decide) ?_
  refine zna (atype := .int) (N' := 8) (a0 := (8, .inl (fun _ => 0))) hx hb (hG _ g306) (ty := .int) rfl 0 rfl (fun _ h9 => va_nm_int h9) hX hP hD hS hA (fun _ => rfl) (by decide) (by decide) (Nat.le_of_ble_eq_true rfl) (Nat.le_of_ble_eq_true rfl) (Nat.le_of_ble_eq_true rfl) dX1_init_15 (fun q2 H hP hD hS => ?_)
  refine W.cs (cells' := 2) (slots' := 16) rfl rfl ?_
  have hP : va_P g.1 vwCl [(h0, .inr (1, [.ref q1, .null, .int 0])), (q1, .inl (g.2.1.1, 8, .inl (fun _ => 0))), (q2, .inl (g.2.1.1, 8, .inl (fun _ => 0)))] H := hP
  have hD : va_D A [(h0, .inr (1, [.ref q1, .null, .int 0])), (q1, .inl (g.2.1.1, 8, .inl (fun _ => 0))), (q2, .inl (g.2.1.1, 8, .inl (fun _ => 0)))] := hD
  refine va_putF (D := g.1) (ci := 1) (v := .ref q2) (ty := (.array .int)) (C := RX1) (T := TX1) (N := 3) hx hb hG iX1 tyX1 tyX1_ok nmX1 hown hX.1 hP hD hS 0 rfl rfl 1 (by decide) (hG _ g393) (fun _ h9 => h9) rfl hnm rfl (by decide +kernel) rfl rfl (Nat.le_of_ble_eq_true rfl) dX1_init_17 (fun H locs hP hD hS => ?_)
  have hP : va_P g.1 vwCl [(h0, .inr (1, [.ref q1, .ref q2, .int 0])), (q1, .inl (g.2.1.1, 8, .inl (fun _ => 0))), (q2, .inl (g.2.1.1, 8, .inl (fun _ => 0)))] H := hP
  have hD : va_D A [(h0, .inr (1, [.ref q1, .ref q2, .int 0])), (q1, .inl (g.2.1.1, 8, .inl (fun _ => 0))), (q2, .inl (g.2.1.1, 8, .inl (fun _ => 0)))] := hD
  exact zrv (rm := { frames := 1, cells := 2, slots := 16, locals := 12 }) (q1, q2) hx hb hr hlocks (Nat.le_of_ble_eq_true rfl) (Nat.le_of_ble_eq_true rfl) (trivial) hP hD hS dX1_init_20
theorem dX4_init_0 : decode cX4_init 0 = .ok (.aload_n 0, 1) := by decide +kernel
theorem dX4_init_1 : decode cX4_init 1 = .ok (.invokespecial 3, 3) := by decide +kernel
theorem dX4_init_4 : decode cX4_init 4 = .ok (.aload_n 0, 1) := by decide +kernel
theorem dX4_init_5 : decode cX4_init 5 = .ok (.bipush 8, 2) := by decide +kernel
theorem dX4_init_7 : decode cX4_init 7 = .ok (.newarray .int, 2) := by decide +kernel
theorem dX4_init_9 : decode cX4_init 9 = .ok (.putfield 9, 3) := by decide +kernel
theorem dX4_init_12 : decode cX4_init 12 = .ok (.aload_n 0, 1) := by decide +kernel
theorem dX4_init_13 : decode cX4_init 13 = .ok (.bipush 10, 2) := by decide +kernel
theorem dX4_init_15 : decode cX4_init 15 = .ok (.newarray .int, 2) := by decide +kernel
theorem dX4_init_17 : decode cX4_init 17 = .ok (.putfield 15, 3) := by decide +kernel
theorem dX4_init_20 : decode cX4_init 20 = .ok (.aload_n 0, 1) := by decide +kernel
theorem dX4_init_21 : decode cX4_init 21 = .ok (.bipush 9, 2) := by decide +kernel
theorem dX4_init_23 : decode cX4_init 23 = .ok (.newarray .int, 2) := by decide +kernel
theorem dX4_init_25 : decode cX4_init 25 = .ok (.putfield 18, 3) := by decide +kernel
theorem dX4_init_28 : decode cX4_init 28 = .ok (.aload_n 0, 1) := by decide +kernel
theorem dX4_init_29 : decode cX4_init 29 = .ok (.bipush 9, 2) := by decide +kernel
theorem dX4_init_31 : decode cX4_init 31 = .ok (.newarray .int, 2) := by decide +kernel
theorem dX4_init_33 : decode cX4_init 33 = .ok (.putfield 21, 3) := by decide +kernel
theorem dX4_init_36 : decode cX4_init 36 = .ok (.aload_n 0, 1) := by decide +kernel
theorem dX4_init_37 : decode cX4_init 37 = .ok (.bipush 9, 2) := by decide +kernel
theorem dX4_init_39 : decode cX4_init 39 = .ok (.newarray .int, 2) := by decide +kernel
theorem dX4_init_41 : decode cX4_init 41 = .ok (.putfield 24, 3) := by decide +kernel
theorem dX4_init_44 : decode cX4_init 44 = .ok (.aload_n 0, 1) := by decide +kernel
theorem dX4_init_45 : decode cX4_init 45 = .ok (.bipush 9, 2) := by decide +kernel
theorem dX4_init_47 : decode cX4_init 47 = .ok (.newarray .int, 2) := by decide +kernel
theorem dX4_init_49 : decode cX4_init 49 = .ok (.putfield 27, 3) := by decide +kernel
theorem dX4_init_52 : decode cX4_init 52 = .ok (.aload_n 0, 1) := by decide +kernel
theorem dX4_init_53 : decode cX4_init 53 = .ok (.bipush 9, 2) := by decide +kernel
theorem dX4_init_55 : decode cX4_init 55 = .ok (.newarray .int, 2) := by decide +kernel
theorem dX4_init_57 : decode cX4_init 57 = .ok (.putfield 30, 3) := by decide +kernel
theorem dX4_init_60 : decode cX4_init 60 = .ok (.aload_n 0, 1) := by decide +kernel
theorem dX4_init_61 : decode cX4_init 61 = .ok (.bipush 9, 2) := by decide +kernel
theorem dX4_init_63 : decode cX4_init 63 = .ok (.newarray .int, 2) := by decide +kernel
theorem dX4_init_65 : decode cX4_init 65 = .ok (.putfield 33, 3) := by decide +kernel
theorem dX4_init_68 : decode cX4_init 68 = .ok (.aload_n 0, 1) := by decide +kernel
theorem dX4_init_69 : decode cX4_init 69 = .ok (.bipush 9, 2) := by decide +kernel
theorem dX4_init_71 : decode cX4_init 71 = .ok (.newarray .int, 2) := by decide +kernel
theorem dX4_init_73 : decode cX4_init 73 = .ok (.putfield 36, 3) := by decide +kernel
theorem dX4_init_76 : decode cX4_init 76 = .ok (.aload_n 0, 1) := by decide +kernel
theorem dX4_init_77 : decode cX4_init 77 = .ok (.bipush 9, 2) := by decide +kernel
theorem dX4_init_79 : decode cX4_init 79 = .ok (.newarray .int, 2) := by decide +kernel
theorem dX4_init_81 : decode cX4_init 81 = .ok (.putfield 39, 3) := by decide +kernel
theorem dX4_init_84 : decode cX4_init 84 = .ok (.return_, 1) := by decide +kernel
set_option maxHeartbeats 4000000 in
set_option maxRecDepth 100000 in
theorem kX4_init (l : Launch) (g : zL) (h0 : Nat) : zCv l g yX4_init cX4_init 1 none { frames := 1, cells := 10, slots := 90, locals := 12 } [.ref h0] [(h0, .inr (4, [.int 0, .int 0, .int 0, .int 0, .int 0, .int 0, .null, .null, .null, .null, .null, .null, .null, .null, .null, .null]))] (fun (u : Nat → Nat) => True) (fun (u : Nat → Nat) => [(h0, .inr (4, [.int 0, .int 0, .int 0, .int 0, .int 0, .int 0, .ref (u 0), .ref (u 1), .ref (u 2), .ref (u 3), .ref (u 4), .ref (u 5), .ref (u 6), .ref (u 7), .ref (u 8), .ref (u 9)])), ((u 1), .inl (g.2.1.1, 10, .inl (fun _ => 0))), ((u 6), .inl (g.2.1.1, 9, .inl (fun _ => 0))), ((u 7), .inl (g.2.1.1, 9, .inl (fun _ => 0)))]) := by
  refine zCv.mk (by decide) (Nat.le_of_ble_eq_true rfl) ?_
  intro p e s m below meth c A hE hP hD hS ls hl
  obtain ⟨hx, hb, hr, hml, hown, hG, hlocks, hnm, hX, hA⟩ := hE
  have hown : s.vm.findClass RX4 = some m.cls := hown
  have hnm : meth.name = "<init>" := hnm
  have hl : lv_has ls 1 [(0, .ref h0)] := hl
  refine lv_aload_n hx hb dX4_init_0 rfl (lv_at hl 0 rfl) ?_
  refine W.objInit hx hb hown (hG _ g408) (hG _ g226) (hG _ g227) rfl (by rw [hml]; exact hl.1) rfl dX4_init_1 (Nat.le_of_ble_eq_true rfl) (Nat.le_of_ble_eq_true rfl) ?_
  refine W.eq (g2 := F0 m 4 ls []) rfl ?_
  refine lv_aload_n hx hb dX4_init_4 rfl (lv_at hl 0 rfl) ?_
  refine lv_bipush (v := 8) hx hb dX4_init_5 (by decide) ?_
  refine zna (atype := .int) (N' := 8) (a0 := (8, .inl (fun _ => 0))) hx hb (hG _ g306) (ty := .int) rfl 0 rfl (fun _ h9 => va_nm_int h9) hX hP hD hS hA (fun _ => rfl) (by decide) (by decide) (Nat.le_of_ble_eq_true rfl) (Nat.le_of_ble_eq_true rfl) (Nat.le_of_ble_eq_true rfl) dX4_init_7 (fun q1 H hP hD hS => ?_)
  refine W.cs (cells' := 1) (slots' := 8) rfl rfl ?_
  have hP : va_P g.1 vwCl [(h0, .inr (4, [.int 0, .int 0, .int 0, .int 0, .int 0, .int 0, .null, .null, .null, .null, .null, .null, .null, .null, .null, .null])), (q1, .inl (g.2.1.1, 8, .inl (fun _ => 0)))] H := hP
  have hD : va_D A [(h0, .inr (4, [.int 0, .int 0, .int 0, .int 0, .int 0, .int 0, .null, .null, .null, .null, .null, .null, .null, .null, .null, .null])), (q1, .inl (g.2.1.1, 8, .inl (fun _ => 0)))] := hD
  refine va_putF (D := g.1) (ci := 4) (v := .ref q1) (ty := (.array .int)) (C := RX4) (T := TX4) (N := 16) hx hb hG iX4 tyX4 tyX4_ok nmX4 hown hX.1 hP hD hS 0 rfl rfl 6 (by decide) (hG _ g438) (fun _ h9 => h9) rfl hnm rfl (by decide +kernel) rfl rfl (Nat.le_of_ble_eq_true rfl) dX4_init_9 (fun H locs hP hD hS => ?_)
  have hP : va_P g.1 vwCl [(h0, .inr (4, [.int 0, .int 0, .int 0, .int 0, .int 0, .int 0, .ref q1, .null, .null, .null, .null, .null, .null, .null, .null, .null])), (q1, .inl (g.2.1.1, 8, .inl (fun _ => 0)))] H := hP
  have hD : va_D A [(h0, .inr (4, [.int 0, .int 0, .int 0, .int 0, .int 0, .int 0, .ref q1, .null, .null, .null, .null, .null, .null, .null, .null, .null])), (q1, .inl (g.2.1.1, 8, .inl (fun _ => 0)))] := hD
  refine lv_aload_n hx hb dX4_init_12 rfl (lv_at hl 0 rfl) ?_
  refine lv_bipush (v := 10) hx hb dX4_init_13 (by decide) ?_
  refine zna (atype := .int) (N' := 10) (a0 := (10, .inl (fun _ => 0))) hx hb (hG _ g306) (ty := .int) rfl 0 rfl (fun _ h9 => va_nm_int h9) hX hP hD hS hA (fun _ => rfl) (by decide) (by decide) (Nat.le_of_ble_eq_true rfl) (Nat.le_of_ble_eq_true rfl) (Nat.le_of_ble_eq_true rfl) dX4_init_15 (fun q2 H hP hD hS => ?_)
  refine W.cs (cells' := 2) (slots' := 18) rfl rfl ?_
  have hP : va_P g.1 vwCl [(h0, .inr (4, [.int 0, .int 0, .int 0, .int 0, .int 0, .int 0, .ref q1, .null, .null, .null, .null, .null, .null, .null, .null, .null])), (q1, .inl (g.2.1.1, 8, .inl (fun _ => 0))), (q2, .inl (g.2.1.1, 10, .inl (fun _ => 0)))] H := hP
  have hD : va_D A [(h0, .inr (4, [.int 0, .int 0, .int 0, .int 0, .int 0, .int 0, .ref q1, .null, .null, .null, .null, .null, .null, .null, .null, .null])), (q1, .inl (g.2.1.1, 8, .inl (fun _ => 0))), (q2, .inl (g.2.1.1, 10, .inl (fun _ => 0)))] := hD
  refine va_putF (D := g.1) (ci := 4) (v := .ref q2) (ty := (.array .int)) (C := RX4) (T := TX4) (N := 16) hx hb hG iX4 tyX4 tyX4_ok nmX4 hown hX.1 hP hD hS 0 rfl rfl 7 (by decide) (hG _ g441) (fun _ h9 => h9) rfl hnm rfl (by decide +kernel) rfl rfl (Nat.le_of_ble_eq_true rfl) dX4_init_17 (fun H locs hP hD hS => ?_)
  have hP : va_P g.1 vwCl [(h0, .inr (4, [.int 0, .int 0, .int 0, .int 0, .int 0, .int 0, .ref q1, .ref q2, .null, .null, .null, .null, .null, .null, .null, .null])), (q1, .inl (g.2.1.1, 8, .inl (fun _ => 0))), (q2, .inl (g.2.1.1, 10, .inl (fun _ => 0)))] H := hP
  have hD : va_D A [(h0, .inr (4, [.int 0, .int 0, .int 0, .int 0, .int 0, .int 0, .ref q1, .ref q2, .null, .null, .null, .null, .null, .null, .null, .null])), (q1, .inl (g.2.1.1, 8, .inl (fun _ => 0))), (q2, .inl (g.2.1.1, 10, .inl (fun _ => 0)))] := hD
  refine lv_aload_n hx hb dX4_init_20 rfl (lv_at hl 0 rfl) ?_
  refine lv_bipush (v := 9) hx hb dX4_init_21 (by decide) ?_
  refine zna (atype := .int) (N' := 9) (a0 := (9, .inl (fun _ => 0))) hx hb (hG _ g306) (ty := .int) rfl 0 rfl (fun _ h9 => va_nm_int h9) hX hP hD hS hA (fun _ => rfl) (by decide) (by decide) (Nat.le_of_ble_eq_true rfl) (Nat.le_of_ble_eq_true rfl) (Nat.le_of_ble_eq_true rfl) dX4_init_23 (fun q3 H hP hD hS => ?_)
  refine W.cs (cells' := 3) (slots' := 27) rfl rfl ?_
  have hP : va_P g.1 vwCl [(h0, .inr (4, [.int 0, .int 0, .int 0, .int 0, .int 0, .int 0, .ref q1, .ref q2, .null, .null, .null, .null, .null, .null, .null, .null])), (q1, .inl (g.2.1.1, 8, .inl (fun _ => 0))), (q2, .inl (g.2.1.1, 10, .inl (fun _ => 0))), (q3, .inl (g.2.1.1, 9, .inl (fun _ => 0)))] H := hP
  have hD : va_D A [(h0, .inr (4, [.int 0, .int 0, .int 0, .int 0, .int 0, .int 0, .ref q1, .ref q2, .null, .null, .null, .null, .null, .null, .null, .null])), (q1, .inl (g.2.1.1, 8, .inl (fun _ => 0))), (q2, .inl (g.2.1.1, 10, .inl (fun _ => 0))), (q3, .inl (g.2.1.1, 9, .inl (fun _ => 0)))] := hD
  refine va_putF (D := g.1) (ci := 4) (v := .ref q3) (ty := (.array .int)) (C := RX4) (T := TX4) (N := 16) hx hb hG iX4 tyX4 tyX4_ok nmX4 hown hX.1 hP hD hS 0 rfl rfl 8 (by decide) (hG _ g445) (fun _ h9 => h9) rfl hnm rfl (by decide +kernel) rfl rfl (Nat.le_of_ble_eq_true rfl) dX4_init_25 (fun H locs hP hD hS => ?_)
  have hP : va_P g.1 vwCl [(h0, .inr (4, [.int 0, .int 0, .int 0, .int 0, .int 0, .int 0, .ref q1, .ref q2, .ref q3, .null, .null, .null, .null, .null, .null, .null])), (q1, .inl (g.2.1.1, 8, .inl (fun _ => 0))), (q2, .inl (g.2.1.1, 10, .inl (fun _ => 0))), (q3, .inl (g.2.1.1, 9, .inl (fun _ => 0)))] H := hP
  have hD : va_D A [(h0, .inr (4, [.int 0, .int 0, .int 0, .int 0, .int 0, .int 0, .ref q1, .ref q2, .ref q3, .null, .null, .null, .null, .null, .null, .null])), (q1, .inl (g.2.1.1, 8, .inl (fun _ => 0))), (q2, .inl (g.2.1.1, 10, .inl (fun _ => 0))), (q3, .inl (g.2.1.1, 9, .inl (fun _ => 0)))] := hD
  refine lv_aload_n hx hb dX4_init_28 rfl (lv_at hl 0 rfl) ?_
  refine lv_bipush (v := 9) hx hb dX4_init_29 (by decide) ?_
  refine zna (atype := .int) (N' := 9) (a0 := (9, .inl (fun _ => 0))) hx hb (hG _ g306) (ty := .int) rfl 0 rfl (fun _ h9 => va_nm_int h9) hX hP hD hS hA (fun _ => rfl) (by decide) (by decide) (Nat.le_of_ble_eq_true rfl) (Nat.le_of_ble_eq_true rfl) (Nat.le_of_ble_eq_true rfl) dX4_init_31 (fun q4 H hP hD hS => ?_)
  refine W.cs (cells' := 4) (slots' := 36) rfl rfl ?_
  have hP : va_P g.1 vwCl [(h0, .inr (4, [.int 0, .int 0, .int 0, .int 0, .int 0, .int 0, .ref q1, .ref q2, .ref q3, .null, .null, .null, .null, .null, .null, .null])), (q1, .inl (g.2.1.1, 8, .inl (fun _ => 0))), (q2, .inl (g.2.1.1, 10, .inl (fun _ => 0))), (q3, .inl (g.2.1.1, 9, .inl (fun _ => 0))), (q4, .inl (g.2.1.1, 9, .inl (fun _ => 0)))] H := hP
  have hD : va_D A [(h0, .inr (4, [.int 0, .int 0, .int 0, .int 0, .int 0, .int 0, .ref q1, .ref q2, .ref q3, .null, .null, .null, .null, .null, .null, .null])), (q1, .inl (g.2.1.1, 8, .inl (fun _ => 0))), (q2, .inl (g.2.1.1, 10, .inl (fun _ => 0))), (q3, .inl (g.2.1.1, 9, .inl (fun _ => 0))), (q4, .inl (g.2.1.1, 9, .inl (fun _ => 0)))] := hD
  refine va_putF (D := g.1) (ci := 4) (v := .ref q4) (ty := (.array .int)) (C := RX4) (T := TX4) (N := 16) hx hb hG iX4 tyX4 tyX4_ok nmX4 hown hX.1 hP hD hS 0 rfl rfl 9 (by decide) (hG _ g448) (fun _ h9 => h9) rfl hnm rfl (by decide +kernel) rfl rfl (Nat.le_of_ble_eq_true rfl) dX4_init_33 (fun H locs hP hD hS => ?_)
  have hP : va_P g.1 vwCl [(h0, .inr (4, [.int 0, .int 0, .int 0, .int 0, .int 0, .int 0, .ref q1, .ref q2, .ref q3, .ref q4, .null, .null, .null, .null, .null, .null])), (q1, .inl (g.2.1.1, 8, .inl (fun _ => 0))), (q2, .inl (g.2.1.1, 10, .inl (fun _ => 0))), (q3, .inl (g.2.1.1, 9, .inl (fun _ => 0))), (q4, .inl (g.2.1.1, 9, .inl (fun _ => 0)))] H := hP
  have hD : va_D A [(h0, .inr (4, [.int 0, .int 0, .int 0, .int 0, .int 0, .int 0, .ref q1, .ref q2, .ref q3, .ref q4, .null, .null, .null, .null, .null, .null])), (q1, .inl (g.2.1.1, 8, .inl (fun _ => 0))), (q2, .inl (g.2.1.1, 10, .inl (fun _ => 0))), (q3, .inl (g.2.1.1, 9, .inl (fun _ => 0))), (q4, .inl (g.2.1.1, 9, .inl (fun _ => 0)))] := hD
  refine lv_aload_n hx hb dX4_init_36 rfl (lv_at hl 0 rfl) ?_
  refine lv_bipush (v := 9) hx hb dX4_init_37 (by decide) ?_
  refine zna (atype := .int) (N' := 9) (a0 := (9, .inl (fun _ => 0))) hx hb (hG _ g306) (ty := .int) rfl 0 rfl (fun _ h9 => va_nm_int h9) hX hP hD hS hA (fun _ => rfl) (by decide) (by decide) (Nat.le_of_ble_eq_true rfl) (Nat.le_of_ble_eq_true rfl) (Nat.le_of_ble_eq_true rfl) dX4_init_39 (fun q5 H hP hD hS => ?_)
  refine W.cs (cells' := 5) (slots' := 45) rfl rfl ?_
  have hP : va_P g.1 vwCl [(h0, .inr (4, [.int 0, .int 0, .int 0, .int 0, .int 0, .int 0, .ref q1, .ref q2, .ref q3, .ref q4, .null, .null, .null, .null, .null, .null])), (q1, .inl (g.2.1.1, 8, .inl (fun _ => 0))), (q2, .inl (g.2.1.1, 10, .inl (fun _ => 0))), (q3, .inl (g.2.1.1, 9, .inl (fun _ => 0))), (q4, .inl (g.2.1.1, 9, .inl (fun _ => 0))), (q5, .inl (g.2.1.1, 9, .inl (fun _ => 0)))] H := hP
  have hD : va_D A [(h0, .inr (4, [.int 0, .int 0, .int 0, .int 0, .int 0, .int 0, .ref q1, .ref q2, .ref q3, .ref q4, .null, .null, .null, .null, .null, .null])), (q1, .inl (g.2.1.1, 8, .inl (fun _ => 0))), (q2, .inl (g.2.1.1, 10, .inl (fun _ => 0))), (q3, .inl (g.2.1.1, 9, .inl (fun _ => 0))), (q4, .inl (g.2.1.1, 9, .inl (fun _ => 0))), (q5, .inl (g.2.1.1, 9, .inl (fun _ => 0)))] := hD
  refine va_putF (D := g.1) (ci := 4) (v := .ref q5) (ty := (.array .int)) (C := RX4) (T := TX4) (N := 16) hx hb hG iX4 tyX4 tyX4_ok nmX4 hown hX.1 hP hD hS 0 rfl rfl 10 (by decide) (hG _ g452) (fun _ h9 => h9) rfl hnm rfl (by decide +kernel) rfl rfl (Nat.le_of_ble_eq_true rfl) dX4_init_41 (fun H locs hP hD hS => ?_)
  have hP : va_P g.1 vwCl [(h0, .inr (4, [.int 0, .int 0, .int 0, .int 0, .int 0, .int 0, .ref q1, .ref q2, .ref q3, .ref q4, .ref q5, .null, .null, .null, .null, .null])), (q1, .inl (g.2.1.1, 8, .inl (fun _ => 0))), (q2, .inl (g.2.1.1, 10, .inl (fun _ => 0))), (q3, .inl (g.2.1.1, 9, .inl (fun _ => 0))), (q4, .inl (g.2.1.1, 9, .inl (fun _ => 0))), (q5, .inl (g.2.1.1, 9, .inl (fun _ => 0)))] H := hP
  have hD : va_D A [(h0, .inr (4, [.int 0, .int 0, .int 0, .int 0, .int 0, .int 0, .ref q1, .ref q2, .ref q3, .ref q4, .ref q5, .null, .null, .null, .null, .null])), (q1, .inl (g.2.1.1, 8, .inl (fun _ => 0))), (q2, .inl (g.2.1.1, 10, .inl (fun _ => 0))), (q3, .inl (g.2.1.1, 9, .inl (fun _ => 0))), (q4, .inl (g.2.1.1, 9, .inl (fun _ => 0))), (q5, .inl (g.2.1.1, 9, .inl (fun _ => 0)))] := hD
  refine lv_aload_n hx hb dX4_init_44 rfl (lv_at hl 0 rfl) ?_
  refine lv_bipush (v := 9) hx hb dX4_init_45 (by decide) ?_
  refine zna (atype := .int) (N' := 9) (a0 := (9, .inl (fun _ => 0))) hx hb (hG _ g306) (ty := .int) rfl 0 rfl (fun _ h9 => va_nm_int h9) hX hP hD hS hA (fun _ => rfl) (by decide) (by decide) (Nat.le_of_ble_eq_true rfl) (Nat.le_of_ble_eq_true rfl) (Nat.le_of_ble_eq_true rfl) dX4_init_47 (fun q6 H hP hD hS => ?_)
  refine W.cs (cells' := 6) (slots' := 54) rfl rfl ?_
  have hP : va_P g.1 vwCl [(h0, .inr (4, [.int 0, .int 0, .int 0, .int 0, .int 0, .int 0, .ref q1, .ref q2, .ref q3, .ref q4, .ref q5, .null, .null, .null, .null, .null])), (q1, .inl (g.2.1.1, 8, .inl (fun _ => 0))), (q2, .inl (g.2.1.1, 10, .inl (fun _ => 0))), (q3, .inl (g.2.1.1, 9, .inl (fun _ => 0))), (q4, .inl (g.2.1.1, 9, .inl (fun _ => 0))), (q5, .inl (g.2.1.1, 9, .inl (fun _ => 0))), (q6, .inl (g.2.1.1, 9, .inl (fun _ => 0)))] H := hP
  have hD : va_D A [(h0, .inr (4, [.int 0, .int 0, .int 0, .int 0, .int 0, .int 0, .ref q1, .ref q2, .ref q3, .ref q4, .ref q5, .null, .null, .null, .null, .null])), (q1, .inl (g.2.1.1, 8, .inl (fun _ => 0))), (q2, .inl (g.2.1.1, 10, .inl (fun _ => 0))), (q3, .inl (g.2.1.1, 9, .inl (fun _ => 0))), (q4, .inl (g.2.1.1, 9, .inl (fun _ => 0))), (q5, .inl (g.2.1.1, 9, .inl (fun _ => 0))), (q6, .inl (g.2.1.1, 9, .inl (fun _ => 0)))] := hD
  refine va_putF (D := g.1) (ci := 4) (v := .ref q6) (ty := (.array .int)) (C := RX4) (T := TX4) (N := 16) hx hb hG iX4 tyX4 tyX4_ok nmX4 hown hX.1 hP hD hS 0 rfl rfl 11 (by decide) (hG _ g456) (fun _ h9 => h9) rfl hnm rfl (by decide +kernel) rfl rfl (Nat.le_of_ble_eq_true rfl) dX4_init_49 (fun H locs hP hD hS => ?_)
  have hP : va_P g.1 vwCl [(h0, .inr (4, [.int 0, .int 0, .int 0, .int 0, .int 0, .int 0, .ref q1, .ref q2, .ref q3, .ref q4, .ref q5, .ref q6, .null, .null, .null, .null])), (q1, .inl (g.2.1.1, 8, .inl (fun _ => 0))), (q2, .inl (g.2.1.1, 10, .inl (fun _ => 0))), (q3, .inl (g.2.1.1, 9, .inl (fun _ => 0))), (q4, .inl (g.2.1.1, 9, .inl (fun _ => 0))), (q5, .inl (g.2.1.1, 9, .inl (fun _ => 0))), (q6, .inl (g.2.1.1, 9, .inl (fun _ => 0)))] H := hP
  have hD : va_D A [(h0, .inr (4, [.int 0, .int 0, .int 0, .int 0, .int 0, .int 0, .ref q1, .ref q2, .ref q3, .ref q4, .ref q5, .ref q6, .null, .null, .null, .null])), (q1, .inl (g.2.1.1, 8, .inl (fun _ => 0))), (q2, .inl (g.2.1.1, 10, .inl (fun _ => 0))), (q3, .inl (g.2.1.1, 9, .inl (fun _ => 0))), (q4, .inl (g.2.1.1, 9, .inl (fun _ => 0))), (q5, .inl (g.2.1.1, 9, .inl (fun _ => 0))), (q6, .inl (g.2.1.1, 9, .inl (fun _ => 0)))] := hD
  refine lv_aload_n hx hb dX4_init_52 rfl (lv_at hl 0 rfl) ?_
  refine lv_bipush (v := 9) hx hb dX4_init_53 (by decide) ?_
  refine zna (atype := .int) (N' := 9) (a0 := (9, .inl (fun _ => 0))) hx hb (hG _ g306) (ty := .int) rfl 0 rfl (fun _ h9 => va_nm_int h9) hX hP hD hS hA (fun _ => rfl) (by decide) (by decide) (Nat.le_of_ble_eq_true rfl) (Nat.le_of_ble_eq_true rfl) (Nat.le_of_ble_eq_true rfl) dX4_init_55 (fun q7 H hP hD hS => ?_)
  refine W.cs (cells' := 7) (slots' := 63) rfl rfl ?_
  have hP : va_P g.1 vwCl [(h0, .inr (4, [.int 0, .int 0, .int 0, .int 0, .int 0, .int 0, .ref q1, .ref q2, .ref q3, .ref q4, .ref q5, .ref q6, .null, .null, .null, .null])), (q1, .inl (g.2.1.1, 8, .inl (fun _ => 0))), (q2, .inl (g.2.1.1, 10, .inl (fun _ => 0))), (q3, .inl (g.2.1.1, 9, .inl (fun _ => 0))), (q4, .inl (g.2.1.1, 9, .inl (fun _ => 0))), (q5, .inl (g.2.1.1, 9, .inl (fun _ => 0))), (q6, .inl (g.2.1.1, 9, .inl (fun _ => 0))), (q7, .inl (g.2.1.1, 9, .inl (fun _ => 0)))] H := hP
  have hD : va_D A [(h0, .inr (4, [.int 0, .int 0, .int 0, .int 0, .int 0, .int 0, .ref q1, .ref q2, .ref q3, .ref q4, .ref q5, .ref q6, .null, .null, .null, .null])), (q1, .inl (g.2.1.1, 8, .inl (fun _ => 0))), (q2, .inl (g.2.1.1, 10, .inl (fun _ => 0))), (q3, .inl (g.2.1.1, 9, .inl (fun _ => 0))), (q4, .inl (g.2.1.1, 9, .inl (fun _ => 0))), (q5, .inl (g.2.1.1, 9, .inl (fun _ => 0))), (q6, .inl (g.2.1.1, 9, .inl (fun _ => 0))), (q7, .inl (g.2.1.1, 9, .inl (fun _ => 0)))] := hD
  refine va_putF (D := g.1) (ci := 4) (v := .ref q7) (ty := (.array .int)) (C := RX4) (T := TX4) (N := 16) hx hb hG iX4 tyX4 tyX4_ok nmX4 hown hX.1 hP hD hS 0 rfl rfl 12 (by decide) (hG _ g460) (fun _ h9 => h9) rfl hnm rfl (by decide +kernel) rfl rfl (Nat.le_of_ble_eq_true rfl) dX4_init_57 (fun H locs hP hD hS => ?_)
  have hP : va_P g.1 vwCl [(h0, .inr (4, [.int 0, .int 0, .int 0, .int 0, .int 0, .int 0, .ref q1, .ref q2, .ref q3, .ref q4, .ref q5, .ref q6, .ref q7, .null, .null, .null])), (q1, .inl (g.2.1.1, 8, .inl (fun _ => 0))), (q2, .inl (g.2.1.1, 10, .inl (fun _ => 0))), (q3, .inl (g.2.1.1, 9, .inl (fun _ => 0))), (q4, .inl (g.2.1.1, 9, .inl (fun _ => 0))), (q5, .inl (g.2.1.1, 9, .inl (fun _ => 0))), (q6, .inl (g.2.1.1, 9, .inl (fun _ => 0))), (q7, .inl (g.2.1.1, 9, .inl (fun _ => 0)))] H := hP
  have hD : va_D A [(h0, .inr (4, [.int 0, .int 0, .int 0, .int 0, .int 0, .int 0, .ref q1, .ref q2, .ref q3, .ref q4, .ref q5, .ref q6, .ref q7, .null, .null, .null])), (q1, .inl (g.2.1.1, 8, .inl (fun _ => 0))), (q2, .inl (g.2.1.1, 10, .inl (fun _ => 0))), (q3, .inl (g.2.1.1, 9, .inl (fun _ => 0))), (q4, .inl (g.2.1.1, 9, .inl (fun _ => 0))), (q5, .inl (g.2.1.1, 9, .inl (fun _ => 0))), (q6, .inl (g.2.1.1, 9, .inl (fun _ => 0))), (q7, .inl (g.2.1.1, 9, .inl (fun _ => 0)))] := hD
  refine lv_aload_n hx hb dX4_init_60 rfl (lv_at hl 0 rfl) ?_
  refine lv_bipush (v := 9) hx hb dX4_init_61 (by decide) ?_
  refine zna (atype := .int) (N' := 9) (a0 := (9, .inl (fun _ => 0))) hx hb (hG _ g306) (ty := .int) rfl 0 rfl (fun _ h9 => va_nm_int h9) hX hP hD hS hA (fun _ => rfl) (by decide) (by decide) (Nat.le_of_ble_eq_true rfl) (Nat.le_of_ble_eq_true rfl) (Nat.le_of_ble_eq_true rfl) dX4_init_63 (fun q8 H hP hD hS => ?_)
  refine W.cs (cells' := 8) (slots' := 72) rfl rfl ?_
  have hP : va_P g.1 vwCl [(h0, .inr (4, [.int 0, .int 0, .int 0, .int 0, .int 0, .int 0, .ref q1, .ref q2, .ref q3, .ref q4, .ref q5, .ref q6, .ref q7, .null, .null, .null])), (q1, .inl (g.2.1.1, 8, .inl (fun _ => 0))), (q2, .inl (g.2.1.1, 10, .inl (fun _ => 0))), (q3, .inl (g.2.1.1, 9, .inl (fun _ => 0))), (q4, .inl (g.2.1.1, 9, .inl (fun _ => 0))), (q5, .inl (g.2.1.1, 9, .inl (fun _ => 0))), (q6, .inl (g.2.1.1, 9, .inl (fun _ => 0))), (q7, .inl (g.2.1.1, 9, .inl (fun _ => 0))), (q8, .inl (g.2.1.1, 9, .inl (fun _ => 0)))] H := hP
  have hD : va_D A [(h0, .inr (4, [.int 0, .int 0, .int 0, .int 0, .int 0, .int 0, .ref q1, .ref q2, .ref q3, .ref q4, .ref q5, .ref q6, .ref q7, .null, .null, .null])), (q1, .inl (g.2.1.1, 8, .inl (fun _ => 0))), (q2, .inl (g.2.1.1, 10, .inl (fun _ => 0))), (q3, .inl (g.2.1.1, 9, .inl (fun _ => 0))), (q4, .inl (g.2.1.1, 9, .inl (fun _ => 0))), (q5, .inl (g.2.1.1, 9, .inl (fun _ => 0))), (q6, .inl (g.2.1.1, 9, .inl (fun _ => 0))), (q7, .inl (g.2.1.1, 9, .inl (fun _ => 0))), (q8, .inl (g.2.1.1, 9, .inl (fun _ => 0)))] := hD
  refine va_putF (D := g.1) (ci := 4) (v := .ref q8) (ty := (.array .int)) (C := RX4) (T := TX4) (N := 16) hx hb hG iX4 tyX4 tyX4_ok nmX4 hown hX.1 hP hD hS 0 rfl rfl 13 (by decide) (hG _ g464) (fun _ h9 => h9) rfl hnm rfl (by decide +kernel) rfl rfl (Nat.le_of_ble_eq_true rfl) dX4_init_65 (fun H locs hP hD hS => ?_)
  have hP : va_P g.1 vwCl [(h0, .inr (4, [.int 0, .int 0, .int 0, .int 0, .int 0, .int 0, .ref q1, .ref q2, .ref q3, .ref q4, .ref q5, .ref q6, .ref q7, .ref q8, .null, .null])), (q1, .inl (g.2.1.1, 8, .inl (fun _ => 0))), (q2, .inl (g.2.1.1, 10, .inl (fun _ => 0))), (q3, .inl (g.2.1.1, 9, .inl (fun _ => 0))), (q4, .inl (g.2.1.1, 9, .inl (fun _ => 0))), (q5, .inl (g.2.1.1, 9, .inl (fun _ => 0))), (q6, .inl (g.2.1.1, 9, .inl (fun _ => 0))), (q7, .inl (g.2.1.1, 9, .inl (fun _ => 0))), (q8, .inl (g.2.1.1, 9, .inl (fun _ => 0)))] H := hP
  have hD : va_D A [(h0, .inr (4, [.int 0, .int 0, .int 0, .int 0, .int 0, .int 0, .ref q1, .ref q2, .ref q3, .ref q4, .ref q5, .ref q6, .ref q7, .ref q8, .null, .null])), (q1, .inl (g.2.1.1, 8, .inl (fun _ => 0))), (q2, .inl (g.2.1.1, 10, .inl (fun _ => 0))), (q3, .inl (g.2.1.1, 9, .inl (fun _ => 0))), (q4, .inl (g.2.1.1, 9, .inl (fun _ => 0))), (q5, .inl (g.2.1.1, 9, .inl (fun _ => 0))), (q6, .inl (g.2.1.1, 9, .inl (fun _ => 0))), (q7, .inl (g.2.1.1, 9, .inl (fun _ => 0))), (q8, .inl (g.2.1.1, 9, .inl (fun _ => 0)))] := hD
  refine lv_aload_n hx hb dX4_init_68 rfl (lv_at hl 0 rfl) ?_
  refine lv_bipush (v := 9) hx hb dX4_init_69 (by decide) ?_
  refine zna (atype := .int) (N' := 9) (a0 := (9, .inl (fun _ => 0))) hx hb (hG _ g306) (ty := .int) rfl 0 rfl (fun _ h9 => va_nm_int h9) hX hP hD hS hA (fun _ => rfl) (by decide) (by decide) (Nat.le_of_ble_eq_true rfl) (Nat.le_of_ble_eq_true rfl) (Nat.le_of_ble_eq_true rfl) dX4_init_71 (fun q9 H hP hD hS => ?_)
  refine W.cs (cells' := 9) (slots' := 81) rfl rfl ?_
  have hP : va_P g.1 vwCl [(h0, .inr (4, [.int 0, .int 0, .int 0, .int 0, .int 0, .int 0, .ref q1, .ref q2, .ref q3, .ref q4, .ref q5, .ref q6, .ref q7, .ref q8, .null, .null])), (q1, .inl (g.2.1.1, 8, .inl (fun _ => 0))), (q2, .inl (g.2.1.1, 10, .inl (fun _ => 0))), (q3, .inl (g.2.1.1, 9, .inl (fun _ => 0))), (q4, .inl (g.2.1.1, 9, .inl (fun _ => 0))), (q5, .inl (g.2.1.1, 9, .inl (fun _ => 0))), (q6, .inl (g.2.1.1, 9, .inl (fun _ => 0))), (q7, .inl (g.2.1.1, 9, .inl (fun _ => 0))), (q8, .inl (g.2.1.1, 9, .inl (fun _ => 0))), (q9, .inl (g.2.1.1, 9, .inl (fun _ => 0)))] H := hP
  have hD : va_D A [(h0, .inr (4, [.int 0, .int 0, .int 0, .int 0, .int 0, .int 0, .ref q1, .ref q2, .ref q3, .ref q4, .ref q5, .ref q6, .ref q7, .ref q8, .null, .null])), (q1, .inl (g.2.1.1, 8, .inl (fun _ => 0))), (q2, .inl (g.2.1.1, 10, .inl (fun _ => 0))), (q3, .inl (g.2.1.1, 9, .inl (fun _ => 0))), (q4, .inl (g.2.1.1, 9, .inl (fun _ => 0))), (q5, .inl (g.2.1.1, 9, .inl (fun _ => 0))), (q6, .inl (g.2.1.1, 9, .inl (fun _ => 0))), (q7, .inl (g.2.1.1, 9, .inl (fun _ => 0))), (q8, .inl (g.2.1.1, 9, .inl (fun _ => 0))), (q9, .inl (g.2.1.1, 9, .inl (fun _ => 0)))] := hD
  refine va_putF (D := g.1) (ci := 4) (v := .ref q9) (ty := (.array .int)) (C := RX4) (T := TX4) (N := 16) hx hb hG iX4 tyX4 tyX4_ok nmX4 hown hX.1 hP hD hS 0 rfl rfl 14 (by decide) (hG _ g468) (fun _ h9 => h9) rfl hnm rfl (by decide +kernel) rfl rfl (Nat.le_of_ble_eq_true rfl) dX4_init_73 (fun H locs hP hD hS => ?_)
  have hP : va_P g.1 vwCl [(h0, .inr (4, [.int 0, .int 0, .int 0, .int 0, .int 0, .int 0, .ref q1, .ref q2, .ref q3, .ref q4, .ref q5, .ref q6, .ref q7, .ref q8, .ref q9, .null])), (q1, .inl (g.2.1.1, 8, .inl (fun _ => 0))), (q2, .inl (g.2.1.1, 10, .inl (fun _ => 0))), (q3, .inl (g.2.1.1, 9, .inl (fun _ => 0))), (q4, .inl (g.2.1.1, 9, .inl (fun _ => 0))), (q5, .inl (g.2.1.1, 9, .inl (fun _ => 0))), (q6, .inl (g.2.1.1, 9, .inl (fun _ => 0))), (q7, .inl (g.2.1.1, 9, .inl (fun _ => 0))), (q8, .inl (g.2.1.1, 9, .inl (fun _ => 0))), (q9, .inl (g.2.1.1, 9, .inl (fun _ => 0)))] H := hP
  have hD : va_D A [(h0, .inr (4, [.int 0, .int 0, .int 0, .int 0, .int 0, .int 0, .ref q1, .ref q2, .ref q3, .ref q4, .ref q5, .ref q6, .ref q7, .ref q8, .ref q9, .null])), (q1, .inl (g.2.1.1, 8, .inl (fun _ => 0))), (q2, .inl (g.2.1.1, 10, .inl (fun _ => 0))), (q3, .inl (g.2.1.1, 9, .inl (fun _ => 0))), (q4, .inl (g.2.1.1, 9, .inl (fun _ => 0))), (q5, .inl (g.2.1.1, 9, .inl (fun _ => 0))), (q6, .inl (g.2.1.1, 9, .inl (fun _ => 0))), (q7, .inl (g.2.1.1, 9, .inl (fun _ => 0))), (q8, .inl (g.2.1.1, 9, .inl (fun _ => 0))), (q9, .inl (g.2.1.1, 9, .inl (fun _ => 0)))] := hD
  refine lv_aload_n hx hb dX4_init_76 rfl (lv_at hl 0 rfl) ?_
  refine lv_bipush (v := 9) hx hb dX4_init_77 (by decide) ?_
  refine zna (atype := .int) (N' := 9) (a0 := (9, .inl (fun _ => 0))) hx hb (hG _ g306) (ty := .int) rfl 0 rfl (fun _ h9 => va_nm_int h9) hX hP hD hS hA (fun _ => rfl) (by decide) (by decide) (Nat.le_of_ble_eq_true rfl) (Nat.le_of_ble_eq_true rfl) (Nat.le_of_ble_eq_true rfl) dX4_init_79 (fun q10 H hP hD hS => ?_)
  refine W.cs (cells' := 10) (slots' := 90) rfl rfl ?_
  have hP : va_P g.1 vwCl [(h0, .inr (4, [.int 0, .int 0, .int 0, .int 0, .int 0, .int 0, .ref q1, .ref q2, .ref q3, .ref q4, .ref q5, .ref q6, .ref q7, .ref q8, .ref q9, .null])), (q1, .inl (g.2.1.1, 8, .inl (fun _ => 0))), (q2, .inl (g.2.1.1, 10, .inl (fun _ => 0))), (q3, .inl (g.2.1.1, 9, .inl (fun _ => 0))), (q4, .inl (g.2.1.1, 9, .inl (fun _ => 0))), (q5, .inl (g.2.1.1, 9, .inl (fun _ => 0))), (q6, .inl (g.2.1.1, 9, .inl (fun _ => 0))), (q7, .inl (g.2.1.1, 9, .inl (fun _ => 0))), (q8, .inl (g.2.1.1, 9, .inl (fun _ => 0))), (q9, .inl (g.2.1.1, 9, .inl (fun _ => 0))), (q10, .inl (g.2.1.1, 9, .inl (fun _ => 0)))] H := hP
  have hD : va_D A [(h0, .inr (4, [.int 0, .int 0, .int 0, .int 0, .int 0, .int 0, .ref q1, .ref q2, .ref q3, .ref q4, .ref q5, .ref q6, .ref q7, .ref q8, .ref q9, .null])), (q1, .inl (g.2.1.1, 8, .inl (fun _ => 0))), (q2, .inl (g.2.1.1, 10, .inl (fun _ => 0))), (q3, .inl (g.2.1.1, 9, .inl (fun _ => 0))), (q4, .inl (g.2.1.1, 9, .inl (fun _ => 0))), (q5, .inl (g.2.1.1, 9, .inl (fun _ => 0))), (q6, .inl (g.2.1.1, 9, .inl (fun _ => 0))), (q7, .inl (g.2.1.1, 9, .inl (fun _ => 0))), (q8, .inl (g.2.1.1, 9, .inl (fun _ => 0))), (q9, .inl (g.2.1.1, 9, .inl (fun _ => 0))), (q10, .inl (g.2.1.1, 9, .inl (fun _ => 0)))] := hD
  refine va_putF (D := g.1) (ci := 4) (v := .ref q10) (ty := (.array .int)) (C := RX4) (T := TX4) (N := 16) hx hb hG iX4 tyX4 tyX4_ok nmX4 hown hX.1 hP hD hS 0 rfl rfl 15 (by decide) (hG _ g471) (fun _ h9 => h9) rfl hnm rfl (by decide +kernel) rfl rfl (Nat.le_of_ble_eq_true rfl) dX4_init_81 (fun H locs hP hD hS => ?_)
  have hP : va_P g.1 vwCl [(h0, .inr (4, [.int 0, .int 0, .int 0, .int 0, .int 0, .int 0, .ref q1, .ref q2, .ref q3, .ref q4, .ref q5, .ref q6, .ref q7, .ref q8, .ref q9, .ref q10])), (q1, .inl (g.2.1.1, 8, .inl (fun _ => 0))), (q2, .inl (g.2.1.1, 10, .inl (fun _ => 0))), (q3, .inl (g.2.1.1, 9, .inl (fun _ => 0))), (q4, .inl (g.2.1.1, 9, .inl (fun _ => 0))), (q5, .inl (g.2.1.1, 9, .inl (fun _ => 0))), (q6, .inl (g.2.1.1, 9, .inl (fun _ => 0))), (q7, .inl (g.2.1.1, 9, .inl (fun _ => 0))), (q8, .inl (g.2.1.1, 9, .inl (fun _ => 0))), (q9, .inl (g.2.1.1, 9, .inl (fun _ => 0))), (q10, .inl (g.2.1.1, 9, .inl (fun _ => 0)))] H := hP
  have hD : va_D A [(h0, .inr (4, [.int 0, .int 0, .int 0, .int 0, .int 0, .int 0, .ref q1, .ref q2, .ref q3, .ref q4, .ref q5, .ref q6, .ref q7, .ref q8, .ref q9, .ref q10])), (q1, .inl (g.2.1.1, 8, .inl (fun _ => 0))), (q2, .inl (g.2.1.1, 10, .inl (fun _ => 0))), (q3, .inl (g.2.1.1, 9, .inl (fun _ => 0))), (q4, .inl (g.2.1.1, 9, .inl (fun _ => 0))), (q5, .inl (g.2.1.1, 9, .inl (fun _ => 0))), (q6, .inl (g.2.1.1, 9, .inl (fun _ => 0))), (q7, .inl (g.2.1.1, 9, .inl (fun _ => 0))), (q8, .inl (g.2.1.1, 9, .inl (fun _ => 0))), (q9, .inl (g.2.1.1, 9, .inl (fun _ => 0))), (q10, .inl (g.2.1.1, 9, .inl (fun _ => 0)))] := hD
  exact zrv (rm := { frames := 1, cells := 10, slots := 90, locals := 12 }) (fun k9 => [q1, q2, q3, q4, q5, q6, q7, q8, q9, q10].getD k9 0) hx hb hr hlocks (Nat.le_of_ble_eq_true rfl) (Nat.le_of_ble_eq_true rfl) (trivial) (hP.sub [0, 2, 7, 8] rfl) (hD.sub [0, 2, 7, 8] (by decide) rfl) hS dX4_init_84
theorem dX8_init_0 : decode cX8_init 0 = .ok (.aload_n 0, 1) := by decide +kernel
theorem dX8_init_1 : decode cX8_init 1 = .ok (.invokespecial 1, 3) := by decide +kernel
theorem dX8_init_4 : decode cX8_init 4 = .ok (.aload_n 0, 1) := by decide +kernel
theorem dX8_init_5 : decode cX8_init 5 = .ok (.new 7, 3) := by decide +kernel
theorem dX8_init_8 : decode cX8_init 8 = .ok (.dup, 1) := by decide +kernel
theorem dX8_init_9 : decode cX8_init 9 = .ok (.invokespecial 9, 3) := by decide +kernel
theorem dX8_init_12 : decode cX8_init 12 = .ok (.putfield 10, 3) := by decide +kernel
theorem dX8_init_15 : decode cX8_init 15 = .ok (.aload_n 0, 1) := by decide +kernel
theorem dX8_init_16 : decode cX8_init 16 = .ok (.new 16, 3) := by decide +kernel
theorem dX8_init_19 : decode cX8_init 19 = .ok (.dup, 1) := by decide +kernel
theorem dX8_init_20 : decode cX8_init 20 = .ok (.aload_n 0, 1) := by decide +kernel
theorem dX8_init_21 : decode cX8_init 21 = .ok (.getfield 10, 3) := by decide +kernel
theorem dX8_init_24 : decode cX8_init 24 = .ok (.invokespecial 18, 3) := by decide +kernel
theorem dX8_init_27 : decode cX8_init 27 = .ok (.putfield 21, 3) := by decide +kernel
theorem dX8_init_30 : decode cX8_init 30 = .ok (.aload_n 0, 1) := by decide +kernel
theorem dX8_init_31 : decode cX8_init 31 = .ok (.new 25, 3) := by decide +kernel
theorem dX8_init_34 : decode cX8_init 34 = .ok (.dup, 1) := by decide +kernel
theorem dX8_init_35 : decode cX8_init 35 = .ok (.invokespecial 27, 3) := by decide +kernel
theorem dX8_init_38 : decode cX8_init 38 = .ok (.putfield 28, 3) := by decide +kernel
theorem dX8_init_41 : decode cX8_init 41 = .ok (.aload_n 0, 1) := by decide +kernel
theorem dX8_init_42 : decode cX8_init 42 = .ok (.new 32, 3) := by decide +kernel
theorem dX8_init_45 : decode cX8_init 45 = .ok (.dup, 1) := by decide +kernel
theorem dX8_init_46 : decode cX8_init 46 = .ok (.invokespecial 34, 3) := by decide +kernel
theorem dX8_init_49 : decode cX8_init 49 = .ok (.putfield 35, 3) := by decide +kernel
theorem dX8_init_52 : decode cX8_init 52 = .ok (.aload_n 0, 1) := by decide +kernel
theorem dX8_init_53 : decode cX8_init 53 = .ok (.new 39, 3) := by decide +kernel
theorem dX8_init_56 : decode cX8_init 56 = .ok (.dup, 1) := by decide +kernel
theorem dX8_init_57 : decode cX8_init 57 = .ok (.invokespecial 41, 3) := by decide +kernel
theorem dX8_init_60 : decode cX8_init 60 = .ok (.putfield 42, 3) := by decide +kernel
theorem dX8_init_63 : decode cX8_init 63 = .ok (.aload_n 0, 1) := by decide +kernel
theorem dX8_init_64 : decode cX8_init 64 = .ok (.new 46, 3) := by decide +kernel
theorem dX8_init_67 : decode cX8_init 67 = .ok (.dup, 1) := by decide +kernel
theorem dX8_init_68 : decode cX8_init 68 = .ok (.invokespecial 48, 3) := by decide +kernel
theorem dX8_init_71 : decode cX8_init 71 = .ok (.putfield 49, 3) := by decide +kernel
theorem dX8_init_74 : decode cX8_init 74 = .ok (.aload_n 0, 1) := by decide +kernel
theorem dX8_init_75 : decode cX8_init 75 = .ok (.new 53, 3) := by decide +kernel
theorem dX8_init_78 : decode cX8_init 78 = .ok (.dup, 1) := by decide +kernel
theorem dX8_init_79 : decode cX8_init 79 = .ok (.invokespecial 55, 3) := by decide +kernel
theorem dX8_init_82 : decode cX8_init 82 = .ok (.putfield 56, 3) := by decide +kernel
theorem dX8_init_85 : decode cX8_init 85 = .ok (.aload_n 0, 1) := by decide +kernel
theorem dX8_init_86 : decode cX8_init 86 = .ok (.bipush 6, 2) := by decide +kernel
theorem dX8_init_88 : decode cX8_init 88 = .ok (.newarray .int, 2) := by decide +kernel
theorem dX8_init_90 : decode cX8_init 90 = .ok (.putfield 60, 3) := by decide +kernel
theorem dX8_init_93 : decode cX8_init 93 = .ok (.aload_n 0, 1) := by decide +kernel
theorem dX8_init_94 : decode cX8_init 94 = .ok (.new 64, 3) := by decide +kernel
theorem dX8_init_97 : decode cX8_init 97 = .ok (.dup, 1) := by decide +kernel
theorem dX8_init_98 : decode cX8_init 98 = .ok (.invokespecial 66, 3) := by decide +kernel
theorem dX8_init_101 : decode cX8_init 101 = .ok (.putfield 67, 3) := by decide +kernel
theorem dX8_init_104 : decode cX8_init 104 = .ok (.aload_n 0, 1) := by decide +kernel
theorem dX8_init_105 : decode cX8_init 105 = .ok (.new 64, 3) := by decide +kernel
theorem dX8_init_108 : decode cX8_init 108 = .ok (.dup, 1) := by decide +kernel
theorem dX8_init_109 : decode cX8_init 109 = .ok (.invokespecial 66, 3) := by decide +kernel
theorem dX8_init_112 : decode cX8_init 112 = .ok (.putfield 71, 3) := by decide +kernel
theorem dX8_init_115 : decode cX8_init 115 = .ok (.aload_n 0, 1) := by decide +kernel
theorem dX8_init_116 : decode cX8_init 116 = .ok (.iconst 1, 1) := by decide +kernel
theorem dX8_init_117 : decode cX8_init 117 = .ok (.putfield 74, 3) := by decide +kernel
theorem dX8_init_120 : decode cX8_init 120 = .ok (.return_, 1) := by decide +kernel
set_option maxHeartbeats 4000000 in
set_option maxRecDepth 100000 in
theorem kX8_init (l : Launch) (g : zL) (h0 : Nat) : zCv l g yX8_init cX8_init 1 none { frames := 2, cells := 50, slots := 7027, locals := 33 } [.ref h0] [(h0, .inr (8, [.null, .null, .null, .null, .null, .null, .null, .null, .null, .null, .int 0, .int 0, .int 0, .int 0]))] (fun (u : Nat → Nat) => True) (fun (u : Nat → Nat) => [(h0, .inr (8, [.ref (u 0), .ref (u 1), .ref (u 2), .ref (u 3), .ref (u 4), .ref (u 5), .ref (u 6), .ref (u 7), .ref (u 8), .ref (u 9), .int 0, .int 1, .int 0, .int 0])), ((u 0), .inr (7, [.ref (u 10), .int 0])), ((u 10), .inl (g.2.1.2.1, 1200, .inl (fun _ => 0))), ((u 1), .inr (6, [.ref (u 0), .null, .int 0, .int 0, .int 0, .int 0, .int (-1)])), ((u 6), .inr (1, [.ref (u 11), .ref (u 12), .int 0])), ((u 5), .inr (0, [.ref (u 13), .int 0, .int 0])), ((u 7), .inl (g.2.1.1, 6, .inl (fun _ => 0))), ((u 8), .inr (4, [.int 0, .int 0, .int 0, .int 0, .int 0, .int 0, .ref (u 14), .ref (u 15), .ref (u 16), .ref (u 17), .ref (u 18), .ref (u 19), .ref (u 20), .ref (u 21), .ref (u 22), .ref (u 23)])), ((u 9), .inr (4, [.int 0, .int 0, .int 0, .int 0, .int 0, .int 0, .ref (u 24), .ref (u 25), .ref (u 26), .ref (u 27), .ref (u 28), .ref (u 29), .ref (u 30), .ref (u 31), .ref (u 32), .ref (u 33)])), ((u 25), .inl (g.2.1.1, 10, .inl (fun _ => 0))), ((u 30), .inl (g.2.1.1, 9, .inl (fun _ => 0))), ((u 31), .inl (g.2.1.1, 9, .inl (fun _ => 0)))]) := by
  refine zCv.mk (by decide) (Nat.le_of_ble_eq_true rfl) ?_
  intro p e s m below meth c A hE hP hD hS ls hl
  obtain ⟨hx, hb, hr, hml, hown, hG, hlocks, hnm, hX, hA⟩ := hE
  have hown : s.vm.findClass RX8 = some m.cls := hown
  have hnm : meth.name = "<init>" := hnm
  have hl : lv_has ls 1 [(0, .ref h0)] := hl
  refine lv_aload_n hx hb dX8_init_0 rfl (lv_at hl 0 rfl) ?_
  refine W.objInit hx hb hown (hG _ g225) (hG _ g226) (hG _ g227) rfl (by rw [hml]; exact hl.1) rfl dX8_init_1 (Nat.le_of_ble_eq_true rfl) (Nat.le_of_ble_eq_true rfl) ?_
  refine W.eq (g2 := F0 m 4 ls []) rfl ?_
  refine lv_aload_n hx hb dX8_init_4 rfl (lv_at hl 0 rfl) ?_
  refine va_new (ci := 7) (fs := [.null, .int 0]) (C := RX7) (T := TX7) (N := 2) hx hb hG iX7 tyX7 tyX7_ok hown (hG _ g228) (hG _ g229) (hG _ g203) hX.1 hP hD hS hA rfl (fun j hj => by rcases (show j = 0 ∨ j = 1 by omega) with rfl | rfl <;> rfl) (Nat.le_of_ble_eq_true rfl) (Nat.le_of_ble_eq_true rfl) dX8_init_5 (fun q1 H hP hD hS => ?_)
  refine W.cs (cells' := 1) (slots' := 2) rfl rfl ?_
  have hP : va_P g.1 vwCl [(h0, .inr (8, [.null, .null, .null, .null, .null, .null, .null, .null, .null, .null, .int 0, .int 0, .int 0, .int 0])), (q1, .inr (7, [.null, .int 0]))] H := hP
  have hD : va_D A [(h0, .inr (8, [.null, .null, .null, .null, .null, .null, .null, .null, .null, .null, .int 0, .int 0, .int 0, .int 0])), (q1, .inr (7, [.null, .int 0]))] := hD
  refine lv_dup hx hb dX8_init_8 rfl ?_
  refine zfv (wr := [(h0, .inr (8, [.null, .null, .null, .null, .null, .null, .null, .null, .null, .null, .int 0, .int 0, .int 0, .int 0]))]) (va_runIN (As := []) (rest := [.ref q1, .ref h0]) ⟨hx, hb, hml, hown, hG⟩ (kX7_init l g q1 _) ⟨va_cnB 0 hG (zGood g232) rfl rfl rfl (hX.2.1.ml g230) (hG _ g203) hX7_init ⟨Nat.le_of_ble_eq_true rfl, Nat.le_of_ble_eq_true rfl⟩, rfl, hG _ g231⟩ (zpreS hX hP hD hS hA [1] rfl (by decide)) rfl rfl hl.1 rfl (lv_room (Nat.le_of_ble_eq_true rfl)) dX8_init_9 ⟨Nat.le_of_ble_eq_true rfl, Nat.le_of_ble_eq_true rfl⟩) hP hD hS hA [1] [0] rfl rfl (by decide) (by decide) (fun u3 H locs hp hP hD hS => ?_)
  refine W.cs (cells' := 2) (slots' := 1202) rfl rfl ?_
  have hP : va_P g.1 vwCl [(h0, .inr (8, [.null, .null, .null, .null, .null, .null, .null, .null, .null, .null, .int 0, .int 0, .int 0, .int 0])), (q1, .inr (7, [.ref u3, .int 0])), (u3, .inl (g.2.1.2.1, 1200, .inl (fun _ => 0)))] H := hP
  have hD : va_D A [(h0, .inr (8, [.null, .null, .null, .null, .null, .null, .null, .null, .null, .null, .int 0, .int 0, .int 0, .int 0])), (q1, .inr (7, [.ref u3, .int 0])), (u3, .inl (g.2.1.2.1, 1200, .inl (fun _ => 0)))] := hD
  refine va_putF (D := g.1) (ci := 8) (v := .ref q1) (ty := (.object "SheetFolds$Tape")) (C := RX8) (T := TX8) (N := 14) hx hb hG iX8 tyX8 tyX8_ok nmX8 hown hX.1 hP hD hS 0 rfl rfl 0 (by decide) (hG _ g507) (fun _ h9 => h9) rfl hnm rfl (by decide +kernel) rfl rfl (Nat.le_of_ble_eq_true rfl) dX8_init_12 (fun H locs hP hD hS => ?_)
  have hP : va_P g.1 vwCl [(h0, .inr (8, [.ref q1, .null, .null, .null, .null, .null, .null, .null, .null, .null, .int 0, .int 0, .int 0, .int 0])), (q1, .inr (7, [.ref u3, .int 0])), (u3, .inl (g.2.1.2.1, 1200, .inl (fun _ => 0)))] H := hP
  have hD : va_D A [(h0, .inr (8, [.ref q1, .null, .null, .null, .null, .null, .null, .null, .null, .null, .int 0, .int 0, .int 0, .int 0])), (q1, .inr (7, [.ref u3, .int 0])), (u3, .inl (g.2.1.2.1, 1200, .inl (fun _ => 0)))] := hD
  refine lv_aload_n hx hb dX8_init_15 rfl (lv_at hl 0 rfl) ?_
  refine va_new (ci := 6) (fs := [.null, .null, .int 0, .int 0, .int 0, .int 0, .int 0]) (C := RX6) (T := TX6) (N := 7) hx hb hG iX6 tyX6 tyX6_ok hown (hG _ g245) (hG _ g246) (hG _ g204) hX.1 hP hD hS hA rfl (fun j hj => by rcases (show j = 0 ∨ j = 1 ∨ j = 2 ∨ j = 3 ∨ j = 4 ∨ j = 5 ∨ j = 6 by omega) with rfl | rfl | rfl | rfl | rfl | rfl | rfl <;> rfl) (Nat.le_of_ble_eq_true rfl) (Nat.le_of_ble_eq_true rfl) dX8_init_16 (fun q4 H hP hD hS => ?_)
  refine W.cs (cells' := 3) (slots' := 1209) rfl rfl ?_
  have hP : va_P g.1 vwCl [(h0, .inr (8, [.ref q1, .null, .null, .null, .null, .null, .null, .null, .null, .null, .int 0, .int 0, .int 0, .int 0])), (q1, .inr (7, [.ref u3, .int 0])), (u3, .inl (g.2.1.2.1, 1200, .inl (fun _ => 0))), (q4, .inr (6, [.null, .null, .int 0, .int 0, .int 0, .int 0, .int 0]))] H := hP
  have hD : va_D A [(h0, .inr (8, [.ref q1, .null, .null, .null, .null, .null, .null, .null, .null, .null, .int 0, .int 0, .int 0, .int 0])), (q1, .inr (7, [.ref u3, .int 0])), (u3, .inl (g.2.1.2.1, 1200, .inl (fun _ => 0))), (q4, .inr (6, [.null, .null, .int 0, .int 0, .int 0, .int 0, .int 0]))] := hD
  refine lv_dup hx hb dX8_init_19 rfl ?_
  refine lv_aload_n hx hb dX8_init_20 rfl (lv_at hl 0 rfl) ?_
  refine va_get (D := g.1) (ci := 8) (v := .ref q1) (C := RX8) (T := TX8) (N := 14) hx hb hG iX8 hown hX.1 hP 0 rfl rfl 0 (by decide) (hG _ g507) (fun _ h9 => h9) rfl dX8_init_21 ?_
  refine zfv (wr := [(h0, .inr (8, [.ref q1, .null, .null, .null, .null, .null, .null, .null, .null, .null, .int 0, .int 0, .int 0, .int 0])), (q1, .inr (7, [.ref u3, .int 0])), (u3, .inl (g.2.1.2.1, 1200, .inl (fun _ => 0)))]) (va_runIN (As := [.ref q1]) (rest := [.ref q4, .ref h0]) ⟨hx, hb, hml, hown, hG⟩ (kX6_init l g q4 q1 _) ⟨va_cnB 1 hG (zGood g249) rfl rfl rfl (hX.2.1.ml g247) (hG _ g204) hX6_init ⟨Nat.le_of_ble_eq_true rfl, Nat.le_of_ble_eq_true rfl⟩, rfl, hG _ g248⟩ (zpreS hX hP hD hS hA [3] rfl (by decide)) rfl rfl hl.1 rfl (lv_room (Nat.le_of_ble_eq_true rfl)) dX8_init_24 ⟨Nat.le_of_ble_eq_true rfl, Nat.le_of_ble_eq_true rfl⟩) hP hD hS hA [3] [0, 1, 2] rfl rfl (by decide) (by decide) (fun _ H locs hp hP hD hS => ?_)
  refine W.cs (cells' := 3) (slots' := 1209) rfl rfl ?_
  have hP : va_P g.1 vwCl [(h0, .inr (8, [.ref q1, .null, .null, .null, .null, .null, .null, .null, .null, .null, .int 0, .int 0, .int 0, .int 0])), (q1, .inr (7, [.ref u3, .int 0])), (u3, .inl (g.2.1.2.1, 1200, .inl (fun _ => 0))), (q4, .inr (6, [.ref q1, .null, .int 0, .int 0, .int 0, .int 0, .int (-1)]))] H := hP
  have hD : va_D A [(h0, .inr (8, [.ref q1, .null, .null, .null, .null, .null, .null, .null, .null, .null, .int 0, .int 0, .int 0, .int 0])), (q1, .inr (7, [.ref u3, .int 0])), (u3, .inl (g.2.1.2.1, 1200, .inl (fun _ => 0))), (q4, .inr (6, [.ref q1, .null, .int 0, .int 0, .int 0, .int 0, .int (-1)]))] := hD
  refine va_putF (D := g.1) (ci := 8) (v := .ref q4) (ty := (.object "SheetFolds$Reader")) (C := RX8) (T := TX8) (N := 14) hx hb hG iX8 tyX8 tyX8_ok nmX8 hown hX.1 hP hD hS 0 rfl rfl 1 (by decide) (hG _ g508) (fun _ h9 => h9) rfl hnm rfl (by decide +kernel) rfl rfl (Nat.le_of_ble_eq_true rfl) dX8_init_27 (fun H locs hP hD hS => ?_)
  have hP : va_P g.1 vwCl [(h0, .inr (8, [.ref q1, .ref q4, .null, .null, .null, .null, .null, .null, .null, .null, .int 0, .int 0, .int 0, .int 0])), (q1, .inr (7, [.ref u3, .int 0])), (u3, .inl (g.2.1.2.1, 1200, .inl (fun _ => 0))), (q4, .inr (6, [.ref q1, .null, .int 0, .int 0, .int 0, .int 0, .int (-1)]))] H := hP
  have hD : va_D A [(h0, .inr (8, [.ref q1, .ref q4, .null, .null, .null, .null, .null, .null, .null, .null, .int 0, .int 0, .int 0, .int 0])), (q1, .inr (7, [.ref u3, .int 0])), (u3, .inl (g.2.1.2.1, 1200, .inl (fun _ => 0))), (q4, .inr (6, [.ref q1, .null, .int 0, .int 0, .int 0, .int 0, .int (-1)]))] := hD
  refine lv_aload_n hx hb dX8_init_30 rfl (lv_at hl 0 rfl) ?_
  refine va_new (ci := 5) (fs := [.null, .null, .null, .null, .null, .null, .null, .null]) (C := RX5) (T := TX5) (N := 8) hx hb hG iX5 tyX5 tyX5_ok hown (hG _ g275) (hG _ g276) (hG _ g205) hX.1 hP hD hS hA rfl (fun j hj => by rcases (show j = 0 ∨ j = 1 ∨ j = 2 ∨ j = 3 ∨ j = 4 ∨ j = 5 ∨ j = 6 ∨ j = 7 by omega) with rfl | rfl | rfl | rfl | rfl | rfl | rfl | rfl <;> rfl) (Nat.le_of_ble_eq_true rfl) (Nat.le_of_ble_eq_true rfl) dX8_init_31 (fun q6 H hP hD hS => ?_)
  refine W.cs (cells' := 4) (slots' := 1217) rfl rfl ?_
  have hP : va_P g.1 vwCl [(h0, .inr (8, [.ref q1, .ref q4, .null, .null, .null, .null, .null, .null, .null, .null, .int 0, .int 0, .int 0, .int 0])), (q1, .inr (7, [.ref u3, .int 0])), (u3, .inl (g.2.1.2.1, 1200, .inl (fun _ => 0))), (q4, .inr (6, [.ref q1, .null, .int 0, .int 0, .int 0, .int 0, .int (-1)])), (q6, .inr (5, [.null, .null, .null, .null, .null, .null, .null, .null]))] H := hP
  have hD : va_D A [(h0, .inr (8, [.ref q1, .ref q4, .null, .null, .null, .null, .null, .null, .null, .null, .int 0, .int 0, .int 0, .int 0])), (q1, .inr (7, [.ref u3, .int 0])), (u3, .inl (g.2.1.2.1, 1200, .inl (fun _ => 0))), (q4, .inr (6, [.ref q1, .null, .int 0, .int 0, .int 0, .int 0, .int (-1)])), (q6, .inr (5, [.null, .null, .null, .null, .null, .null, .null, .null]))] := hD
  refine lv_dup hx hb dX8_init_34 rfl ?_
  refine zfv (wr := [(h0, .inr (8, [.ref q1, .ref q4, .null, .null, .null, .null, .null, .null, .null, .null, .int 0, .int 0, .int 0, .int 0])), (q1, .inr (7, [.ref u3, .int 0])), (u3, .inl (g.2.1.2.1, 1200, .inl (fun _ => 0))), (q4, .inr (6, [.ref q1, .null, .int 0, .int 0, .int 0, .int 0, .int (-1)]))]) (va_runIN (As := []) (rest := [.ref q6, .ref h0]) ⟨hx, hb, hml, hown, hG⟩ (kX5_init l g q6 _) ⟨va_cnB 0 hG (zGood g279) rfl rfl rfl (hX.2.1.ml g277) (hG _ g205) hX5_init ⟨Nat.le_of_ble_eq_true rfl, Nat.le_of_ble_eq_true rfl⟩, rfl, hG _ g278⟩ (zpreS hX hP hD hS hA [4] rfl (by decide)) rfl rfl hl.1 rfl (lv_room (Nat.le_of_ble_eq_true rfl)) dX8_init_35 ⟨Nat.le_of_ble_eq_true rfl, Nat.le_of_ble_eq_true rfl⟩) hP hD hS hA [4] [0, 1, 2, 3] rfl rfl (by decide) (by decide) (fun z16 H locs hp hP hD hS => ?_)
  refine W.cs (cells' := 12) (slots' := 1394) rfl rfl ?_
  have hP : va_P g.1 vwCl [(h0, .inr (8, [.ref q1, .ref q4, .null, .null, .null, .null, .null, .null, .null, .null, .int 0, .int 0, .int 0, .int 0])), (q1, .inr (7, [.ref u3, .int 0])), (u3, .inl (g.2.1.2.1, 1200, .inl (fun _ => 0))), (q4, .inr (6, [.ref q1, .null, .int 0, .int 0, .int 0, .int 0, .int (-1)])), (q6, .inr (5, [.ref (z16 0), .ref (z16 1), .ref (z16 2), .ref (z16 3), .ref (z16 4), .ref (z16 5), .ref (z16 6), .ref (z16 7)]))] H := hP
  have hD : va_D A [(h0, .inr (8, [.ref q1, .ref q4, .null, .null, .null, .null, .null, .null, .null, .null, .int 0, .int 0, .int 0, .int 0])), (q1, .inr (7, [.ref u3, .int 0])), (u3, .inl (g.2.1.2.1, 1200, .inl (fun _ => 0))), (q4, .inr (6, [.ref q1, .null, .int 0, .int 0, .int 0, .int 0, .int (-1)])), (q6, .inr (5, [.ref (z16 0), .ref (z16 1), .ref (z16 2), .ref (z16 3), .ref (z16 4), .ref (z16 5), .ref (z16 6), .ref (z16 7)]))] := hD
  refine va_putF (D := g.1) (ci := 8) (v := .ref q6) (ty := (.object "SheetFolds$Pose")) (C := RX8) (T := TX8) (N := 14) hx hb hG iX8 tyX8 tyX8_ok nmX8 hown hX.1 hP hD hS 0 rfl rfl 2 (by decide) (hG _ g509) (fun _ h9 => h9) rfl hnm rfl (by decide +kernel) rfl rfl (Nat.le_of_ble_eq_true rfl) dX8_init_38 (fun H locs hP hD hS => ?_)
  have hP : va_P g.1 vwCl [(h0, .inr (8, [.ref q1, .ref q4, .ref q6, .null, .null, .null, .null, .null, .null, .null, .int 0, .int 0, .int 0, .int 0])), (q1, .inr (7, [.ref u3, .int 0])), (u3, .inl (g.2.1.2.1, 1200, .inl (fun _ => 0))), (q4, .inr (6, [.ref q1, .null, .int 0, .int 0, .int 0, .int 0, .int (-1)])), (q6, .inr (5, [.ref (z16 0), .ref (z16 1), .ref (z16 2), .ref (z16 3), .ref (z16 4), .ref (z16 5), .ref (z16 6), .ref (z16 7)]))] H := hP
  have hD : va_D A [(h0, .inr (8, [.ref q1, .ref q4, .ref q6, .null, .null, .null, .null, .null, .null, .null, .int 0, .int 0, .int 0, .int 0])), (q1, .inr (7, [.ref u3, .int 0])), (u3, .inl (g.2.1.2.1, 1200, .inl (fun _ => 0))), (q4, .inr (6, [.ref q1, .null, .int 0, .int 0, .int 0, .int 0, .int (-1)])), (q6, .inr (5, [.ref (z16 0), .ref (z16 1), .ref (z16 2), .ref (z16 3), .ref (z16 4), .ref (z16 5), .ref (z16 6), .ref (z16 7)]))] := hD
  refine lv_aload_n hx hb dX8_init_41 rfl (lv_at hl 0 rfl) ?_
  refine va_new (ci := 3) (fs := [.null, .null, .null, .null, .null, .null, .null, .null, .int 0, .int 0, .int 0, .int 0, .int 0]) (C := RX3) (T := TX3) (N := 13) hx hb hG iX3 tyX3 tyX3_ok hown (hG _ g307) (hG _ g308) (hG _ g206) hX.1 hP hD hS hA rfl (fun j hj => by rcases (show j = 0 ∨ j = 1 ∨ j = 2 ∨ j = 3 ∨ j = 4 ∨ j = 5 ∨ j = 6 ∨ j = 7 ∨ j = 8 ∨ j = 9 ∨ j = 10 ∨ j = 11 ∨ j = 12 by omega) with rfl | rfl | rfl | rfl | rfl | rfl | rfl | rfl | rfl | rfl | rfl | rfl | rfl <;> rfl) (Nat.le_of_ble_eq_true rfl) (Nat.le_of_ble_eq_true rfl) dX8_init_42 (fun q17 H hP hD hS => ?_)
  refine W.cs (cells' := 13) (slots' := 1407) rfl rfl ?_
  have hP : va_P g.1 vwCl [(h0, .inr (8, [.ref q1, .ref q4, .ref q6, .null, .null, .null, .null, .null, .null, .null, .int 0, .int 0, .int 0, .int 0])), (q1, .inr (7, [.ref u3, .int 0])), (u3, .inl (g.2.1.2.1, 1200, .inl (fun _ => 0))), (q4, .inr (6, [.ref q1, .null, .int 0, .int 0, .int 0, .int 0, .int (-1)])), (q6, .inr (5, [.ref (z16 0), .ref (z16 1), .ref (z16 2), .ref (z16 3), .ref (z16 4), .ref (z16 5), .ref (z16 6), .ref (z16 7)])), (q17, .inr (3, [.null, .null, .null, .null, .null, .null, .null, .null, .int 0, .int 0, .int 0, .int 0, .int 0]))] H := hP
  have hD : va_D A [(h0, .inr (8, [.ref q1, .ref q4, .ref q6, .null, .null, .null, .null, .null, .null, .null, .int 0, .int 0, .int 0, .int 0])), (q1, .inr (7, [.ref u3, .int 0])), (u3, .inl (g.2.1.2.1, 1200, .inl (fun _ => 0))), (q4, .inr (6, [.ref q1, .null, .int 0, .int 0, .int 0, .int 0, .int (-1)])), (q6, .inr (5, [.ref (z16 0), .ref (z16 1), .ref (z16 2), .ref (z16 3), .ref (z16 4), .ref (z16 5), .ref (z16 6), .ref (z16 7)])), (q17, .inr (3, [.null, .null, .null, .null, .null, .null, .null, .null, .int 0, .int 0, .int 0, .int 0, .int 0]))] := hD
  refine lv_dup hx hb dX8_init_45 rfl ?_
  refine zfv (wr := [(h0, .inr (8, [.ref q1, .ref q4, .ref q6, .null, .null, .null, .null, .null, .null, .null, .int 0, .int 0, .int 0, .int 0])), (q1, .inr (7, [.ref u3, .int 0])), (u3, .inl (g.2.1.2.1, 1200, .inl (fun _ => 0))), (q4, .inr (6, [.ref q1, .null, .int 0, .int 0, .int 0, .int 0, .int (-1)])), (q6, .inr (5, [.ref (z16 0), .ref (z16 1), .ref (z16 2), .ref (z16 3), .ref (z16 4), .ref (z16 5), .ref (z16 6), .ref (z16 7)]))]) (va_runIN (As := []) (rest := [.ref q17, .ref h0]) ⟨hx, hb, hml, hown, hG⟩ (kX3_init l g q17 _) ⟨va_cnB 0 hG (zGood g311) rfl rfl rfl (hX.2.1.ml g309) (hG _ g206) hX3_init ⟨Nat.le_of_ble_eq_true rfl, Nat.le_of_ble_eq_true rfl⟩, rfl, hG _ g310⟩ (zpreS hX hP hD hS hA [5] rfl (by decide)) rfl rfl hl.1 rfl (lv_room (Nat.le_of_ble_eq_true rfl)) dX8_init_46 ⟨Nat.le_of_ble_eq_true rfl, Nat.le_of_ble_eq_true rfl⟩) hP hD hS hA [5] [0, 1, 2, 3, 4] rfl rfl (by decide) (by decide) (fun z27 H locs hp hP hD hS => ?_)
  refine W.cs (cells' := 21) (slots' := 6544) rfl rfl ?_
  have hP : va_P g.1 vwCl [(h0, .inr (8, [.ref q1, .ref q4, .ref q6, .null, .null, .null, .null, .null, .null, .null, .int 0, .int 0, .int 0, .int 0])), (q1, .inr (7, [.ref u3, .int 0])), (u3, .inl (g.2.1.2.1, 1200, .inl (fun _ => 0))), (q4, .inr (6, [.ref q1, .null, .int 0, .int 0, .int 0, .int 0, .int (-1)])), (q6, .inr (5, [.ref (z16 0), .ref (z16 1), .ref (z16 2), .ref (z16 3), .ref (z16 4), .ref (z16 5), .ref (z16 6), .ref (z16 7)])), (q17, .inr (3, [.ref (z27 0), .ref (z27 1), .ref (z27 2), .ref (z27 3), .ref (z27 4), .ref (z27 5), .ref (z27 6), .ref (z27 7), .int 0, .int 0, .int 0, .int 0, .int 0]))] H := hP
  have hD : va_D A [(h0, .inr (8, [.ref q1, .ref q4, .ref q6, .null, .null, .null, .null, .null, .null, .null, .int 0, .int 0, .int 0, .int 0])), (q1, .inr (7, [.ref u3, .int 0])), (u3, .inl (g.2.1.2.1, 1200, .inl (fun _ => 0))), (q4, .inr (6, [.ref q1, .null, .int 0, .int 0, .int 0, .int 0, .int (-1)])), (q6, .inr (5, [.ref (z16 0), .ref (z16 1), .ref (z16 2), .ref (z16 3), .ref (z16 4), .ref (z16 5), .ref (z16 6), .ref (z16 7)])), (q17, .inr (3, [.ref (z27 0), .ref (z27 1), .ref (z27 2), .ref (z27 3), .ref (z27 4), .ref (z27 5), .ref (z27 6), .ref (z27 7), .int 0, .int 0, .int 0, .int 0, .int 0]))] := hD
  refine va_putF (D := g.1) (ci := 8) (v := .ref q17) (ty := (.object "SheetFolds$Orders")) (C := RX8) (T := TX8) (N := 14) hx hb hG iX8 tyX8 tyX8_ok nmX8 hown hX.1 hP hD hS 0 rfl rfl 3 (by decide) (hG _ g510) (fun _ h9 => h9) rfl hnm rfl (by decide +kernel) rfl rfl (Nat.le_of_ble_eq_true rfl) dX8_init_49 (fun H locs hP hD hS => ?_)
  have hP : va_P g.1 vwCl [(h0, .inr (8, [.ref q1, .ref q4, .ref q6, .ref q17, .null, .null, .null, .null, .null, .null, .int 0, .int 0, .int 0, .int 0])), (q1, .inr (7, [.ref u3, .int 0])), (u3, .inl (g.2.1.2.1, 1200, .inl (fun _ => 0))), (q4, .inr (6, [.ref q1, .null, .int 0, .int 0, .int 0, .int 0, .int (-1)])), (q6, .inr (5, [.ref (z16 0), .ref (z16 1), .ref (z16 2), .ref (z16 3), .ref (z16 4), .ref (z16 5), .ref (z16 6), .ref (z16 7)])), (q17, .inr (3, [.ref (z27 0), .ref (z27 1), .ref (z27 2), .ref (z27 3), .ref (z27 4), .ref (z27 5), .ref (z27 6), .ref (z27 7), .int 0, .int 0, .int 0, .int 0, .int 0]))] H := hP
  have hD : va_D A [(h0, .inr (8, [.ref q1, .ref q4, .ref q6, .ref q17, .null, .null, .null, .null, .null, .null, .int 0, .int 0, .int 0, .int 0])), (q1, .inr (7, [.ref u3, .int 0])), (u3, .inl (g.2.1.2.1, 1200, .inl (fun _ => 0))), (q4, .inr (6, [.ref q1, .null, .int 0, .int 0, .int 0, .int 0, .int (-1)])), (q6, .inr (5, [.ref (z16 0), .ref (z16 1), .ref (z16 2), .ref (z16 3), .ref (z16 4), .ref (z16 5), .ref (z16 6), .ref (z16 7)])), (q17, .inr (3, [.ref (z27 0), .ref (z27 1), .ref (z27 2), .ref (z27 3), .ref (z27 4), .ref (z27 5), .ref (z27 6), .ref (z27 7), .int 0, .int 0, .int 0, .int 0, .int 0]))] := hD
  refine lv_aload_n hx hb dX8_init_52 rfl (lv_at hl 0 rfl) ?_
  refine va_new (ci := 2) (fs := [.null, .int 0, .int 0]) (C := RX2) (T := TX2) (N := 3) hx hb hG iX2 tyX2 tyX2_ok hown (hG _ g353) (hG _ g354) (hG _ g207) hX.1 hP hD hS hA rfl (fun j hj => by rcases (show j = 0 ∨ j = 1 ∨ j = 2 by omega) with rfl | rfl | rfl <;> rfl) (Nat.le_of_ble_eq_true rfl) (Nat.le_of_ble_eq_true rfl) dX8_init_53 (fun q28 H hP hD hS => ?_)
  refine W.cs (cells' := 22) (slots' := 6547) rfl rfl ?_
  have hP : va_P g.1 vwCl [(h0, .inr (8, [.ref q1, .ref q4, .ref q6, .ref q17, .null, .null, .null, .null, .null, .null, .int 0, .int 0, .int 0, .int 0])), (q1, .inr (7, [.ref u3, .int 0])), (u3, .inl (g.2.1.2.1, 1200, .inl (fun _ => 0))), (q4, .inr (6, [.ref q1, .null, .int 0, .int 0, .int 0, .int 0, .int (-1)])), (q6, .inr (5, [.ref (z16 0), .ref (z16 1), .ref (z16 2), .ref (z16 3), .ref (z16 4), .ref (z16 5), .ref (z16 6), .ref (z16 7)])), (q17, .inr (3, [.ref (z27 0), .ref (z27 1), .ref (z27 2), .ref (z27 3), .ref (z27 4), .ref (z27 5), .ref (z27 6), .ref (z27 7), .int 0, .int 0, .int 0, .int 0, .int 0])), (q28, .inr (2, [.null, .int 0, .int 0]))] H := hP
  have hD : va_D A [(h0, .inr (8, [.ref q1, .ref q4, .ref q6, .ref q17, .null, .null, .null, .null, .null, .null, .int 0, .int 0, .int 0, .int 0])), (q1, .inr (7, [.ref u3, .int 0])), (u3, .inl (g.2.1.2.1, 1200, .inl (fun _ => 0))), (q4, .inr (6, [.ref q1, .null, .int 0, .int 0, .int 0, .int 0, .int (-1)])), (q6, .inr (5, [.ref (z16 0), .ref (z16 1), .ref (z16 2), .ref (z16 3), .ref (z16 4), .ref (z16 5), .ref (z16 6), .ref (z16 7)])), (q17, .inr (3, [.ref (z27 0), .ref (z27 1), .ref (z27 2), .ref (z27 3), .ref (z27 4), .ref (z27 5), .ref (z27 6), .ref (z27 7), .int 0, .int 0, .int 0, .int 0, .int 0])), (q28, .inr (2, [.null, .int 0, .int 0]))] := hD
  refine lv_dup hx hb dX8_init_56 rfl ?_
  refine zfv (wr := [(h0, .inr (8, [.ref q1, .ref q4, .ref q6, .ref q17, .null, .null, .null, .null, .null, .null, .int 0, .int 0, .int 0, .int 0])), (q1, .inr (7, [.ref u3, .int 0])), (u3, .inl (g.2.1.2.1, 1200, .inl (fun _ => 0))), (q4, .inr (6, [.ref q1, .null, .int 0, .int 0, .int 0, .int 0, .int (-1)])), (q6, .inr (5, [.ref (z16 0), .ref (z16 1), .ref (z16 2), .ref (z16 3), .ref (z16 4), .ref (z16 5), .ref (z16 6), .ref (z16 7)])), (q17, .inr (3, [.ref (z27 0), .ref (z27 1), .ref (z27 2), .ref (z27 3), .ref (z27 4), .ref (z27 5), .ref (z27 6), .ref (z27 7), .int 0, .int 0, .int 0, .int 0, .int 0]))]) (va_runIN (As := []) (rest := [.ref q28, .ref h0]) ⟨hx, hb, hml, hown, hG⟩ (kX2_init l g q28 _) ⟨va_cnB 0 hG (zGood g357) rfl rfl rfl (hX.2.1.ml g355) (hG _ g207) hX2_init ⟨Nat.le_of_ble_eq_true rfl, Nat.le_of_ble_eq_true rfl⟩, rfl, hG _ g356⟩ (zpreS hX hP hD hS hA [6] rfl (by decide)) rfl rfl hl.1 rfl (lv_room (Nat.le_of_ble_eq_true rfl)) dX8_init_57 ⟨Nat.le_of_ble_eq_true rfl, Nat.le_of_ble_eq_true rfl⟩) hP hD hS hA [6] [0, 1, 2, 3, 4, 5] rfl rfl (by decide) (by decide) (fun _ H locs hp hP hD hS => ?_)
  refine W.cs (cells' := 22) (slots' := 6547) rfl rfl ?_
  have hP : va_P g.1 vwCl [(h0, .inr (8, [.ref q1, .ref q4, .ref q6, .ref q17, .null, .null, .null, .null, .null, .null, .int 0, .int 0, .int 0, .int 0])), (q1, .inr (7, [.ref u3, .int 0])), (u3, .inl (g.2.1.2.1, 1200, .inl (fun _ => 0))), (q4, .inr (6, [.ref q1, .null, .int 0, .int 0, .int 0, .int 0, .int (-1)])), (q6, .inr (5, [.ref (z16 0), .ref (z16 1), .ref (z16 2), .ref (z16 3), .ref (z16 4), .ref (z16 5), .ref (z16 6), .ref (z16 7)])), (q17, .inr (3, [.ref (z27 0), .ref (z27 1), .ref (z27 2), .ref (z27 3), .ref (z27 4), .ref (z27 5), .ref (z27 6), .ref (z27 7), .int 0, .int 0, .int 0, .int 0, .int 0])), (q28, .inr (2, [.null, .int 0, .int 0]))] H := hP
  have hD : va_D A [(h0, .inr (8, [.ref q1, .ref q4, .ref q6, .ref q17, .null, .null, .null, .null, .null, .null, .int 0, .int 0, .int 0, .int 0])), (q1, .inr (7, [.ref u3, .int 0])), (u3, .inl (g.2.1.2.1, 1200, .inl (fun _ => 0))), (q4, .inr (6, [.ref q1, .null, .int 0, .int 0, .int 0, .int 0, .int (-1)])), (q6, .inr (5, [.ref (z16 0), .ref (z16 1), .ref (z16 2), .ref (z16 3), .ref (z16 4), .ref (z16 5), .ref (z16 6), .ref (z16 7)])), (q17, .inr (3, [.ref (z27 0), .ref (z27 1), .ref (z27 2), .ref (z27 3), .ref (z27 4), .ref (z27 5), .ref (z27 6), .ref (z27 7), .int 0, .int 0, .int 0, .int 0, .int 0])), (q28, .inr (2, [.null, .int 0, .int 0]))] := hD
  refine va_putF (D := g.1) (ci := 8) (v := .ref q28) (ty := (.object "SheetFolds$Mender")) (C := RX8) (T := TX8) (N := 14) hx hb hG iX8 tyX8 tyX8_ok nmX8 hown hX.1 hP hD hS 0 rfl rfl 4 (by decide) (hG _ g511) (fun _ h9 => h9) rfl hnm rfl (by decide +kernel) rfl rfl (Nat.le_of_ble_eq_true rfl) dX8_init_60 (fun H locs hP hD hS => ?_)
  have hP : va_P g.1 vwCl [(h0, .inr (8, [.ref q1, .ref q4, .ref q6, .ref q17, .ref q28, .null, .null, .null, .null, .null, .int 0, .int 0, .int 0, .int 0])), (q1, .inr (7, [.ref u3, .int 0])), (u3, .inl (g.2.1.2.1, 1200, .inl (fun _ => 0))), (q4, .inr (6, [.ref q1, .null, .int 0, .int 0, .int 0, .int 0, .int (-1)])), (q6, .inr (5, [.ref (z16 0), .ref (z16 1), .ref (z16 2), .ref (z16 3), .ref (z16 4), .ref (z16 5), .ref (z16 6), .ref (z16 7)])), (q17, .inr (3, [.ref (z27 0), .ref (z27 1), .ref (z27 2), .ref (z27 3), .ref (z27 4), .ref (z27 5), .ref (z27 6), .ref (z27 7), .int 0, .int 0, .int 0, .int 0, .int 0])), (q28, .inr (2, [.null, .int 0, .int 0]))] H := hP
  have hD : va_D A [(h0, .inr (8, [.ref q1, .ref q4, .ref q6, .ref q17, .ref q28, .null, .null, .null, .null, .null, .int 0, .int 0, .int 0, .int 0])), (q1, .inr (7, [.ref u3, .int 0])), (u3, .inl (g.2.1.2.1, 1200, .inl (fun _ => 0))), (q4, .inr (6, [.ref q1, .null, .int 0, .int 0, .int 0, .int 0, .int (-1)])), (q6, .inr (5, [.ref (z16 0), .ref (z16 1), .ref (z16 2), .ref (z16 3), .ref (z16 4), .ref (z16 5), .ref (z16 6), .ref (z16 7)])), (q17, .inr (3, [.ref (z27 0), .ref (z27 1), .ref (z27 2), .ref (z27 3), .ref (z27 4), .ref (z27 5), .ref (z27 6), .ref (z27 7), .int 0, .int 0, .int 0, .int 0, .int 0])), (q28, .inr (2, [.null, .int 0, .int 0]))] := hD
  refine lv_aload_n hx hb dX8_init_63 rfl (lv_at hl 0 rfl) ?_
  refine va_new (ci := 0) (fs := [.null, .int 0, .int 0]) (C := RX0) (T := TX0) (N := 3) hx hb hG iX0 tyX0 tyX0_ok hown (hG _ g369) (hG _ g370) (hG _ g208) hX.1 hP hD hS hA rfl (fun j hj => by rcases (show j = 0 ∨ j = 1 ∨ j = 2 by omega) with rfl | rfl | rfl <;> rfl) (Nat.le_of_ble_eq_true rfl) (Nat.le_of_ble_eq_true rfl) dX8_init_64 (fun q30 H hP hD hS => ?_)
  refine W.cs (cells' := 23) (slots' := 6550) rfl rfl ?_
  have hP : va_P g.1 vwCl [(h0, .inr (8, [.ref q1, .ref q4, .ref q6, .ref q17, .ref q28, .null, .null, .null, .null, .null, .int 0, .int 0, .int 0, .int 0])), (q1, .inr (7, [.ref u3, .int 0])), (u3, .inl (g.2.1.2.1, 1200, .inl (fun _ => 0))), (q4, .inr (6, [.ref q1, .null, .int 0, .int 0, .int 0, .int 0, .int (-1)])), (q6, .inr (5, [.ref (z16 0), .ref (z16 1), .ref (z16 2), .ref (z16 3), .ref (z16 4), .ref (z16 5), .ref (z16 6), .ref (z16 7)])), (q17, .inr (3, [.ref (z27 0), .ref (z27 1), .ref (z27 2), .ref (z27 3), .ref (z27 4), .ref (z27 5), .ref (z27 6), .ref (z27 7), .int 0, .int 0, .int 0, .int 0, .int 0])), (q28, .inr (2, [.null, .int 0, .int 0])), (q30, .inr (0, [.null, .int 0, .int 0]))] H := hP
  have hD : va_D A [(h0, .inr (8, [.ref q1, .ref q4, .ref q6, .ref q17, .ref q28, .null, .null, .null, .null, .null, .int 0, .int 0, .int 0, .int 0])), (q1, .inr (7, [.ref u3, .int 0])), (u3, .inl (g.2.1.2.1, 1200, .inl (fun _ => 0))), (q4, .inr (6, [.ref q1, .null, .int 0, .int 0, .int 0, .int 0, .int (-1)])), (q6, .inr (5, [.ref (z16 0), .ref (z16 1), .ref (z16 2), .ref (z16 3), .ref (z16 4), .ref (z16 5), .ref (z16 6), .ref (z16 7)])), (q17, .inr (3, [.ref (z27 0), .ref (z27 1), .ref (z27 2), .ref (z27 3), .ref (z27 4), .ref (z27 5), .ref (z27 6), .ref (z27 7), .int 0, .int 0, .int 0, .int 0, .int 0])), (q28, .inr (2, [.null, .int 0, .int 0])), (q30, .inr (0, [.null, .int 0, .int 0]))] := hD
  refine lv_dup hx hb dX8_init_67 rfl ?_
  refine zfv (wr := [(h0, .inr (8, [.ref q1, .ref q4, .ref q6, .ref q17, .ref q28, .null, .null, .null, .null, .null, .int 0, .int 0, .int 0, .int 0])), (q1, .inr (7, [.ref u3, .int 0])), (u3, .inl (g.2.1.2.1, 1200, .inl (fun _ => 0))), (q4, .inr (6, [.ref q1, .null, .int 0, .int 0, .int 0, .int 0, .int (-1)])), (q6, .inr (5, [.ref (z16 0), .ref (z16 1), .ref (z16 2), .ref (z16 3), .ref (z16 4), .ref (z16 5), .ref (z16 6), .ref (z16 7)])), (q17, .inr (3, [.ref (z27 0), .ref (z27 1), .ref (z27 2), .ref (z27 3), .ref (z27 4), .ref (z27 5), .ref (z27 6), .ref (z27 7), .int 0, .int 0, .int 0, .int 0, .int 0])), (q28, .inr (2, [.null, .int 0, .int 0]))]) (va_runIN (As := []) (rest := [.ref q30, .ref h0]) ⟨hx, hb, hml, hown, hG⟩ (kX0_init l g q30 _) ⟨va_cnB 0 hG (zGood g373) rfl rfl rfl (hX.2.1.ml g371) (hG _ g208) hX0_init ⟨Nat.le_of_ble_eq_true rfl, Nat.le_of_ble_eq_true rfl⟩, rfl, hG _ g372⟩ (zpreS hX hP hD hS hA [7] rfl (by decide)) rfl rfl hl.1 rfl (lv_room (Nat.le_of_ble_eq_true rfl)) dX8_init_68 ⟨Nat.le_of_ble_eq_true rfl, Nat.le_of_ble_eq_true rfl⟩) hP hD hS hA [7] [0, 1, 2, 3, 4, 5, 6] rfl rfl (by decide) (by decide) (fun u32 H locs hp hP hD hS => ?_)
  refine W.cs (cells' := 24) (slots' := 6790) rfl rfl ?_
  have hP : va_P g.1 vwCl [(h0, .inr (8, [.ref q1, .ref q4, .ref q6, .ref q17, .ref q28, .null, .null, .null, .null, .null, .int 0, .int 0, .int 0, .int 0])), (q1, .inr (7, [.ref u3, .int 0])), (u3, .inl (g.2.1.2.1, 1200, .inl (fun _ => 0))), (q4, .inr (6, [.ref q1, .null, .int 0, .int 0, .int 0, .int 0, .int (-1)])), (q6, .inr (5, [.ref (z16 0), .ref (z16 1), .ref (z16 2), .ref (z16 3), .ref (z16 4), .ref (z16 5), .ref (z16 6), .ref (z16 7)])), (q17, .inr (3, [.ref (z27 0), .ref (z27 1), .ref (z27 2), .ref (z27 3), .ref (z27 4), .ref (z27 5), .ref (z27 6), .ref (z27 7), .int 0, .int 0, .int 0, .int 0, .int 0])), (q28, .inr (2, [.null, .int 0, .int 0])), (q30, .inr (0, [.ref u32, .int 0, .int 0])), (u32, .inl (g.2.1.1, 240, .inl (fun _ => 0)))] H := hP
  have hD : va_D A [(h0, .inr (8, [.ref q1, .ref q4, .ref q6, .ref q17, .ref q28, .null, .null, .null, .null, .null, .int 0, .int 0, .int 0, .int 0])), (q1, .inr (7, [.ref u3, .int 0])), (u3, .inl (g.2.1.2.1, 1200, .inl (fun _ => 0))), (q4, .inr (6, [.ref q1, .null, .int 0, .int 0, .int 0, .int 0, .int (-1)])), (q6, .inr (5, [.ref (z16 0), .ref (z16 1), .ref (z16 2), .ref (z16 3), .ref (z16 4), .ref (z16 5), .ref (z16 6), .ref (z16 7)])), (q17, .inr (3, [.ref (z27 0), .ref (z27 1), .ref (z27 2), .ref (z27 3), .ref (z27 4), .ref (z27 5), .ref (z27 6), .ref (z27 7), .int 0, .int 0, .int 0, .int 0, .int 0])), (q28, .inr (2, [.null, .int 0, .int 0])), (q30, .inr (0, [.ref u32, .int 0, .int 0])), (u32, .inl (g.2.1.1, 240, .inl (fun _ => 0)))] := hD
  refine va_putF (D := g.1) (ci := 8) (v := .ref q30) (ty := (.object "SheetFolds$History")) (C := RX8) (T := TX8) (N := 14) hx hb hG iX8 tyX8 tyX8_ok nmX8 hown hX.1 hP hD hS 0 rfl rfl 5 (by decide) (hG _ g512) (fun _ h9 => h9) rfl hnm rfl (by decide +kernel) rfl rfl (Nat.le_of_ble_eq_true rfl) dX8_init_71 (fun H locs hP hD hS => ?_)
  have hP : va_P g.1 vwCl [(h0, .inr (8, [.ref q1, .ref q4, .ref q6, .ref q17, .ref q28, .ref q30, .null, .null, .null, .null, .int 0, .int 0, .int 0, .int 0])), (q1, .inr (7, [.ref u3, .int 0])), (u3, .inl (g.2.1.2.1, 1200, .inl (fun _ => 0))), (q4, .inr (6, [.ref q1, .null, .int 0, .int 0, .int 0, .int 0, .int (-1)])), (q6, .inr (5, [.ref (z16 0), .ref (z16 1), .ref (z16 2), .ref (z16 3), .ref (z16 4), .ref (z16 5), .ref (z16 6), .ref (z16 7)])), (q17, .inr (3, [.ref (z27 0), .ref (z27 1), .ref (z27 2), .ref (z27 3), .ref (z27 4), .ref (z27 5), .ref (z27 6), .ref (z27 7), .int 0, .int 0, .int 0, .int 0, .int 0])), (q28, .inr (2, [.null, .int 0, .int 0])), (q30, .inr (0, [.ref u32, .int 0, .int 0])), (u32, .inl (g.2.1.1, 240, .inl (fun _ => 0)))] H := hP
  have hD : va_D A [(h0, .inr (8, [.ref q1, .ref q4, .ref q6, .ref q17, .ref q28, .ref q30, .null, .null, .null, .null, .int 0, .int 0, .int 0, .int 0])), (q1, .inr (7, [.ref u3, .int 0])), (u3, .inl (g.2.1.2.1, 1200, .inl (fun _ => 0))), (q4, .inr (6, [.ref q1, .null, .int 0, .int 0, .int 0, .int 0, .int (-1)])), (q6, .inr (5, [.ref (z16 0), .ref (z16 1), .ref (z16 2), .ref (z16 3), .ref (z16 4), .ref (z16 5), .ref (z16 6), .ref (z16 7)])), (q17, .inr (3, [.ref (z27 0), .ref (z27 1), .ref (z27 2), .ref (z27 3), .ref (z27 4), .ref (z27 5), .ref (z27 6), .ref (z27 7), .int 0, .int 0, .int 0, .int 0, .int 0])), (q28, .inr (2, [.null, .int 0, .int 0])), (q30, .inr (0, [.ref u32, .int 0, .int 0])), (u32, .inl (g.2.1.1, 240, .inl (fun _ => 0)))] := hD
  refine lv_aload_n hx hb dX8_init_74 rfl (lv_at hl 0 rfl) ?_
  refine va_new (ci := 1) (fs := [.null, .null, .int 0]) (C := RX1) (T := TX1) (N := 3) hx hb hG iX1 tyX1 tyX1_ok hown (hG _ g386) (hG _ g387) (hG _ g209) hX.1 hP hD hS hA rfl (fun j hj => by rcases (show j = 0 ∨ j = 1 ∨ j = 2 by omega) with rfl | rfl | rfl <;> rfl) (Nat.le_of_ble_eq_true rfl) (Nat.le_of_ble_eq_true rfl) dX8_init_75 (fun q33 H hP hD hS => ?_)
  refine W.cs (cells' := 25) (slots' := 6793) rfl rfl ?_
  have hP : va_P g.1 vwCl [(h0, .inr (8, [.ref q1, .ref q4, .ref q6, .ref q17, .ref q28, .ref q30, .null, .null, .null, .null, .int 0, .int 0, .int 0, .int 0])), (q1, .inr (7, [.ref u3, .int 0])), (u3, .inl (g.2.1.2.1, 1200, .inl (fun _ => 0))), (q4, .inr (6, [.ref q1, .null, .int 0, .int 0, .int 0, .int 0, .int (-1)])), (q6, .inr (5, [.ref (z16 0), .ref (z16 1), .ref (z16 2), .ref (z16 3), .ref (z16 4), .ref (z16 5), .ref (z16 6), .ref (z16 7)])), (q17, .inr (3, [.ref (z27 0), .ref (z27 1), .ref (z27 2), .ref (z27 3), .ref (z27 4), .ref (z27 5), .ref (z27 6), .ref (z27 7), .int 0, .int 0, .int 0, .int 0, .int 0])), (q28, .inr (2, [.null, .int 0, .int 0])), (q30, .inr (0, [.ref u32, .int 0, .int 0])), (u32, .inl (g.2.1.1, 240, .inl (fun _ => 0))), (q33, .inr (1, [.null, .null, .int 0]))] H := hP
  have hD : va_D A [(h0, .inr (8, [.ref q1, .ref q4, .ref q6, .ref q17, .ref q28, .ref q30, .null, .null, .null, .null, .int 0, .int 0, .int 0, .int 0])), (q1, .inr (7, [.ref u3, .int 0])), (u3, .inl (g.2.1.2.1, 1200, .inl (fun _ => 0))), (q4, .inr (6, [.ref q1, .null, .int 0, .int 0, .int 0, .int 0, .int (-1)])), (q6, .inr (5, [.ref (z16 0), .ref (z16 1), .ref (z16 2), .ref (z16 3), .ref (z16 4), .ref (z16 5), .ref (z16 6), .ref (z16 7)])), (q17, .inr (3, [.ref (z27 0), .ref (z27 1), .ref (z27 2), .ref (z27 3), .ref (z27 4), .ref (z27 5), .ref (z27 6), .ref (z27 7), .int 0, .int 0, .int 0, .int 0, .int 0])), (q28, .inr (2, [.null, .int 0, .int 0])), (q30, .inr (0, [.ref u32, .int 0, .int 0])), (u32, .inl (g.2.1.1, 240, .inl (fun _ => 0))), (q33, .inr (1, [.null, .null, .int 0]))] := hD
  refine lv_dup hx hb dX8_init_78 rfl ?_
  refine zfv (wr := [(h0, .inr (8, [.ref q1, .ref q4, .ref q6, .ref q17, .ref q28, .ref q30, .null, .null, .null, .null, .int 0, .int 0, .int 0, .int 0])), (q1, .inr (7, [.ref u3, .int 0])), (u3, .inl (g.2.1.2.1, 1200, .inl (fun _ => 0))), (q4, .inr (6, [.ref q1, .null, .int 0, .int 0, .int 0, .int 0, .int (-1)])), (q6, .inr (5, [.ref (z16 0), .ref (z16 1), .ref (z16 2), .ref (z16 3), .ref (z16 4), .ref (z16 5), .ref (z16 6), .ref (z16 7)])), (q17, .inr (3, [.ref (z27 0), .ref (z27 1), .ref (z27 2), .ref (z27 3), .ref (z27 4), .ref (z27 5), .ref (z27 6), .ref (z27 7), .int 0, .int 0, .int 0, .int 0, .int 0])), (q28, .inr (2, [.null, .int 0, .int 0])), (q30, .inr (0, [.ref u32, .int 0, .int 0])), (u32, .inl (g.2.1.1, 240, .inl (fun _ => 0)))]) (va_runIN (As := []) (rest := [.ref q33, .ref h0]) ⟨hx, hb, hml, hown, hG⟩ (kX1_init l g q33 _) ⟨va_cnB 0 hG (zGood g390) rfl rfl rfl (hX.2.1.ml g388) (hG _ g209) hX1_init ⟨Nat.le_of_ble_eq_true rfl, Nat.le_of_ble_eq_true rfl⟩, rfl, hG _ g389⟩ (zpreS hX hP hD hS hA [9] rfl (by decide)) rfl rfl hl.1 rfl (lv_room (Nat.le_of_ble_eq_true rfl)) dX8_init_79 ⟨Nat.le_of_ble_eq_true rfl, Nat.le_of_ble_eq_true rfl⟩) hP hD hS hA [9] [0, 1, 2, 3, 4, 5, 6, 7, 8] rfl rfl (by decide) (by decide) (fun z37 H locs hp hP hD hS => ?_)
  refine W.cs (cells' := 27) (slots' := 6809) rfl rfl ?_
  obtain ⟨u35, u36⟩ := z37
  have hP : va_P g.1 vwCl [(h0, .inr (8, [.ref q1, .ref q4, .ref q6, .ref q17, .ref q28, .ref q30, .null, .null, .null, .null, .int 0, .int 0, .int 0, .int 0])), (q1, .inr (7, [.ref u3, .int 0])), (u3, .inl (g.2.1.2.1, 1200, .inl (fun _ => 0))), (q4, .inr (6, [.ref q1, .null, .int 0, .int 0, .int 0, .int 0, .int (-1)])), (q6, .inr (5, [.ref (z16 0), .ref (z16 1), .ref (z16 2), .ref (z16 3), .ref (z16 4), .ref (z16 5), .ref (z16 6), .ref (z16 7)])), (q17, .inr (3, [.ref (z27 0), .ref (z27 1), .ref (z27 2), .ref (z27 3), .ref (z27 4), .ref (z27 5), .ref (z27 6), .ref (z27 7), .int 0, .int 0, .int 0, .int 0, .int 0])), (q28, .inr (2, [.null, .int 0, .int 0])), (q30, .inr (0, [.ref u32, .int 0, .int 0])), (u32, .inl (g.2.1.1, 240, .inl (fun _ => 0))), (q33, .inr (1, [.ref u35, .ref u36, .int 0])), (u35, .inl (g.2.1.1, 8, .inl (fun _ => 0))), (u36, .inl (g.2.1.1, 8, .inl (fun _ => 0)))] H := hP
  have hD : va_D A [(h0, .inr (8, [.ref q1, .ref q4, .ref q6, .ref q17, .ref q28, .ref q30, .null, .null, .null, .null, .int 0, .int 0, .int 0, .int 0])), (q1, .inr (7, [.ref u3, .int 0])), (u3, .inl (g.2.1.2.1, 1200, .inl (fun _ => 0))), (q4, .inr (6, [.ref q1, .null, .int 0, .int 0, .int 0, .int 0, .int (-1)])), (q6, .inr (5, [.ref (z16 0), .ref (z16 1), .ref (z16 2), .ref (z16 3), .ref (z16 4), .ref (z16 5), .ref (z16 6), .ref (z16 7)])), (q17, .inr (3, [.ref (z27 0), .ref (z27 1), .ref (z27 2), .ref (z27 3), .ref (z27 4), .ref (z27 5), .ref (z27 6), .ref (z27 7), .int 0, .int 0, .int 0, .int 0, .int 0])), (q28, .inr (2, [.null, .int 0, .int 0])), (q30, .inr (0, [.ref u32, .int 0, .int 0])), (u32, .inl (g.2.1.1, 240, .inl (fun _ => 0))), (q33, .inr (1, [.ref u35, .ref u36, .int 0])), (u35, .inl (g.2.1.1, 8, .inl (fun _ => 0))), (u36, .inl (g.2.1.1, 8, .inl (fun _ => 0)))] := hD
  refine va_putF (D := g.1) (ci := 8) (v := .ref q33) (ty := (.object "SheetFolds$Measured")) (C := RX8) (T := TX8) (N := 14) hx hb hG iX8 tyX8 tyX8_ok nmX8 hown hX.1 hP hD hS 0 rfl rfl 6 (by decide) (hG _ g513) (fun _ h9 => h9) rfl hnm rfl (by decide +kernel) rfl rfl (Nat.le_of_ble_eq_true rfl) dX8_init_82 (fun H locs hP hD hS => ?_)
  have hP : va_P g.1 vwCl [(h0, .inr (8, [.ref q1, .ref q4, .ref q6, .ref q17, .ref q28, .ref q30, .ref q33, .null, .null, .null, .int 0, .int 0, .int 0, .int 0])), (q1, .inr (7, [.ref u3, .int 0])), (u3, .inl (g.2.1.2.1, 1200, .inl (fun _ => 0))), (q4, .inr (6, [.ref q1, .null, .int 0, .int 0, .int 0, .int 0, .int (-1)])), (q6, .inr (5, [.ref (z16 0), .ref (z16 1), .ref (z16 2), .ref (z16 3), .ref (z16 4), .ref (z16 5), .ref (z16 6), .ref (z16 7)])), (q17, .inr (3, [.ref (z27 0), .ref (z27 1), .ref (z27 2), .ref (z27 3), .ref (z27 4), .ref (z27 5), .ref (z27 6), .ref (z27 7), .int 0, .int 0, .int 0, .int 0, .int 0])), (q28, .inr (2, [.null, .int 0, .int 0])), (q30, .inr (0, [.ref u32, .int 0, .int 0])), (u32, .inl (g.2.1.1, 240, .inl (fun _ => 0))), (q33, .inr (1, [.ref u35, .ref u36, .int 0])), (u35, .inl (g.2.1.1, 8, .inl (fun _ => 0))), (u36, .inl (g.2.1.1, 8, .inl (fun _ => 0)))] H := hP
  have hD : va_D A [(h0, .inr (8, [.ref q1, .ref q4, .ref q6, .ref q17, .ref q28, .ref q30, .ref q33, .null, .null, .null, .int 0, .int 0, .int 0, .int 0])), (q1, .inr (7, [.ref u3, .int 0])), (u3, .inl (g.2.1.2.1, 1200, .inl (fun _ => 0))), (q4, .inr (6, [.ref q1, .null, .int 0, .int 0, .int 0, .int 0, .int (-1)])), (q6, .inr (5, [.ref (z16 0), .ref (z16 1), .ref (z16 2), .ref (z16 3), .ref (z16 4), .ref (z16 5), .ref (z16 6), .ref (z16 7)])), (q17, .inr (3, [.ref (z27 0), .ref (z27 1), .ref (z27 2), .ref (z27 3), .ref (z27 4), .ref (z27 5), .ref (z27 6), .ref (z27 7), .int 0, .int 0, .int 0, .int 0, .int 0])), (q28, .inr (2, [.null, .int 0, .int 0])), (q30, .inr (0, [.ref u32, .int 0, .int 0])), (u32, .inl (g.2.1.1, 240, .inl (fun _ => 0))), (q33, .inr (1, [.ref u35, .ref u36, .int 0])), (u35, .inl (g.2.1.1, 8, .inl (fun _ => 0))), (u36, .inl (g.2.1.1, 8, .inl (fun _ => 0)))] := hD
  refine lv_aload_n hx hb dX8_init_85 rfl (lv_at hl 0 rfl) ?_
  refine lv_bipush (v := 6) hx hb dX8_init_86 (by decide) ?_
  refine zna (atype := .int) (N' := 6) (a0 := (6, .inl (fun _ => 0))) hx hb (hG _ g306) (ty := .int) rfl 0 rfl (fun _ h9 => va_nm_int h9) hX hP hD hS hA (fun _ => rfl) (by decide) (by decide) (Nat.le_of_ble_eq_true rfl) (Nat.le_of_ble_eq_true rfl) (Nat.le_of_ble_eq_true rfl) dX8_init_88 (fun q38 H hP hD hS => ?_)
  refine W.cs (cells' := 28) (slots' := 6815) rfl rfl ?_
  have hP : va_P g.1 vwCl [(h0, .inr (8, [.ref q1, .ref q4, .ref q6, .ref q17, .ref q28, .ref q30, .ref q33, .null, .null, .null, .int 0, .int 0, .int 0, .int 0])), (q1, .inr (7, [.ref u3, .int 0])), (u3, .inl (g.2.1.2.1, 1200, .inl (fun _ => 0))), (q4, .inr (6, [.ref q1, .null, .int 0, .int 0, .int 0, .int 0, .int (-1)])), (q6, .inr (5, [.ref (z16 0), .ref (z16 1), .ref (z16 2), .ref (z16 3), .ref (z16 4), .ref (z16 5), .ref (z16 6), .ref (z16 7)])), (q17, .inr (3, [.ref (z27 0), .ref (z27 1), .ref (z27 2), .ref (z27 3), .ref (z27 4), .ref (z27 5), .ref (z27 6), .ref (z27 7), .int 0, .int 0, .int 0, .int 0, .int 0])), (q28, .inr (2, [.null, .int 0, .int 0])), (q30, .inr (0, [.ref u32, .int 0, .int 0])), (u32, .inl (g.2.1.1, 240, .inl (fun _ => 0))), (q33, .inr (1, [.ref u35, .ref u36, .int 0])), (u35, .inl (g.2.1.1, 8, .inl (fun _ => 0))), (u36, .inl (g.2.1.1, 8, .inl (fun _ => 0))), (q38, .inl (g.2.1.1, 6, .inl (fun _ => 0)))] H := hP
  have hD : va_D A [(h0, .inr (8, [.ref q1, .ref q4, .ref q6, .ref q17, .ref q28, .ref q30, .ref q33, .null, .null, .null, .int 0, .int 0, .int 0, .int 0])), (q1, .inr (7, [.ref u3, .int 0])), (u3, .inl (g.2.1.2.1, 1200, .inl (fun _ => 0))), (q4, .inr (6, [.ref q1, .null, .int 0, .int 0, .int 0, .int 0, .int (-1)])), (q6, .inr (5, [.ref (z16 0), .ref (z16 1), .ref (z16 2), .ref (z16 3), .ref (z16 4), .ref (z16 5), .ref (z16 6), .ref (z16 7)])), (q17, .inr (3, [.ref (z27 0), .ref (z27 1), .ref (z27 2), .ref (z27 3), .ref (z27 4), .ref (z27 5), .ref (z27 6), .ref (z27 7), .int 0, .int 0, .int 0, .int 0, .int 0])), (q28, .inr (2, [.null, .int 0, .int 0])), (q30, .inr (0, [.ref u32, .int 0, .int 0])), (u32, .inl (g.2.1.1, 240, .inl (fun _ => 0))), (q33, .inr (1, [.ref u35, .ref u36, .int 0])), (u35, .inl (g.2.1.1, 8, .inl (fun _ => 0))), (u36, .inl (g.2.1.1, 8, .inl (fun _ => 0))), (q38, .inl (g.2.1.1, 6, .inl (fun _ => 0)))] := hD
  refine va_putF (D := g.1) (ci := 8) (v := .ref q38) (ty := (.array .int)) (C := RX8) (T := TX8) (N := 14) hx hb hG iX8 tyX8 tyX8_ok nmX8 hown hX.1 hP hD hS 0 rfl rfl 7 (by decide) (hG _ g514) (fun _ h9 => h9) rfl hnm rfl (by decide +kernel) rfl rfl (Nat.le_of_ble_eq_true rfl) dX8_init_90 (fun H locs hP hD hS => ?_)
  have hP : va_P g.1 vwCl [(h0, .inr (8, [.ref q1, .ref q4, .ref q6, .ref q17, .ref q28, .ref q30, .ref q33, .ref q38, .null, .null, .int 0, .int 0, .int 0, .int 0])), (q1, .inr (7, [.ref u3, .int 0])), (u3, .inl (g.2.1.2.1, 1200, .inl (fun _ => 0))), (q4, .inr (6, [.ref q1, .null, .int 0, .int 0, .int 0, .int 0, .int (-1)])), (q6, .inr (5, [.ref (z16 0), .ref (z16 1), .ref (z16 2), .ref (z16 3), .ref (z16 4), .ref (z16 5), .ref (z16 6), .ref (z16 7)])), (q17, .inr (3, [.ref (z27 0), .ref (z27 1), .ref (z27 2), .ref (z27 3), .ref (z27 4), .ref (z27 5), .ref (z27 6), .ref (z27 7), .int 0, .int 0, .int 0, .int 0, .int 0])), (q28, .inr (2, [.null, .int 0, .int 0])), (q30, .inr (0, [.ref u32, .int 0, .int 0])), (u32, .inl (g.2.1.1, 240, .inl (fun _ => 0))), (q33, .inr (1, [.ref u35, .ref u36, .int 0])), (u35, .inl (g.2.1.1, 8, .inl (fun _ => 0))), (u36, .inl (g.2.1.1, 8, .inl (fun _ => 0))), (q38, .inl (g.2.1.1, 6, .inl (fun _ => 0)))] H := hP
  have hD : va_D A [(h0, .inr (8, [.ref q1, .ref q4, .ref q6, .ref q17, .ref q28, .ref q30, .ref q33, .ref q38, .null, .null, .int 0, .int 0, .int 0, .int 0])), (q1, .inr (7, [.ref u3, .int 0])), (u3, .inl (g.2.1.2.1, 1200, .inl (fun _ => 0))), (q4, .inr (6, [.ref q1, .null, .int 0, .int 0, .int 0, .int 0, .int (-1)])), (q6, .inr (5, [.ref (z16 0), .ref (z16 1), .ref (z16 2), .ref (z16 3), .ref (z16 4), .ref (z16 5), .ref (z16 6), .ref (z16 7)])), (q17, .inr (3, [.ref (z27 0), .ref (z27 1), .ref (z27 2), .ref (z27 3), .ref (z27 4), .ref (z27 5), .ref (z27 6), .ref (z27 7), .int 0, .int 0, .int 0, .int 0, .int 0])), (q28, .inr (2, [.null, .int 0, .int 0])), (q30, .inr (0, [.ref u32, .int 0, .int 0])), (u32, .inl (g.2.1.1, 240, .inl (fun _ => 0))), (q33, .inr (1, [.ref u35, .ref u36, .int 0])), (u35, .inl (g.2.1.1, 8, .inl (fun _ => 0))), (u36, .inl (g.2.1.1, 8, .inl (fun _ => 0))), (q38, .inl (g.2.1.1, 6, .inl (fun _ => 0)))] := hD
  refine lv_aload_n hx hb dX8_init_93 rfl (lv_at hl 0 rfl) ?_
  refine va_new (ci := 4) (fs := [.int 0, .int 0, .int 0, .int 0, .int 0, .int 0, .null, .null, .null, .null, .null, .null, .null, .null, .null, .null]) (C := RX4) (T := TX4) (N := 16) hx hb hG iX4 tyX4 tyX4_ok hown (hG _ g403) (hG _ g404) (hG _ g210) hX.1 hP hD hS hA rfl (fun j hj => by rcases (show j = 0 ∨ j = 1 ∨ j = 2 ∨ j = 3 ∨ j = 4 ∨ j = 5 ∨ j = 6 ∨ j = 7 ∨ j = 8 ∨ j = 9 ∨ j = 10 ∨ j = 11 ∨ j = 12 ∨ j = 13 ∨ j = 14 ∨ j = 15 by omega) with rfl | rfl | rfl | rfl | rfl | rfl | rfl | rfl | rfl | rfl | rfl | rfl | rfl | rfl | rfl | rfl <;> rfl) (Nat.le_of_ble_eq_true rfl) (Nat.le_of_ble_eq_true rfl) dX8_init_94 (fun q39 H hP hD hS => ?_)
  refine W.cs (cells' := 29) (slots' := 6831) rfl rfl ?_
  have hP : va_P g.1 vwCl [(h0, .inr (8, [.ref q1, .ref q4, .ref q6, .ref q17, .ref q28, .ref q30, .ref q33, .ref q38, .null, .null, .int 0, .int 0, .int 0, .int 0])), (q1, .inr (7, [.ref u3, .int 0])), (u3, .inl (g.2.1.2.1, 1200, .inl (fun _ => 0))), (q4, .inr (6, [.ref q1, .null, .int 0, .int 0, .int 0, .int 0, .int (-1)])), (q6, .inr (5, [.ref (z16 0), .ref (z16 1), .ref (z16 2), .ref (z16 3), .ref (z16 4), .ref (z16 5), .ref (z16 6), .ref (z16 7)])), (q17, .inr (3, [.ref (z27 0), .ref (z27 1), .ref (z27 2), .ref (z27 3), .ref (z27 4), .ref (z27 5), .ref (z27 6), .ref (z27 7), .int 0, .int 0, .int 0, .int 0, .int 0])), (q28, .inr (2, [.null, .int 0, .int 0])), (q30, .inr (0, [.ref u32, .int 0, .int 0])), (u32, .inl (g.2.1.1, 240, .inl (fun _ => 0))), (q33, .inr (1, [.ref u35, .ref u36, .int 0])), (u35, .inl (g.2.1.1, 8, .inl (fun _ => 0))), (u36, .inl (g.2.1.1, 8, .inl (fun _ => 0))), (q38, .inl (g.2.1.1, 6, .inl (fun _ => 0))), (q39, .inr (4, [.int 0, .int 0, .int 0, .int 0, .int 0, .int 0, .null, .null, .null, .null, .null, .null, .null, .null, .null, .null]))] H := hP
  have hD : va_D A [(h0, .inr (8, [.ref q1, .ref q4, .ref q6, .ref q17, .ref q28, .ref q30, .ref q33, .ref q38, .null, .null, .int 0, .int 0, .int 0, .int 0])), (q1, .inr (7, [.ref u3, .int 0])), (u3, .inl (g.2.1.2.1, 1200, .inl (fun _ => 0))), (q4, .inr (6, [.ref q1, .null, .int 0, .int 0, .int 0, .int 0, .int (-1)])), (q6, .inr (5, [.ref (z16 0), .ref (z16 1), .ref (z16 2), .ref (z16 3), .ref (z16 4), .ref (z16 5), .ref (z16 6), .ref (z16 7)])), (q17, .inr (3, [.ref (z27 0), .ref (z27 1), .ref (z27 2), .ref (z27 3), .ref (z27 4), .ref (z27 5), .ref (z27 6), .ref (z27 7), .int 0, .int 0, .int 0, .int 0, .int 0])), (q28, .inr (2, [.null, .int 0, .int 0])), (q30, .inr (0, [.ref u32, .int 0, .int 0])), (u32, .inl (g.2.1.1, 240, .inl (fun _ => 0))), (q33, .inr (1, [.ref u35, .ref u36, .int 0])), (u35, .inl (g.2.1.1, 8, .inl (fun _ => 0))), (u36, .inl (g.2.1.1, 8, .inl (fun _ => 0))), (q38, .inl (g.2.1.1, 6, .inl (fun _ => 0))), (q39, .inr (4, [.int 0, .int 0, .int 0, .int 0, .int 0, .int 0, .null, .null, .null, .null, .null, .null, .null, .null, .null, .null]))] := hD
  refine lv_dup hx hb dX8_init_97 rfl ?_
  refine zfv (wr := [(h0, .inr (8, [.ref q1, .ref q4, .ref q6, .ref q17, .ref q28, .ref q30, .ref q33, .ref q38, .null, .null, .int 0, .int 0, .int 0, .int 0])), (q1, .inr (7, [.ref u3, .int 0])), (u3, .inl (g.2.1.2.1, 1200, .inl (fun _ => 0))), (q4, .inr (6, [.ref q1, .null, .int 0, .int 0, .int 0, .int 0, .int (-1)])), (q6, .inr (5, [.ref (z16 0), .ref (z16 1), .ref (z16 2), .ref (z16 3), .ref (z16 4), .ref (z16 5), .ref (z16 6), .ref (z16 7)])), (q17, .inr (3, [.ref (z27 0), .ref (z27 1), .ref (z27 2), .ref (z27 3), .ref (z27 4), .ref (z27 5), .ref (z27 6), .ref (z27 7), .int 0, .int 0, .int 0, .int 0, .int 0])), (q28, .inr (2, [.null, .int 0, .int 0])), (q30, .inr (0, [.ref u32, .int 0, .int 0])), (u32, .inl (g.2.1.1, 240, .inl (fun _ => 0))), (q33, .inr (1, [.ref u35, .ref u36, .int 0])), (u35, .inl (g.2.1.1, 8, .inl (fun _ => 0))), (u36, .inl (g.2.1.1, 8, .inl (fun _ => 0))), (q38, .inl (g.2.1.1, 6, .inl (fun _ => 0)))]) (va_runIN (As := []) (rest := [.ref q39, .ref h0]) ⟨hx, hb, hml, hown, hG⟩ (kX4_init l g q39 _) ⟨va_cnB 0 hG (zGood g407) rfl rfl rfl (hX.2.1.ml g405) (hG _ g210) hX4_init ⟨Nat.le_of_ble_eq_true rfl, Nat.le_of_ble_eq_true rfl⟩, rfl, hG _ g406⟩ (zpreS hX hP hD hS hA [13] rfl (by decide)) rfl rfl hl.1 rfl (lv_room (Nat.le_of_ble_eq_true rfl)) dX8_init_98 ⟨Nat.le_of_ble_eq_true rfl, Nat.le_of_ble_eq_true rfl⟩) hP hD hS hA [13] [0, 1, 2, 3, 4, 5, 6, 7, 8, 9, 10, 11, 12] rfl rfl (by decide) (by decide) (fun z51 H locs hp hP hD hS => ?_)
  refine W.cs (cells' := 39) (slots' := 6921) rfl rfl ?_
  have hP : va_P g.1 vwCl [(h0, .inr (8, [.ref q1, .ref q4, .ref q6, .ref q17, .ref q28, .ref q30, .ref q33, .ref q38, .null, .null, .int 0, .int 0, .int 0, .int 0])), (q1, .inr (7, [.ref u3, .int 0])), (u3, .inl (g.2.1.2.1, 1200, .inl (fun _ => 0))), (q4, .inr (6, [.ref q1, .null, .int 0, .int 0, .int 0, .int 0, .int (-1)])), (q6, .inr (5, [.ref (z16 0), .ref (z16 1), .ref (z16 2), .ref (z16 3), .ref (z16 4), .ref (z16 5), .ref (z16 6), .ref (z16 7)])), (q17, .inr (3, [.ref (z27 0), .ref (z27 1), .ref (z27 2), .ref (z27 3), .ref (z27 4), .ref (z27 5), .ref (z27 6), .ref (z27 7), .int 0, .int 0, .int 0, .int 0, .int 0])), (q28, .inr (2, [.null, .int 0, .int 0])), (q30, .inr (0, [.ref u32, .int 0, .int 0])), (u32, .inl (g.2.1.1, 240, .inl (fun _ => 0))), (q33, .inr (1, [.ref u35, .ref u36, .int 0])), (u35, .inl (g.2.1.1, 8, .inl (fun _ => 0))), (u36, .inl (g.2.1.1, 8, .inl (fun _ => 0))), (q38, .inl (g.2.1.1, 6, .inl (fun _ => 0))), (q39, .inr (4, [.int 0, .int 0, .int 0, .int 0, .int 0, .int 0, .ref (z51 0), .ref (z51 1), .ref (z51 2), .ref (z51 3), .ref (z51 4), .ref (z51 5), .ref (z51 6), .ref (z51 7), .ref (z51 8), .ref (z51 9)])), ((z51 1), .inl (g.2.1.1, 10, .inl (fun _ => 0))), ((z51 6), .inl (g.2.1.1, 9, .inl (fun _ => 0))), ((z51 7), .inl (g.2.1.1, 9, .inl (fun _ => 0)))] H := hP
  have hD : va_D A [(h0, .inr (8, [.ref q1, .ref q4, .ref q6, .ref q17, .ref q28, .ref q30, .ref q33, .ref q38, .null, .null, .int 0, .int 0, .int 0, .int 0])), (q1, .inr (7, [.ref u3, .int 0])), (u3, .inl (g.2.1.2.1, 1200, .inl (fun _ => 0))), (q4, .inr (6, [.ref q1, .null, .int 0, .int 0, .int 0, .int 0, .int (-1)])), (q6, .inr (5, [.ref (z16 0), .ref (z16 1), .ref (z16 2), .ref (z16 3), .ref (z16 4), .ref (z16 5), .ref (z16 6), .ref (z16 7)])), (q17, .inr (3, [.ref (z27 0), .ref (z27 1), .ref (z27 2), .ref (z27 3), .ref (z27 4), .ref (z27 5), .ref (z27 6), .ref (z27 7), .int 0, .int 0, .int 0, .int 0, .int 0])), (q28, .inr (2, [.null, .int 0, .int 0])), (q30, .inr (0, [.ref u32, .int 0, .int 0])), (u32, .inl (g.2.1.1, 240, .inl (fun _ => 0))), (q33, .inr (1, [.ref u35, .ref u36, .int 0])), (u35, .inl (g.2.1.1, 8, .inl (fun _ => 0))), (u36, .inl (g.2.1.1, 8, .inl (fun _ => 0))), (q38, .inl (g.2.1.1, 6, .inl (fun _ => 0))), (q39, .inr (4, [.int 0, .int 0, .int 0, .int 0, .int 0, .int 0, .ref (z51 0), .ref (z51 1), .ref (z51 2), .ref (z51 3), .ref (z51 4), .ref (z51 5), .ref (z51 6), .ref (z51 7), .ref (z51 8), .ref (z51 9)])), ((z51 1), .inl (g.2.1.1, 10, .inl (fun _ => 0))), ((z51 6), .inl (g.2.1.1, 9, .inl (fun _ => 0))), ((z51 7), .inl (g.2.1.1, 9, .inl (fun _ => 0)))] := hD
  refine va_put (D := g.1) (ci := 8) (v := .ref q39) (ty := (.object "SheetFolds$Part")) (C := RX8) (T := TX8) (N := 14) hx hb hG iX8 tyX8 tyX8_ok nmX8 hown hX.1 hP hD hS 0 rfl rfl 8 (by decide) (hG _ g515) (fun _ h9 => h9) rfl (by decide +kernel) rfl rfl (Nat.le_of_ble_eq_true rfl) dX8_init_101 (fun H locs hP hD hS => ?_)
  have hP : va_P g.1 vwCl [(h0, .inr (8, [.ref q1, .ref q4, .ref q6, .ref q17, .ref q28, .ref q30, .ref q33, .ref q38, .ref q39, .null, .int 0, .int 0, .int 0, .int 0])), (q1, .inr (7, [.ref u3, .int 0])), (u3, .inl (g.2.1.2.1, 1200, .inl (fun _ => 0))), (q4, .inr (6, [.ref q1, .null, .int 0, .int 0, .int 0, .int 0, .int (-1)])), (q6, .inr (5, [.ref (z16 0), .ref (z16 1), .ref (z16 2), .ref (z16 3), .ref (z16 4), .ref (z16 5), .ref (z16 6), .ref (z16 7)])), (q17, .inr (3, [.ref (z27 0), .ref (z27 1), .ref (z27 2), .ref (z27 3), .ref (z27 4), .ref (z27 5), .ref (z27 6), .ref (z27 7), .int 0, .int 0, .int 0, .int 0, .int 0])), (q28, .inr (2, [.null, .int 0, .int 0])), (q30, .inr (0, [.ref u32, .int 0, .int 0])), (u32, .inl (g.2.1.1, 240, .inl (fun _ => 0))), (q33, .inr (1, [.ref u35, .ref u36, .int 0])), (u35, .inl (g.2.1.1, 8, .inl (fun _ => 0))), (u36, .inl (g.2.1.1, 8, .inl (fun _ => 0))), (q38, .inl (g.2.1.1, 6, .inl (fun _ => 0))), (q39, .inr (4, [.int 0, .int 0, .int 0, .int 0, .int 0, .int 0, .ref (z51 0), .ref (z51 1), .ref (z51 2), .ref (z51 3), .ref (z51 4), .ref (z51 5), .ref (z51 6), .ref (z51 7), .ref (z51 8), .ref (z51 9)])), ((z51 1), .inl (g.2.1.1, 10, .inl (fun _ => 0))), ((z51 6), .inl (g.2.1.1, 9, .inl (fun _ => 0))), ((z51 7), .inl (g.2.1.1, 9, .inl (fun _ => 0)))] H := hP
  have hD : va_D A [(h0, .inr (8, [.ref q1, .ref q4, .ref q6, .ref q17, .ref q28, .ref q30, .ref q33, .ref q38, .ref q39, .null, .int 0, .int 0, .int 0, .int 0])), (q1, .inr (7, [.ref u3, .int 0])), (u3, .inl (g.2.1.2.1, 1200, .inl (fun _ => 0))), (q4, .inr (6, [.ref q1, .null, .int 0, .int 0, .int 0, .int 0, .int (-1)])), (q6, .inr (5, [.ref (z16 0), .ref (z16 1), .ref (z16 2), .ref (z16 3), .ref (z16 4), .ref (z16 5), .ref (z16 6), .ref (z16 7)])), (q17, .inr (3, [.ref (z27 0), .ref (z27 1), .ref (z27 2), .ref (z27 3), .ref (z27 4), .ref (z27 5), .ref (z27 6), .ref (z27 7), .int 0, .int 0, .int 0, .int 0, .int 0])), (q28, .inr (2, [.null, .int 0, .int 0])), (q30, .inr (0, [.ref u32, .int 0, .int 0])), (u32, .inl (g.2.1.1, 240, .inl (fun _ => 0))), (q33, .inr (1, [.ref u35, .ref u36, .int 0])), (u35, .inl (g.2.1.1, 8, .inl (fun _ => 0))), (u36, .inl (g.2.1.1, 8, .inl (fun _ => 0))), (q38, .inl (g.2.1.1, 6, .inl (fun _ => 0))), (q39, .inr (4, [.int 0, .int 0, .int 0, .int 0, .int 0, .int 0, .ref (z51 0), .ref (z51 1), .ref (z51 2), .ref (z51 3), .ref (z51 4), .ref (z51 5), .ref (z51 6), .ref (z51 7), .ref (z51 8), .ref (z51 9)])), ((z51 1), .inl (g.2.1.1, 10, .inl (fun _ => 0))), ((z51 6), .inl (g.2.1.1, 9, .inl (fun _ => 0))), ((z51 7), .inl (g.2.1.1, 9, .inl (fun _ => 0)))] := hD
  refine lv_aload_n hx hb dX8_init_104 rfl (lv_at hl 0 rfl) ?_
  refine va_new (ci := 4) (fs := [.int 0, .int 0, .int 0, .int 0, .int 0, .int 0, .null, .null, .null, .null, .null, .null, .null, .null, .null, .null]) (C := RX4) (T := TX4) (N := 16) hx hb hG iX4 tyX4 tyX4_ok hown (hG _ g403) (hG _ g404) (hG _ g210) hX.1 hP hD hS hA rfl (fun j hj => by rcases (show j = 0 ∨ j = 1 ∨ j = 2 ∨ j = 3 ∨ j = 4 ∨ j = 5 ∨ j = 6 ∨ j = 7 ∨ j = 8 ∨ j = 9 ∨ j = 10 ∨ j = 11 ∨ j = 12 ∨ j = 13 ∨ j = 14 ∨ j = 15 by omega) with rfl | rfl | rfl | rfl | rfl | rfl | rfl | rfl | rfl | rfl | rfl | rfl | rfl | rfl | rfl | rfl <;> rfl) (Nat.le_of_ble_eq_true rfl) (Nat.le_of_ble_eq_true rfl) dX8_init_105 (fun q52 H hP hD hS => ?_)
  refine W.cs (cells' := 40) (slots' := 6937) rfl rfl ?_
  have hP : va_P g.1 vwCl [(h0, .inr (8, [.ref q1, .ref q4, .ref q6, .ref q17, .ref q28, .ref q30, .ref q33, .ref q38, .ref q39, .null, .int 0, .int 0, .int 0, .int 0])), (q1, .inr (7, [.ref u3, .int 0])), (u3, .inl (g.2.1.2.1, 1200, .inl (fun _ => 0))), (q4, .inr (6, [.ref q1, .null, .int 0, .int 0, .int 0, .int 0, .int (-1)])), (q6, .inr (5, [.ref (z16 0), .ref (z16 1), .ref (z16 2), .ref (z16 3), .ref (z16 4), .ref (z16 5), .ref (z16 6), .ref (z16 7)])), (q17, .inr (3, [.ref (z27 0), .ref (z27 1), .ref (z27 2), .ref (z27 3), .ref (z27 4), .ref (z27 5), .ref (z27 6), .ref (z27 7), .int 0, .int 0, .int 0, .int 0, .int 0])), (q28, .inr (2, [.null, .int 0, .int 0])), (q30, .inr (0, [.ref u32, .int 0, .int 0])), (u32, .inl (g.2.1.1, 240, .inl (fun _ => 0))), (q33, .inr (1, [.ref u35, .ref u36, .int 0])), (u35, .inl (g.2.1.1, 8, .inl (fun _ => 0))), (u36, .inl (g.2.1.1, 8, .inl (fun _ => 0))), (q38, .inl (g.2.1.1, 6, .inl (fun _ => 0))), (q39, .inr (4, [.int 0, .int 0, .int 0, .int 0, .int 0, .int 0, .ref (z51 0), .ref (z51 1), .ref (z51 2), .ref (z51 3), .ref (z51 4), .ref (z51 5), .ref (z51 6), .ref (z51 7), .ref (z51 8), .ref (z51 9)])), ((z51 1), .inl (g.2.1.1, 10, .inl (fun _ => 0))), ((z51 6), .inl (g.2.1.1, 9, .inl (fun _ => 0))), ((z51 7), .inl (g.2.1.1, 9, .inl (fun _ => 0))), (q52, .inr (4, [.int 0, .int 0, .int 0, .int 0, .int 0, .int 0, .null, .null, .null, .null, .null, .null, .null, .null, .null, .null]))] H := hP
  have hD : va_D A [(h0, .inr (8, [.ref q1, .ref q4, .ref q6, .ref q17, .ref q28, .ref q30, .ref q33, .ref q38, .ref q39, .null, .int 0, .int 0, .int 0, .int 0])), (q1, .inr (7, [.ref u3, .int 0])), (u3, .inl (g.2.1.2.1, 1200, .inl (fun _ => 0))), (q4, .inr (6, [.ref q1, .null, .int 0, .int 0, .int 0, .int 0, .int (-1)])), (q6, .inr (5, [.ref (z16 0), .ref (z16 1), .ref (z16 2), .ref (z16 3), .ref (z16 4), .ref (z16 5), .ref (z16 6), .ref (z16 7)])), (q17, .inr (3, [.ref (z27 0), .ref (z27 1), .ref (z27 2), .ref (z27 3), .ref (z27 4), .ref (z27 5), .ref (z27 6), .ref (z27 7), .int 0, .int 0, .int 0, .int 0, .int 0])), (q28, .inr (2, [.null, .int 0, .int 0])), (q30, .inr (0, [.ref u32, .int 0, .int 0])), (u32, .inl (g.2.1.1, 240, .inl (fun _ => 0))), (q33, .inr (1, [.ref u35, .ref u36, .int 0])), (u35, .inl (g.2.1.1, 8, .inl (fun _ => 0))), (u36, .inl (g.2.1.1, 8, .inl (fun _ => 0))), (q38, .inl (g.2.1.1, 6, .inl (fun _ => 0))), (q39, .inr (4, [.int 0, .int 0, .int 0, .int 0, .int 0, .int 0, .ref (z51 0), .ref (z51 1), .ref (z51 2), .ref (z51 3), .ref (z51 4), .ref (z51 5), .ref (z51 6), .ref (z51 7), .ref (z51 8), .ref (z51 9)])), ((z51 1), .inl (g.2.1.1, 10, .inl (fun _ => 0))), ((z51 6), .inl (g.2.1.1, 9, .inl (fun _ => 0))), ((z51 7), .inl (g.2.1.1, 9, .inl (fun _ => 0))), (q52, .inr (4, [.int 0, .int 0, .int 0, .int 0, .int 0, .int 0, .null, .null, .null, .null, .null, .null, .null, .null, .null, .null]))] := hD
  refine lv_dup hx hb dX8_init_108 rfl ?_
  refine zfv (wr := [(h0, .inr (8, [.ref q1, .ref q4, .ref q6, .ref q17, .ref q28, .ref q30, .ref q33, .ref q38, .ref q39, .null, .int 0, .int 0, .int 0, .int 0])), (q1, .inr (7, [.ref u3, .int 0])), (u3, .inl (g.2.1.2.1, 1200, .inl (fun _ => 0))), (q4, .inr (6, [.ref q1, .null, .int 0, .int 0, .int 0, .int 0, .int (-1)])), (q6, .inr (5, [.ref (z16 0), .ref (z16 1), .ref (z16 2), .ref (z16 3), .ref (z16 4), .ref (z16 5), .ref (z16 6), .ref (z16 7)])), (q17, .inr (3, [.ref (z27 0), .ref (z27 1), .ref (z27 2), .ref (z27 3), .ref (z27 4), .ref (z27 5), .ref (z27 6), .ref (z27 7), .int 0, .int 0, .int 0, .int 0, .int 0])), (q28, .inr (2, [.null, .int 0, .int 0])), (q30, .inr (0, [.ref u32, .int 0, .int 0])), (u32, .inl (g.2.1.1, 240, .inl (fun _ => 0))), (q33, .inr (1, [.ref u35, .ref u36, .int 0])), (u35, .inl (g.2.1.1, 8, .inl (fun _ => 0))), (u36, .inl (g.2.1.1, 8, .inl (fun _ => 0))), (q38, .inl (g.2.1.1, 6, .inl (fun _ => 0))), (q39, .inr (4, [.int 0, .int 0, .int 0, .int 0, .int 0, .int 0, .ref (z51 0), .ref (z51 1), .ref (z51 2), .ref (z51 3), .ref (z51 4), .ref (z51 5), .ref (z51 6), .ref (z51 7), .ref (z51 8), .ref (z51 9)])), ((z51 1), .inl (g.2.1.1, 10, .inl (fun _ => 0))), ((z51 6), .inl (g.2.1.1, 9, .inl (fun _ => 0))), ((z51 7), .inl (g.2.1.1, 9, .inl (fun _ => 0)))]) (va_runIN (As := []) (rest := [.ref q52, .ref h0]) ⟨hx, hb, hml, hown, hG⟩ (kX4_init l g q52 _) ⟨va_cnB 0 hG (zGood g407) rfl rfl rfl (hX.2.1.ml g405) (hG _ g210) hX4_init ⟨Nat.le_of_ble_eq_true rfl, Nat.le_of_ble_eq_true rfl⟩, rfl, hG _ g406⟩ (zpreS hX hP hD hS hA [17] rfl (by decide)) rfl rfl hl.1 rfl (lv_room (Nat.le_of_ble_eq_true rfl)) dX8_init_109 ⟨Nat.le_of_ble_eq_true rfl, Nat.le_of_ble_eq_true rfl⟩) hP hD hS hA [17] [0, 1, 2, 3, 4, 5, 6, 7, 8, 9, 10, 11, 12, 13, 14, 15, 16] rfl rfl (by decide) (by decide) (fun z64 H locs hp hP hD hS => ?_)
  refine W.cs (cells' := 50) (slots' := 7027) rfl rfl ?_
  have hP : va_P g.1 vwCl [(h0, .inr (8, [.ref q1, .ref q4, .ref q6, .ref q17, .ref q28, .ref q30, .ref q33, .ref q38, .ref q39, .null, .int 0, .int 0, .int 0, .int 0])), (q1, .inr (7, [.ref u3, .int 0])), (u3, .inl (g.2.1.2.1, 1200, .inl (fun _ => 0))), (q4, .inr (6, [.ref q1, .null, .int 0, .int 0, .int 0, .int 0, .int (-1)])), (q6, .inr (5, [.ref (z16 0), .ref (z16 1), .ref (z16 2), .ref (z16 3), .ref (z16 4), .ref (z16 5), .ref (z16 6), .ref (z16 7)])), (q17, .inr (3, [.ref (z27 0), .ref (z27 1), .ref (z27 2), .ref (z27 3), .ref (z27 4), .ref (z27 5), .ref (z27 6), .ref (z27 7), .int 0, .int 0, .int 0, .int 0, .int 0])), (q28, .inr (2, [.null, .int 0, .int 0])), (q30, .inr (0, [.ref u32, .int 0, .int 0])), (u32, .inl (g.2.1.1, 240, .inl (fun _ => 0))), (q33, .inr (1, [.ref u35, .ref u36, .int 0])), (u35, .inl (g.2.1.1, 8, .inl (fun _ => 0))), (u36, .inl (g.2.1.1, 8, .inl (fun _ => 0))), (q38, .inl (g.2.1.1, 6, .inl (fun _ => 0))), (q39, .inr (4, [.int 0, .int 0, .int 0, .int 0, .int 0, .int 0, .ref (z51 0), .ref (z51 1), .ref (z51 2), .ref (z51 3), .ref (z51 4), .ref (z51 5), .ref (z51 6), .ref (z51 7), .ref (z51 8), .ref (z51 9)])), ((z51 1), .inl (g.2.1.1, 10, .inl (fun _ => 0))), ((z51 6), .inl (g.2.1.1, 9, .inl (fun _ => 0))), ((z51 7), .inl (g.2.1.1, 9, .inl (fun _ => 0))), (q52, .inr (4, [.int 0, .int 0, .int 0, .int 0, .int 0, .int 0, .ref (z64 0), .ref (z64 1), .ref (z64 2), .ref (z64 3), .ref (z64 4), .ref (z64 5), .ref (z64 6), .ref (z64 7), .ref (z64 8), .ref (z64 9)])), ((z64 1), .inl (g.2.1.1, 10, .inl (fun _ => 0))), ((z64 6), .inl (g.2.1.1, 9, .inl (fun _ => 0))), ((z64 7), .inl (g.2.1.1, 9, .inl (fun _ => 0)))] H := hP
  have hD : va_D A [(h0, .inr (8, [.ref q1, .ref q4, .ref q6, .ref q17, .ref q28, .ref q30, .ref q33, .ref q38, .ref q39, .null, .int 0, .int 0, .int 0, .int 0])), (q1, .inr (7, [.ref u3, .int 0])), (u3, .inl (g.2.1.2.1, 1200, .inl (fun _ => 0))), (q4, .inr (6, [.ref q1, .null, .int 0, .int 0, .int 0, .int 0, .int (-1)])), (q6, .inr (5, [.ref (z16 0), .ref (z16 1), .ref (z16 2), .ref (z16 3), .ref (z16 4), .ref (z16 5), .ref (z16 6), .ref (z16 7)])), (q17, .inr (3, [.ref (z27 0), .ref (z27 1), .ref (z27 2), .ref (z27 3), .ref (z27 4), .ref (z27 5), .ref (z27 6), .ref (z27 7), .int 0, .int 0, .int 0, .int 0, .int 0])), (q28, .inr (2, [.null, .int 0, .int 0])), (q30, .inr (0, [.ref u32, .int 0, .int 0])), (u32, .inl (g.2.1.1, 240, .inl (fun _ => 0))), (q33, .inr (1, [.ref u35, .ref u36, .int 0])), (u35, .inl (g.2.1.1, 8, .inl (fun _ => 0))), (u36, .inl (g.2.1.1, 8, .inl (fun _ => 0))), (q38, .inl (g.2.1.1, 6, .inl (fun _ => 0))), (q39, .inr (4, [.int 0, .int 0, .int 0, .int 0, .int 0, .int 0, .ref (z51 0), .ref (z51 1), .ref (z51 2), .ref (z51 3), .ref (z51 4), .ref (z51 5), .ref (z51 6), .ref (z51 7), .ref (z51 8), .ref (z51 9)])), ((z51 1), .inl (g.2.1.1, 10, .inl (fun _ => 0))), ((z51 6), .inl (g.2.1.1, 9, .inl (fun _ => 0))), ((z51 7), .inl (g.2.1.1, 9, .inl (fun _ => 0))), (q52, .inr (4, [.int 0, .int 0, .int 0, .int 0, .int 0, .int 0, .ref (z64 0), .ref (z64 1), .ref (z64 2), .ref (z64 3), .ref (z64 4), .ref (z64 5), .ref (z64 6), .ref (z64 7), .ref (z64 8), .ref (z64 9)])), ((z64 1), .inl (g.2.1.1, 10, .inl (fun _ => 0))), ((z64 6), .inl (g.2.1.1, 9, .inl (fun _ => 0))), ((z64 7), .inl (g.2.1.1, 9, .inl (fun _ => 0)))] := hD
  refine va_put (D := g.1) (ci := 8) (v := .ref q52) (ty := (.object "SheetFolds$Part")) (C := RX8) (T := TX8) (N := 14) hx hb hG iX8 tyX8 tyX8_ok nmX8 hown hX.1 hP hD hS 0 rfl rfl 9 (by decide) (hG _ g516) (fun _ h9 => h9) rfl (by decide +kernel) rfl rfl (Nat.le_of_ble_eq_true rfl) dX8_init_112 (fun H locs hP hD hS => ?_)
  have hP : va_P g.1 vwCl [(h0, .inr (8, [.ref q1, .ref q4, .ref q6, .ref q17, .ref q28, .ref q30, .ref q33, .ref q38, .ref q39, .ref q52, .int 0, .int 0, .int 0, .int 0])), (q1, .inr (7, [.ref u3, .int 0])), (u3, .inl (g.2.1.2.1, 1200, .inl (fun _ => 0))), (q4, .inr (6, [.ref q1, .null, .int 0, .int 0, .int 0, .int 0, .int (-1)])), (q6, .inr (5, [.ref (z16 0), .ref (z16 1), .ref (z16 2), .ref (z16 3), .ref (z16 4), .ref (z16 5), .ref (z16 6), .ref (z16 7)])), (q17, .inr (3, [.ref (z27 0), .ref (z27 1), .ref (z27 2), .ref (z27 3), .ref (z27 4), .ref (z27 5), .ref (z27 6), .ref (z27 7), .int 0, .int 0, .int 0, .int 0, .int 0])), (q28, .inr (2, [.null, .int 0, .int 0])), (q30, .inr (0, [.ref u32, .int 0, .int 0])), (u32, .inl (g.2.1.1, 240, .inl (fun _ => 0))), (q33, .inr (1, [.ref u35, .ref u36, .int 0])), (u35, .inl (g.2.1.1, 8, .inl (fun _ => 0))), (u36, .inl (g.2.1.1, 8, .inl (fun _ => 0))), (q38, .inl (g.2.1.1, 6, .inl (fun _ => 0))), (q39, .inr (4, [.int 0, .int 0, .int 0, .int 0, .int 0, .int 0, .ref (z51 0), .ref (z51 1), .ref (z51 2), .ref (z51 3), .ref (z51 4), .ref (z51 5), .ref (z51 6), .ref (z51 7), .ref (z51 8), .ref (z51 9)])), ((z51 1), .inl (g.2.1.1, 10, .inl (fun _ => 0))), ((z51 6), .inl (g.2.1.1, 9, .inl (fun _ => 0))), ((z51 7), .inl (g.2.1.1, 9, .inl (fun _ => 0))), (q52, .inr (4, [.int 0, .int 0, .int 0, .int 0, .int 0, .int 0, .ref (z64 0), .ref (z64 1), .ref (z64 2), .ref (z64 3), .ref (z64 4), .ref (z64 5), .ref (z64 6), .ref (z64 7), .ref (z64 8), .ref (z64 9)])), ((z64 1), .inl (g.2.1.1, 10, .inl (fun _ => 0))), ((z64 6), .inl (g.2.1.1, 9, .inl (fun _ => 0))), ((z64 7), .inl (g.2.1.1, 9, .inl (fun _ => 0)))] H := hP
  have hD : va_D A [(h0, .inr (8, [.ref q1, .ref q4, .ref q6, .ref q17, .ref q28, .ref q30, .ref q33, .ref q38, .ref q39, .ref q52, .int 0, .int 0, .int 0, .int 0])), (q1, .inr (7, [.ref u3, .int 0])), (u3, .inl (g.2.1.2.1, 1200, .inl (fun _ => 0))), (q4, .inr (6, [.ref q1, .null, .int 0, .int 0, .int 0, .int 0, .int (-1)])), (q6, .inr (5, [.ref (z16 0), .ref (z16 1), .ref (z16 2), .ref (z16 3), .ref (z16 4), .ref (z16 5), .ref (z16 6), .ref (z16 7)])), (q17, .inr (3, [.ref (z27 0), .ref (z27 1), .ref (z27 2), .ref (z27 3), .ref (z27 4), .ref (z27 5), .ref (z27 6), .ref (z27 7), .int 0, .int 0, .int 0, .int 0, .int 0])), (q28, .inr (2, [.null, .int 0, .int 0])), (q30, .inr (0, [.ref u32, .int 0, .int 0])), (u32, .inl (g.2.1.1, 240, .inl (fun _ => 0))), (q33, .inr (1, [.ref u35, .ref u36, .int 0])), (u35, .inl (g.2.1.1, 8, .inl (fun _ => 0))), (u36, .inl (g.2.1.1, 8, .inl (fun _ => 0))), (q38, .inl (g.2.1.1, 6, .inl (fun _ => 0))), (q39, .inr (4, [.int 0, .int 0, .int 0, .int 0, .int 0, .int 0, .ref (z51 0), .ref (z51 1), .ref (z51 2), .ref (z51 3), .ref (z51 4), .ref (z51 5), .ref (z51 6), .ref (z51 7), .ref (z51 8), .ref (z51 9)])), ((z51 1), .inl (g.2.1.1, 10, .inl (fun _ => 0))), ((z51 6), .inl (g.2.1.1, 9, .inl (fun _ => 0))), ((z51 7), .inl (g.2.1.1, 9, .inl (fun _ => 0))), (q52, .inr (4, [.int 0, .int 0, .int 0, .int 0, .int 0, .int 0, .ref (z64 0), .ref (z64 1), .ref (z64 2), .ref (z64 3), .ref (z64 4), .ref (z64 5), .ref (z64 6), .ref (z64 7), .ref (z64 8), .ref (z64 9)])), ((z64 1), .inl (g.2.1.1, 10, .inl (fun _ => 0))), ((z64 6), .inl (g.2.1.1, 9, .inl (fun _ => 0))), ((z64 7), .inl (g.2.1.1, 9, .inl (fun _ => 0)))] := hD
  refine lv_aload_n hx hb dX8_init_115 rfl (lv_at hl 0 rfl) ?_
  refine lv_iconst (v := 1) hx hb dX8_init_116 (by decide) ?_
  refine va_put (D := g.1) (ci := 8) (v := .int 1) (ty := .int) (C := RX8) (T := TX8) (N := 14) hx hb hG iX8 tyX8 tyX8_ok nmX8 hown hX.1 hP hD hS 0 rfl rfl 11 (by decide) (hG _ g518) (fun _ h9 => h9) rfl (by decide +kernel) rfl rfl (Nat.le_of_ble_eq_true rfl) dX8_init_117 (fun H locs hP hD hS => ?_)
  have hP : va_P g.1 vwCl [(h0, .inr (8, [.ref q1, .ref q4, .ref q6, .ref q17, .ref q28, .ref q30, .ref q33, .ref q38, .ref q39, .ref q52, .int 0, .int 1, .int 0, .int 0])), (q1, .inr (7, [.ref u3, .int 0])), (u3, .inl (g.2.1.2.1, 1200, .inl (fun _ => 0))), (q4, .inr (6, [.ref q1, .null, .int 0, .int 0, .int 0, .int 0, .int (-1)])), (q6, .inr (5, [.ref (z16 0), .ref (z16 1), .ref (z16 2), .ref (z16 3), .ref (z16 4), .ref (z16 5), .ref (z16 6), .ref (z16 7)])), (q17, .inr (3, [.ref (z27 0), .ref (z27 1), .ref (z27 2), .ref (z27 3), .ref (z27 4), .ref (z27 5), .ref (z27 6), .ref (z27 7), .int 0, .int 0, .int 0, .int 0, .int 0])), (q28, .inr (2, [.null, .int 0, .int 0])), (q30, .inr (0, [.ref u32, .int 0, .int 0])), (u32, .inl (g.2.1.1, 240, .inl (fun _ => 0))), (q33, .inr (1, [.ref u35, .ref u36, .int 0])), (u35, .inl (g.2.1.1, 8, .inl (fun _ => 0))), (u36, .inl (g.2.1.1, 8, .inl (fun _ => 0))), (q38, .inl (g.2.1.1, 6, .inl (fun _ => 0))), (q39, .inr (4, [.int 0, .int 0, .int 0, .int 0, .int 0, .int 0, .ref (z51 0), .ref (z51 1), .ref (z51 2), .ref (z51 3), .ref (z51 4), .ref (z51 5), .ref (z51 6), .ref (z51 7), .ref (z51 8), .ref (z51 9)])), ((z51 1), .inl (g.2.1.1, 10, .inl (fun _ => 0))), ((z51 6), .inl (g.2.1.1, 9, .inl (fun _ => 0))), ((z51 7), .inl (g.2.1.1, 9, .inl (fun _ => 0))), (q52, .inr (4, [.int 0, .int 0, .int 0, .int 0, .int 0, .int 0, .ref (z64 0), .ref (z64 1), .ref (z64 2), .ref (z64 3), .ref (z64 4), .ref (z64 5), .ref (z64 6), .ref (z64 7), .ref (z64 8), .ref (z64 9)])), ((z64 1), .inl (g.2.1.1, 10, .inl (fun _ => 0))), ((z64 6), .inl (g.2.1.1, 9, .inl (fun _ => 0))), ((z64 7), .inl (g.2.1.1, 9, .inl (fun _ => 0)))] H := hP
  have hD : va_D A [(h0, .inr (8, [.ref q1, .ref q4, .ref q6, .ref q17, .ref q28, .ref q30, .ref q33, .ref q38, .ref q39, .ref q52, .int 0, .int 1, .int 0, .int 0])), (q1, .inr (7, [.ref u3, .int 0])), (u3, .inl (g.2.1.2.1, 1200, .inl (fun _ => 0))), (q4, .inr (6, [.ref q1, .null, .int 0, .int 0, .int 0, .int 0, .int (-1)])), (q6, .inr (5, [.ref (z16 0), .ref (z16 1), .ref (z16 2), .ref (z16 3), .ref (z16 4), .ref (z16 5), .ref (z16 6), .ref (z16 7)])), (q17, .inr (3, [.ref (z27 0), .ref (z27 1), .ref (z27 2), .ref (z27 3), .ref (z27 4), .ref (z27 5), .ref (z27 6), .ref (z27 7), .int 0, .int 0, .int 0, .int 0, .int 0])), (q28, .inr (2, [.null, .int 0, .int 0])), (q30, .inr (0, [.ref u32, .int 0, .int 0])), (u32, .inl (g.2.1.1, 240, .inl (fun _ => 0))), (q33, .inr (1, [.ref u35, .ref u36, .int 0])), (u35, .inl (g.2.1.1, 8, .inl (fun _ => 0))), (u36, .inl (g.2.1.1, 8, .inl (fun _ => 0))), (q38, .inl (g.2.1.1, 6, .inl (fun _ => 0))), (q39, .inr (4, [.int 0, .int 0, .int 0, .int 0, .int 0, .int 0, .ref (z51 0), .ref (z51 1), .ref (z51 2), .ref (z51 3), .ref (z51 4), .ref (z51 5), .ref (z51 6), .ref (z51 7), .ref (z51 8), .ref (z51 9)])), ((z51 1), .inl (g.2.1.1, 10, .inl (fun _ => 0))), ((z51 6), .inl (g.2.1.1, 9, .inl (fun _ => 0))), ((z51 7), .inl (g.2.1.1, 9, .inl (fun _ => 0))), (q52, .inr (4, [.int 0, .int 0, .int 0, .int 0, .int 0, .int 0, .ref (z64 0), .ref (z64 1), .ref (z64 2), .ref (z64 3), .ref (z64 4), .ref (z64 5), .ref (z64 6), .ref (z64 7), .ref (z64 8), .ref (z64 9)])), ((z64 1), .inl (g.2.1.1, 10, .inl (fun _ => 0))), ((z64 6), .inl (g.2.1.1, 9, .inl (fun _ => 0))), ((z64 7), .inl (g.2.1.1, 9, .inl (fun _ => 0)))] := hD
  exact zrv (rm := { frames := 2, cells := 50, slots := 7027, locals := 33 }) (fun k9 => [q1, q4, q6, q17, q28, q30, q33, q38, q39, q52, u3, u35, u36, u32, (z51 0), (z51 1), (z51 2), (z51 3), (z51 4), (z51 5), (z51 6), (z51 7), (z51 8), (z51 9), (z64 0), (z64 1), (z64 2), (z64 3), (z64 4), (z64 5), (z64 6), (z64 7), (z64 8), (z64 9)].getD k9 0) hx hb hr hlocks (Nat.le_of_ble_eq_true rfl) (Nat.le_of_ble_eq_true rfl) (trivial) (hP.sub [0, 1, 2, 3, 9, 7, 12, 13, 17, 18, 19, 20] rfl) (hD.sub [0, 1, 2, 3, 9, 7, 12, 13, 17, 18, 19, 20] (by decide) rfl) hS dX8_init_120
theorem dJ7_fill_53178_0 : decode cJ7_fill_53178 0 = .ok (.iconst 0, 1) := by decide +kernel
theorem dJ7_fill_53178_1 : decode cJ7_fill_53178 1 = .ok (.istore_n 2, 1) := by decide +kernel
theorem dJ7_fill_53178_2 : decode cJ7_fill_53178 2 = .ok (.aload_n 0, 1) := by decide +kernel
theorem dJ7_fill_53178_3 : decode cJ7_fill_53178 3 = .ok (.arraylength, 1) := by decide +kernel
theorem dJ7_fill_53178_4 : decode cJ7_fill_53178 4 = .ok (.istore_n 3, 1) := by decide +kernel
theorem dJ7_fill_53178_5 : decode cJ7_fill_53178 5 = .ok (.iload_n 2, 1) := by decide +kernel
theorem dJ7_fill_53178_6 : decode cJ7_fill_53178 6 = .ok (.iload_n 3, 1) := by decide +kernel
theorem dJ7_fill_53178_7 : decode cJ7_fill_53178 7 = .ok (.if_icmp .ge 13, 3) := by decide +kernel
theorem dJ7_fill_53178_10 : decode cJ7_fill_53178 10 = .ok (.aload_n 0, 1) := by decide +kernel
theorem dJ7_fill_53178_11 : decode cJ7_fill_53178 11 = .ok (.iload_n 2, 1) := by decide +kernel
theorem dJ7_fill_53178_12 : decode cJ7_fill_53178 12 = .ok (.iload_n 1, 1) := by decide +kernel
theorem dJ7_fill_53178_13 : decode cJ7_fill_53178 13 = .ok (.iastore, 1) := by decide +kernel
theorem dJ7_fill_53178_14 : decode cJ7_fill_53178 14 = .ok (.iinc 2 1, 3) := by decide +kernel
theorem dJ7_fill_53178_17 : decode cJ7_fill_53178 17 = .ok (.goto (-12), 3) := by decide +kernel
theorem dJ7_fill_53178_20 : decode cJ7_fill_53178 20 = .ok (.return_, 1) := by decide +kernel
set_option maxHeartbeats 4000000 in
set_option maxRecDepth 100000 in
theorem kJ7_fill_53178 (l : Launch) (g : zL) (ra : Nat) (x : Int32) (f : Nat → Int32) : zCv l g yJ7_fill_53178 cJ7_fill_53178 4 none { frames := 0, cells := 0, slots := 0, locals := 0 } [.ref ra, .int x] [(ra, .inl (g.2.1.1, 10, .inl f))] (fun (u : (Nat → Int32)) => True) (fun (u : (Nat → Int32)) => [(ra, .inl (g.2.1.1, 10, .inl u))]) := by
  refine zCv.mk (by decide) (Nat.le_of_ble_eq_true rfl) ?_
  intro p e s m below meth c A hE hP hD hS ls hl
  obtain ⟨hx, hb, hr, hml, hown, hG, hlocks, hnm, hX, hA⟩ := hE
  have hown : s.vm.findClass RJ7 = some m.cls := hown
  have hl : lv_has ls 4 [(0, .ref ra), (1, .int x)] := hl
  refine lv_iconst (v := 0) hx hb dJ7_fill_53178_0 (by decide) ?_
  refine lv_istore_n (lv' := [(2, .int 0), (0, .ref ra), (1, .int x)]) hx hb dJ7_fill_53178_1 rfl hl (by decide) rfl (fun ls hl => ?_)
  refine lv_aload_n hx hb dJ7_fill_53178_2 rfl (lv_at hl 1 rfl) ?_
  refine va_alen (v := 10) hx hb hX.1 hP 0 0 rfl rfl rfl dJ7_fill_53178_3 ?_
  refine lv_istore_n (lv' := [(3, .int 10), (2, .int 0), (0, .ref ra), (1, .int x)]) hx hb dJ7_fill_53178_4 rfl hl (by decide) rfl (fun ls hl => ?_)
  refine lv_iload_n hx hb dJ7_fill_53178_5 rfl (lv_at hl 1 rfl) ?_
  refine lv_iload_n hx hb dJ7_fill_53178_6 rfl (lv_at hl 0 rfl) ?_
  refine lv_icmp_ge (tgt := 20) hx hb dJ7_fill_53178_7 (by decide) (fun c7 => absurd c7 (by decide)) (fun c7 => ?_)
  refine lv_aload_n hx hb dJ7_fill_53178_10 rfl (lv_at hl 2 rfl) ?_
  refine lv_iload_n hx hb dJ7_fill_53178_11 rfl (lv_at hl 1 rfl) ?_
  refine lv_iload_n hx hb dJ7_fill_53178_12 rfl (lv_at hl 3 rfl) ?_
  refine va_iast hx hb hX.1 hP hD hS 0 0 rfl rfl (vp_in_iff.mpr (by decide)) dJ7_fill_53178_13 (fun H locs hP hD hS => ?_)
  obtain ⟨f1, ef1⟩ : ∃ z : Nat → Int32, z = upd f (0 : Int32).toNatClampNeg x := ⟨_, rfl⟩
  rw [← ef1] at hP hD
  have hP : va_P g.1 vwCl [(ra, .inl (g.2.1.1, 10, .inl f1))] H := hP
  have hD : va_D A [(ra, .inl (g.2.1.1, 10, .inl f1))] := hD
  refine lv_iinc (v := 1) (lv' := [(2, .int 1), (3, .int 10), (0, .ref ra), (1, .int x)]) hx hb dJ7_fill_53178_14 hl (k := 1) rfl (by decide) (by decide) rfl (fun ls hl => ?_)
  refine lv_goto (tgt := 5) hx hb dJ7_fill_53178_17 (by decide) ?_
  refine lv_iload_n hx hb dJ7_fill_53178_5 rfl (lv_at hl 0 rfl) ?_
  refine lv_iload_n hx hb dJ7_fill_53178_6 rfl (lv_at hl 1 rfl) ?_
  refine lv_icmp_ge (tgt := 20) hx hb dJ7_fill_53178_7 (by decide) (fun c7 => absurd c7 (by decide)) (fun c7 => ?_)
  refine lv_aload_n hx hb dJ7_fill_53178_10 rfl (lv_at hl 2 rfl) ?_
  refine lv_iload_n hx hb dJ7_fill_53178_11 rfl (lv_at hl 0 rfl) ?_
  refine lv_iload_n hx hb dJ7_fill_53178_12 rfl (lv_at hl 3 rfl) ?_
  refine va_iast hx hb hX.1 hP hD hS 0 0 rfl rfl (vp_in_iff.mpr (by decide)) dJ7_fill_53178_13 (fun H locs hP hD hS => ?_)
  obtain ⟨f2, ef2⟩ : ∃ z : Nat → Int32, z = upd f1 (1 : Int32).toNatClampNeg x := ⟨_, rfl⟩
  rw [← ef2] at hP hD
  have hP : va_P g.1 vwCl [(ra, .inl (g.2.1.1, 10, .inl f2))] H := hP
  have hD : va_D A [(ra, .inl (g.2.1.1, 10, .inl f2))] := hD
  refine lv_iinc (v := 2) (lv' := [(2, .int 2), (3, .int 10), (0, .ref ra), (1, .int x)]) hx hb dJ7_fill_53178_14 hl (k := 0) rfl (by decide) (by decide) rfl (fun ls hl => ?_)
  refine lv_goto (tgt := 5) hx hb dJ7_fill_53178_17 (by decide) ?_
  refine lv_iload_n hx hb dJ7_fill_53178_5 rfl (lv_at hl 0 rfl) ?_
  refine lv_iload_n hx hb dJ7_fill_53178_6 rfl (lv_at hl 1 rfl) ?_
  refine lv_icmp_ge (tgt := 20) hx hb dJ7_fill_53178_7 (by decide) (fun c7 => absurd c7 (by decide)) (fun c7 => ?_)
  refine lv_aload_n hx hb dJ7_fill_53178_10 rfl (lv_at hl 2 rfl) ?_
  refine lv_iload_n hx hb dJ7_fill_53178_11 rfl (lv_at hl 0 rfl) ?_
  refine lv_iload_n hx hb dJ7_fill_53178_12 rfl (lv_at hl 3 rfl) ?_
  refine va_iast hx hb hX.1 hP hD hS 0 0 rfl rfl (vp_in_iff.mpr (by decide)) dJ7_fill_53178_13 (fun H locs hP hD hS => ?_)
  obtain ⟨f3, ef3⟩ : ∃ z : Nat → Int32, z = upd f2 (2 : Int32).toNatClampNeg x := ⟨_, rfl⟩
  rw [← ef3] at hP hD
  have hP : va_P g.1 vwCl [(ra, .inl (g.2.1.1, 10, .inl f3))] H := hP
  have hD : va_D A [(ra, .inl (g.2.1.1, 10, .inl f3))] := hD
  refine lv_iinc (v := 3) (lv' := [(2, .int 3), (3, .int 10), (0, .ref ra), (1, .int x)]) hx hb dJ7_fill_53178_14 hl (k := 0) rfl (by decide) (by decide) rfl (fun ls hl => ?_)
  refine lv_goto (tgt := 5) hx hb dJ7_fill_53178_17 (by decide) ?_
  refine lv_iload_n hx hb dJ7_fill_53178_5 rfl (lv_at hl 0 rfl) ?_
  refine lv_iload_n hx hb dJ7_fill_53178_6 rfl (lv_at hl 1 rfl) ?_
  refine lv_icmp_ge (tgt := 20) hx hb dJ7_fill_53178_7 (by decide) (fun c7 => absurd c7 (by decide)) (fun c7 => ?_)
  refine lv_aload_n hx hb dJ7_fill_53178_10 rfl (lv_at hl 2 rfl) ?_
  refine lv_iload_n hx hb dJ7_fill_53178_11 rfl (lv_at hl 0 rfl) ?_
  refine lv_iload_n hx hb dJ7_fill_53178_12 rfl (lv_at hl 3 rfl) ?_
  refine va_iast hx hb hX.1 hP hD hS 0 0 rfl rfl (vp_in_iff.mpr (by decide)) dJ7_fill_53178_13 (fun H locs hP hD hS => ?_)
  obtain ⟨f4, ef4⟩ : ∃ z : Nat → Int32, z = upd f3 (3 : Int32).toNatClampNeg x := ⟨_, rfl⟩
  rw [← ef4] at hP hD
  have hP : va_P g.1 vwCl [(ra, .inl (g.2.1.1, 10, .inl f4))] H := hP
  have hD : va_D A [(ra, .inl (g.2.1.1, 10, .inl f4))] := hD
  refine lv_iinc (v := 4) (lv' := [(2, .int 4), (3, .int 10), (0, .ref ra), (1, .int x)]) hx hb dJ7_fill_53178_14 hl (k := 0) rfl (by decide) (by decide) rfl (fun ls hl => ?_)
  refine lv_goto (tgt := 5) hx hb dJ7_fill_53178_17 (by decide) ?_
  refine lv_iload_n hx hb dJ7_fill_53178_5 rfl (lv_at hl 0 rfl) ?_
  refine lv_iload_n hx hb dJ7_fill_53178_6 rfl (lv_at hl 1 rfl) ?_
  refine lv_icmp_ge (tgt := 20) hx hb dJ7_fill_53178_7 (by decide) (fun c7 => absurd c7 (by decide)) (fun c7 => ?_)
  refine lv_aload_n hx hb dJ7_fill_53178_10 rfl (lv_at hl 2 rfl) ?_
  refine lv_iload_n hx hb dJ7_fill_53178_11 rfl (lv_at hl 0 rfl) ?_
  refine lv_iload_n hx hb dJ7_fill_53178_12 rfl (lv_at hl 3 rfl) ?_
  refine va_iast hx hb hX.1 hP hD hS 0 0 rfl rfl (vp_in_iff.mpr (by decide)) dJ7_fill_53178_13 (fun H locs hP hD hS => ?_)
  obtain ⟨f5, ef5⟩ : ∃ z : Nat → Int32, z = upd f4 (4 : Int32).toNatClampNeg x := ⟨_, rfl⟩
  rw [← ef5] at hP hD
  have hP : va_P g.1 vwCl [(ra, .inl (g.2.1.1, 10, .inl f5))] H := hP
  have hD : va_D A [(ra, .inl (g.2.1.1, 10, .inl f5))] := hD
  refine lv_iinc (v := 5) (lv' := [(2, .int 5), (3, .int 10), (0, .ref ra), (1, .int x)]) hx hb dJ7_fill_53178_14 hl (k := 0) rfl (by decide) (by decide) rfl (fun ls hl => ?_)
  refine lv_goto (tgt := 5) hx hb dJ7_fill_53178_17 (by decide) ?_
  refine lv_iload_n hx hb dJ7_fill_53178_5 rfl (lv_at hl 0 rfl) ?_
  refine lv_iload_n hx hb dJ7_fill_53178_6 rfl (lv_at hl 1 rfl) ?_
  refine lv_icmp_ge (tgt := 20) hx hb dJ7_fill_53178_7 (by decide) (fun c7 => absurd c7 (by decide)) (fun c7 => ?_)
  refine lv_aload_n hx hb dJ7_fill_53178_10 rfl (lv_at hl 2 rfl) ?_
  refine lv_iload_n hx hb dJ7_fill_53178_11 rfl (lv_at hl 0 rfl) ?_
  refine lv_iload_n hx hb dJ7_fill_53178_12 rfl (lv_at hl 3 rfl) ?_
  refine va_iast hx hb hX.1 hP hD hS 0 0 rfl rfl (vp_in_iff.mpr (by decide)) dJ7_fill_53178_13 (fun H locs hP hD hS => ?_)
  obtain ⟨f6, ef6⟩ : ∃ z : Nat → Int32, z = upd f5 (5 : Int32).toNatClampNeg x := ⟨_, rfl⟩
  rw [← ef6] at hP hD
  have hP : va_P g.1 vwCl [(ra, .inl (g.2.1.1, 10, .inl f6))] H := hP
  have hD : va_D A [(ra, .inl (g.2.1.1, 10, .inl f6))] := hD
  refine lv_iinc (v := 6) (lv' := [(2, .int 6), (3, .int 10), (0, .ref ra), (1, .int x)]) hx hb dJ7_fill_53178_14 hl (k := 0) rfl (by decide) (by decide) rfl (fun ls hl => ?_)
  refine lv_goto (tgt := 5) hx hb dJ7_fill_53178_17 (by decide) ?_
  refine lv_iload_n hx hb dJ7_fill_53178_5 rfl (lv_at hl 0 rfl) ?_
  refine lv_iload_n hx hb dJ7_fill_53178_6 rfl (lv_at hl 1 rfl) ?_
  refine lv_icmp_ge (tgt := 20) hx hb dJ7_fill_53178_7 (by decide) (fun c7 => absurd c7 (by decide)) (fun c7 => ?_)
  refine lv_aload_n hx hb dJ7_fill_53178_10 rfl (lv_at hl 2 rfl) ?_
  refine lv_iload_n hx hb dJ7_fill_53178_11 rfl (lv_at hl 0 rfl) ?_
  refine lv_iload_n hx hb dJ7_fill_53178_12 rfl (lv_at hl 3 rfl) ?_
  refine va_iast hx hb hX.1 hP hD hS 0 0 rfl rfl (vp_in_iff.mpr (by decide)) dJ7_fill_53178_13 (fun H locs hP hD hS => ?_)
  obtain ⟨f7, ef7⟩ : ∃ z : Nat → Int32, z = upd f6 (6 : Int32).toNatClampNeg x := ⟨_, rfl⟩
  rw [← ef7] at hP hD
  have hP : va_P g.1 vwCl [(ra, .inl (g.2.1.1, 10, .inl f7))] H := hP
  have hD : va_D A [(ra, .inl (g.2.1.1, 10, .inl f7))] := hD
  refine lv_iinc (v := 7) (lv' := [(2, .int 7), (3, .int 10), (0, .ref ra), (1, .int x)]) hx hb dJ7_fill_53178_14 hl (k := 0) rfl (by decide) (by decide) rfl (fun ls hl => ?_)
  refine lv_goto (tgt := 5) hx hb dJ7_fill_53178_17 (by decide) ?_
  refine lv_iload_n hx hb dJ7_fill_53178_5 rfl (lv_at hl 0 rfl) ?_
  refine lv_iload_n hx hb dJ7_fill_53178_6 rfl (lv_at hl 1 rfl) ?_
  refine lv_icmp_ge (tgt := 20) hx hb dJ7_fill_53178_7 (by decide) (fun c7 => absurd c7 (by decide)) (fun c7 => ?_)
  refine lv_aload_n hx hb dJ7_fill_53178_10 rfl (lv_at hl 2 rfl) ?_
  refine lv_iload_n hx hb dJ7_fill_53178_11 rfl (lv_at hl 0 rfl) ?_
  refine lv_iload_n hx hb dJ7_fill_53178_12 rfl (lv_at hl 3 rfl) ?_
  refine va_iast hx hb hX.1 hP hD hS 0 0 rfl rfl (vp_in_iff.mpr (by decide)) dJ7_fill_53178_13 (fun H locs hP hD hS => ?_)
  obtain ⟨f8, ef8⟩ : ∃ z : Nat → Int32, z = upd f7 (7 : Int32).toNatClampNeg x := ⟨_, rfl⟩
  rw [← ef8] at hP hD
  have hP : va_P g.1 vwCl [(ra, .inl (g.2.1.1, 10, .inl f8))] H := hP
  have hD : va_D A [(ra, .inl (g.2.1.1, 10, .inl f8))] := hD
  refine lv_iinc (v := 8) (lv' := [(2, .int 8), (3, .int 10), (0, .ref ra), (1, .int x)]) hx hb dJ7_fill_53178_14 hl (k := 0) rfl (by decide) (by decide) rfl (fun ls hl => ?_)
  refine lv_goto (tgt := 5) hx hb dJ7_fill_53178_17 (by decide) ?_
  refine lv_iload_n hx hb dJ7_fill_53178_5 rfl (lv_at hl 0 rfl) ?_
  refine lv_iload_n hx hb dJ7_fill_53178_6 rfl (lv_at hl 1 rfl) ?_
  refine lv_icmp_ge (tgt := 20) hx hb dJ7_fill_53178_7 (by decide) (fun c7 => absurd c7 (by decide)) (fun c7 => ?_)
  refine lv_aload_n hx hb dJ7_fill_53178_10 rfl (lv_at hl 2 rfl) ?_
  refine lv_iload_n hx hb dJ7_fill_53178_11 rfl (lv_at hl 0 rfl) ?_
  refine lv_iload_n hx hb dJ7_fill_53178_12 rfl (lv_at hl 3 rfl) ?_
  refine va_iast hx hb hX.1 hP hD hS 0 0 rfl rfl (vp_in_iff.mpr (by decide)) dJ7_fill_53178_13 (fun H locs hP hD hS => ?_)
  obtain ⟨f9, ef9⟩ : ∃ z : Nat → Int32, z = upd f8 (8 : Int32).toNatClampNeg x := ⟨_, rfl⟩
  rw [← ef9] at hP hD
  have hP : va_P g.1 vwCl [(ra, .inl (g.2.1.1, 10, .inl f9))] H := hP
  have hD : va_D A [(ra, .inl (g.2.1.1, 10, .inl f9))] := hD
  refine lv_iinc (v := 9) (lv' := [(2, .int 9), (3, .int 10), (0, .ref ra), (1, .int x)]) hx hb dJ7_fill_53178_14 hl (k := 0) rfl (by decide) (by decide) rfl (fun ls hl => ?_)
  refine lv_goto (tgt := 5) hx hb dJ7_fill_53178_17 (by decide) ?_
  refine lv_iload_n hx hb dJ7_fill_53178_5 rfl (lv_at hl 0 rfl) ?_
  refine lv_iload_n hx hb dJ7_fill_53178_6 rfl (lv_at hl 1 rfl) ?_
  refine lv_icmp_ge (tgt := 20) hx hb dJ7_fill_53178_7 (by decide) (fun c7 => absurd c7 (by decide)) (fun c7 => ?_)
  refine lv_aload_n hx hb dJ7_fill_53178_10 rfl (lv_at hl 2 rfl) ?_
  refine lv_iload_n hx hb dJ7_fill_53178_11 rfl (lv_at hl 0 rfl) ?_
  refine lv_iload_n hx hb dJ7_fill_53178_12 rfl (lv_at hl 3 rfl) ?_
  refine va_iast hx hb hX.1 hP hD hS 0 0 rfl rfl (vp_in_iff.mpr (by decide)) dJ7_fill_53178_13 (fun H locs hP hD hS => ?_)
  obtain ⟨f10, ef10⟩ : ∃ z : Nat → Int32, z = upd f9 (9 : Int32).toNatClampNeg x := ⟨_, rfl⟩
  rw [← ef10] at hP hD
  have hP : va_P g.1 vwCl [(ra, .inl (g.2.1.1, 10, .inl f10))] H := hP
  have hD : va_D A [(ra, .inl (g.2.1.1, 10, .inl f10))] := hD
  refine lv_iinc (v := 10) (lv' := [(2, .int 10), (3, .int 10), (0, .ref ra), (1, .int x)]) hx hb dJ7_fill_53178_14 hl (k := 0) rfl (by decide) (by decide) rfl (fun ls hl => ?_)
  refine lv_goto (tgt := 5) hx hb dJ7_fill_53178_17 (by decide) ?_
  refine lv_iload_n hx hb dJ7_fill_53178_5 rfl (lv_at hl 0 rfl) ?_
  refine lv_iload_n hx hb dJ7_fill_53178_6 rfl (lv_at hl 1 rfl) ?_
  refine lv_icmp_ge (tgt := 20) hx hb dJ7_fill_53178_7 (by decide) (fun c7 => ?_) (fun c7 => (c7 (by decide)).elim)
  exact zrv (rm := { frames := 0, cells := 0, slots := 0, locals := 0 }) f10 hx hb hr hlocks (Nat.le_of_ble_eq_true rfl) (Nat.le_of_ble_eq_true rfl) (trivial) hP hD hS dJ7_fill_53178_20
theorem dX4_clear_0 : decode cX4_clear 0 = .ok (.aload_n 0, 1) := by decide +kernel
theorem dX4_clear_1 : decode cX4_clear 1 = .ok (.iconst 0, 1) := by decide +kernel
theorem dX4_clear_2 : decode cX4_clear 2 = .ok (.putfield 42, 3) := by decide +kernel
theorem dX4_clear_5 : decode cX4_clear 5 = .ok (.aload_n 0, 1) := by decide +kernel
theorem dX4_clear_6 : decode cX4_clear 6 = .ok (.iconst 0, 1) := by decide +kernel
theorem dX4_clear_7 : decode cX4_clear 7 = .ok (.putfield 46, 3) := by decide +kernel
theorem dX4_clear_10 : decode cX4_clear 10 = .ok (.aload_n 0, 1) := by decide +kernel
theorem dX4_clear_11 : decode cX4_clear 11 = .ok (.iconst 0, 1) := by decide +kernel
theorem dX4_clear_12 : decode cX4_clear 12 = .ok (.putfield 49, 3) := by decide +kernel
theorem dX4_clear_15 : decode cX4_clear 15 = .ok (.aload_n 0, 1) := by decide +kernel
theorem dX4_clear_16 : decode cX4_clear 16 = .ok (.iconst 0, 1) := by decide +kernel
theorem dX4_clear_17 : decode cX4_clear 17 = .ok (.putfield 52, 3) := by decide +kernel
theorem dX4_clear_20 : decode cX4_clear 20 = .ok (.aload_n 0, 1) := by decide +kernel
theorem dX4_clear_21 : decode cX4_clear 21 = .ok (.bipush 30, 2) := by decide +kernel
theorem dX4_clear_23 : decode cX4_clear 23 = .ok (.putfield 55, 3) := by decide +kernel
theorem dX4_clear_26 : decode cX4_clear 26 = .ok (.aload_n 0, 1) := by decide +kernel
theorem dX4_clear_27 : decode cX4_clear 27 = .ok (.getfield 15, 3) := by decide +kernel
theorem dX4_clear_30 : decode cX4_clear 30 = .ok (.iconst (-1), 1) := by decide +kernel
theorem dX4_clear_31 : decode cX4_clear 31 = .ok (.invokestatic 58, 3) := by decide +kernel
theorem dX4_clear_34 : decode cX4_clear 34 = .ok (.return_, 1) := by decide +kernel
set_option maxHeartbeats 4000000 in
set_option maxRecDepth 100000 in
theorem kX4_clear (l : Launch) (g : zL) (dr : Nat) (d_toolWidth : Nat) (d_told : Nat) (d_name : Nat) (d_parent : Nat) (d_side : Nat) (d_from : Nat) (d_width : Nat) (d_height : Nat) (d_radius : Nat) (d_toolSet : Nat) (f : Nat → Int32) : zCv l g yX4_clear cX4_clear 1 none { frames := 1, cells := 0, slots := 0, locals := 23 } [.ref dr] [(dr, .inr (4, [.int 0, .int 0, .int 0, .int 0, .int 0, .int 0, .ref d_toolWidth, .ref d_told, .ref d_name, .ref d_parent, .ref d_side, .ref d_from, .ref d_width, .ref d_height, .ref d_radius, .ref d_toolSet])), (d_told, .inl (g.2.1.1, 10, .inl f))] (fun (u : (Nat → Int32)) => True) (fun (u : (Nat → Int32)) => [(dr, .inr (4, [.int 0, .int 0, .int 0, .int 30, .int 0, .int 0, .ref d_toolWidth, .ref d_told, .ref d_name, .ref d_parent, .ref d_side, .ref d_from, .ref d_width, .ref d_height, .ref d_radius, .ref d_toolSet])), (d_told, .inl (g.2.1.1, 10, .inl u))]) := by
  refine zCv.mk (by decide) (Nat.le_of_ble_eq_true rfl) ?_
  intro p e s m below meth c A hE hP hD hS ls hl
  obtain ⟨hx, hb, hr, hml, hown, hG, hlocks, hnm, hX, hA⟩ := hE
  have hown : s.vm.findClass RX4 = some m.cls := hown
  have hl : lv_has ls 1 [(0, .ref dr)] := hl
  refine lv_aload_n hx hb dX4_clear_0 rfl (lv_at hl 0 rfl) ?_
  refine lv_iconst (v := 0) hx hb dX4_clear_1 (by decide) ?_
  refine va_put (D := g.1) (ci := 4) (v := .int 0) (ty := .int) (C := RX4) (T := TX4) (N := 16) hx hb hG iX4 tyX4 tyX4_ok nmX4 hown hX.1 hP hD hS 0 rfl rfl 0 (by decide) (hG _ g409) (fun _ h9 => h9) rfl (by decide +kernel) rfl rfl (Nat.le_of_ble_eq_true rfl) dX4_clear_2 (fun H locs hP hD hS => ?_)
  have hP : va_P g.1 vwCl [(dr, .inr (4, [.int 0, .int 0, .int 0, .int 0, .int 0, .int 0, .ref d_toolWidth, .ref d_told, .ref d_name, .ref d_parent, .ref d_side, .ref d_from, .ref d_width, .ref d_height, .ref d_radius, .ref d_toolSet])), (d_told, .inl (g.2.1.1, 10, .inl f))] H := hP
  have hD : va_D A [(dr, .inr (4, [.int 0, .int 0, .int 0, .int 0, .int 0, .int 0, .ref d_toolWidth, .ref d_told, .ref d_name, .ref d_parent, .ref d_side, .ref d_from, .ref d_width, .ref d_height, .ref d_radius, .ref d_toolSet])), (d_told, .inl (g.2.1.1, 10, .inl f))] := hD
  refine lv_aload_n hx hb dX4_clear_5 rfl (lv_at hl 0 rfl) ?_
  refine lv_iconst (v := 0) hx hb dX4_clear_6 (by decide) ?_
  refine va_put (D := g.1) (ci := 4) (v := .int 0) (ty := .int) (C := RX4) (T := TX4) (N := 16) hx hb hG iX4 tyX4 tyX4_ok nmX4 hown hX.1 hP hD hS 0 rfl rfl 1 (by decide) (hG _ g416) (fun _ h9 => h9) rfl (by decide +kernel) rfl rfl (Nat.le_of_ble_eq_true rfl) dX4_clear_7 (fun H locs hP hD hS => ?_)
  have hP : va_P g.1 vwCl [(dr, .inr (4, [.int 0, .int 0, .int 0, .int 0, .int 0, .int 0, .ref d_toolWidth, .ref d_told, .ref d_name, .ref d_parent, .ref d_side, .ref d_from, .ref d_width, .ref d_height, .ref d_radius, .ref d_toolSet])), (d_told, .inl (g.2.1.1, 10, .inl f))] H := hP
  have hD : va_D A [(dr, .inr (4, [.int 0, .int 0, .int 0, .int 0, .int 0, .int 0, .ref d_toolWidth, .ref d_told, .ref d_name, .ref d_parent, .ref d_side, .ref d_from, .ref d_width, .ref d_height, .ref d_radius, .ref d_toolSet])), (d_told, .inl (g.2.1.1, 10, .inl f))] := hD
  refine lv_aload_n hx hb dX4_clear_10 rfl (lv_at hl 0 rfl) ?_
  refine lv_iconst (v := 0) hx hb dX4_clear_11 (by decide) ?_
  refine va_put (D := g.1) (ci := 4) (v := .int 0) (ty := .int) (C := RX4) (T := TX4) (N := 16) hx hb hG iX4 tyX4 tyX4_ok nmX4 hown hX.1 hP hD hS 0 rfl rfl 4 (by decide) (hG _ g428) (fun _ h9 => h9) rfl (by decide +kernel) rfl rfl (Nat.le_of_ble_eq_true rfl) dX4_clear_12 (fun H locs hP hD hS => ?_)
  have hP : va_P g.1 vwCl [(dr, .inr (4, [.int 0, .int 0, .int 0, .int 0, .int 0, .int 0, .ref d_toolWidth, .ref d_told, .ref d_name, .ref d_parent, .ref d_side, .ref d_from, .ref d_width, .ref d_height, .ref d_radius, .ref d_toolSet])), (d_told, .inl (g.2.1.1, 10, .inl f))] H := hP
  have hD : va_D A [(dr, .inr (4, [.int 0, .int 0, .int 0, .int 0, .int 0, .int 0, .ref d_toolWidth, .ref d_told, .ref d_name, .ref d_parent, .ref d_side, .ref d_from, .ref d_width, .ref d_height, .ref d_radius, .ref d_toolSet])), (d_told, .inl (g.2.1.1, 10, .inl f))] := hD
  refine lv_aload_n hx hb dX4_clear_15 rfl (lv_at hl 0 rfl) ?_
  refine lv_iconst (v := 0) hx hb dX4_clear_16 (by decide) ?_
  refine va_put (D := g.1) (ci := 4) (v := .int 0) (ty := .int) (C := RX4) (T := TX4) (N := 16) hx hb hG iX4 tyX4 tyX4_ok nmX4 hown hX.1 hP hD hS 0 rfl rfl 5 (by decide) (hG _ g435) (fun _ h9 => h9) rfl (by decide +kernel) rfl rfl (Nat.le_of_ble_eq_true rfl) dX4_clear_17 (fun H locs hP hD hS => ?_)
  have hP : va_P g.1 vwCl [(dr, .inr (4, [.int 0, .int 0, .int 0, .int 0, .int 0, .int 0, .ref d_toolWidth, .ref d_told, .ref d_name, .ref d_parent, .ref d_side, .ref d_from, .ref d_width, .ref d_height, .ref d_radius, .ref d_toolSet])), (d_told, .inl (g.2.1.1, 10, .inl f))] H := hP
  have hD : va_D A [(dr, .inr (4, [.int 0, .int 0, .int 0, .int 0, .int 0, .int 0, .ref d_toolWidth, .ref d_told, .ref d_name, .ref d_parent, .ref d_side, .ref d_from, .ref d_width, .ref d_height, .ref d_radius, .ref d_toolSet])), (d_told, .inl (g.2.1.1, 10, .inl f))] := hD
  refine lv_aload_n hx hb dX4_clear_20 rfl (lv_at hl 0 rfl) ?_
  refine lv_bipush (v := 30) hx hb dX4_clear_21 (by decide) ?_
  refine va_put (D := g.1) (ci := 4) (v := .int 30) (ty := .int) (C := RX4) (T := TX4) (N := 16) hx hb hG iX4 tyX4 tyX4_ok nmX4 hown hX.1 hP hD hS 0 rfl rfl 3 (by decide) (hG _ g422) (fun _ h9 => h9) rfl (by decide +kernel) rfl rfl (Nat.le_of_ble_eq_true rfl) dX4_clear_23 (fun H locs hP hD hS => ?_)
  have hP : va_P g.1 vwCl [(dr, .inr (4, [.int 0, .int 0, .int 0, .int 30, .int 0, .int 0, .ref d_toolWidth, .ref d_told, .ref d_name, .ref d_parent, .ref d_side, .ref d_from, .ref d_width, .ref d_height, .ref d_radius, .ref d_toolSet])), (d_told, .inl (g.2.1.1, 10, .inl f))] H := hP
  have hD : va_D A [(dr, .inr (4, [.int 0, .int 0, .int 0, .int 30, .int 0, .int 0, .ref d_toolWidth, .ref d_told, .ref d_name, .ref d_parent, .ref d_side, .ref d_from, .ref d_width, .ref d_height, .ref d_radius, .ref d_toolSet])), (d_told, .inl (g.2.1.1, 10, .inl f))] := hD
  refine lv_aload_n hx hb dX4_clear_26 rfl (lv_at hl 0 rfl) ?_
  refine va_get (D := g.1) (ci := 4) (v := .ref d_told) (C := RX4) (T := TX4) (N := 16) hx hb hG iX4 hown hX.1 hP 0 rfl rfl 7 (by decide) (hG _ g441) (fun _ h9 => h9) rfl dX4_clear_27 ?_
  refine lv_iconst (v := (-1)) hx hb dX4_clear_30 (by decide) ?_
  refine zfv (wr := [(dr, .inr (4, [.int 0, .int 0, .int 0, .int 30, .int 0, .int 0, .ref d_toolWidth, .ref d_told, .ref d_name, .ref d_parent, .ref d_side, .ref d_from, .ref d_width, .ref d_height, .ref d_radius, .ref d_toolSet]))]) (va_runS (As := [.ref d_told, .int (-1)]) (rest := []) ⟨hx, hb, hml, hown, hG⟩ (kJ7_fill_53178 l g d_told (-1) f _) ⟨callB_of 2 hG (zGood g592) rfl rfl rfl (hG _ g212) (hG _ g590) hJ7_fill_53178 ⟨Nat.le_of_ble_eq_true rfl, Nat.le_of_ble_eq_true rfl⟩, hG _ g591⟩ (zpreS hX hP hD hS hA [1] rfl (by decide)) rfl rfl hl.1 rfl (lv_room (Nat.le_of_ble_eq_true rfl)) dX4_clear_31 ⟨Nat.le_of_ble_eq_true rfl, Nat.le_of_ble_eq_true rfl⟩) hP hD hS hA [1] [0] rfl rfl (by decide) (by decide) (fun u2 H locs hp hP hD hS => ?_)
  refine W.cs (cells' := 0) (slots' := 0) rfl rfl ?_
  have hP : va_P g.1 vwCl [(dr, .inr (4, [.int 0, .int 0, .int 0, .int 30, .int 0, .int 0, .ref d_toolWidth, .ref d_told, .ref d_name, .ref d_parent, .ref d_side, .ref d_from, .ref d_width, .ref d_height, .ref d_radius, .ref d_toolSet])), (d_told, .inl (g.2.1.1, 10, .inl u2))] H := hP
  have hD : va_D A [(dr, .inr (4, [.int 0, .int 0, .int 0, .int 30, .int 0, .int 0, .ref d_toolWidth, .ref d_told, .ref d_name, .ref d_parent, .ref d_side, .ref d_from, .ref d_width, .ref d_height, .ref d_radius, .ref d_toolSet])), (d_told, .inl (g.2.1.1, 10, .inl u2))] := hD
  exact zrv (rm := { frames := 1, cells := 0, slots := 0, locals := 23 }) u2 hx hb hr hlocks (Nat.le_of_ble_eq_true rfl) (Nat.le_of_ble_eq_true rfl) (trivial) hP hD hS dX4_clear_34
theorem dX6_begin_0 : decode cX6_begin 0 = .ok (.aload_n 0, 1) := by decide +kernel
theorem dX6_begin_1 : decode cX6_begin 1 = .ok (.aload_n 1, 1) := by decide +kernel
theorem dX6_begin_2 : decode cX6_begin 2 = .ok (.putfield 42, 3) := by decide +kernel
theorem dX6_begin_5 : decode cX6_begin 5 = .ok (.aload_n 0, 1) := by decide +kernel
theorem dX6_begin_6 : decode cX6_begin 6 = .ok (.getfield 42, 3) := by decide +kernel
theorem dX6_begin_9 : decode cX6_begin 9 = .ok (.invokevirtual 80, 3) := by decide +kernel
theorem dX6_begin_12 : decode cX6_begin 12 = .ok (.aload_n 0, 1) := by decide +kernel
theorem dX6_begin_13 : decode cX6_begin 13 = .ok (.iconst 0, 1) := by decide +kernel
theorem dX6_begin_14 : decode cX6_begin 14 = .ok (.putfield 83, 3) := by decide +kernel
theorem dX6_begin_17 : decode cX6_begin 17 = .ok (.aload_n 0, 1) := by decide +kernel
theorem dX6_begin_18 : decode cX6_begin 18 = .ok (.iconst (-1), 1) := by decide +kernel
theorem dX6_begin_19 : decode cX6_begin 19 = .ok (.putfield 86, 3) := by decide +kernel
theorem dX6_begin_22 : decode cX6_begin 22 = .ok (.aload_n 0, 1) := by decide +kernel
theorem dX6_begin_23 : decode cX6_begin 23 = .ok (.iconst 0, 1) := by decide +kernel
theorem dX6_begin_24 : decode cX6_begin 24 = .ok (.putfield 26, 3) := by decide +kernel
theorem dX6_begin_27 : decode cX6_begin 27 = .ok (.aload_n 0, 1) := by decide +kernel
theorem dX6_begin_28 : decode cX6_begin 28 = .ok (.iconst (-1), 1) := by decide +kernel
theorem dX6_begin_29 : decode cX6_begin 29 = .ok (.putfield 9, 3) := by decide +kernel
theorem dX6_begin_32 : decode cX6_begin 32 = .ok (.return_, 1) := by decide +kernel
set_option maxHeartbeats 4000000 in
set_option maxRecDepth 100000 in
theorem kX6_begin (l : Launch) (g : zL) (xr : Nat) (dr : Nat) (xt : Nat) (d_toolWidth : Nat) (d_told : Nat) (d_name : Nat) (d_parent : Nat) (d_side : Nat) (d_from : Nat) (d_width : Nat) (d_height : Nat) (d_radius : Nat) (d_toolSet : Nat) (f : Nat → Int32) : zCv l g yX6_begin cX6_begin 2 none { frames := 2, cells := 0, slots := 0, locals := 43 } [.ref xr, .ref dr] [(xr, .inr (6, [.ref xt, .null, .int 0, .int 0, .int 0, .int 0, .int (-1)])), (dr, .inr (4, [.int 0, .int 0, .int 0, .int 0, .int 0, .int 0, .ref d_toolWidth, .ref d_told, .ref d_name, .ref d_parent, .ref d_side, .ref d_from, .ref d_width, .ref d_height, .ref d_radius, .ref d_toolSet])), (d_told, .inl (g.2.1.1, 10, .inl f))] (fun (u : (Nat → Int32)) => True) (fun (u : (Nat → Int32)) => [(xr, .inr (6, [.ref xt, .ref dr, .int 0, .int 0, .int (-1), .int 0, .int (-1)])), (dr, .inr (4, [.int 0, .int 0, .int 0, .int 30, .int 0, .int 0, .ref d_toolWidth, .ref d_told, .ref d_name, .ref d_parent, .ref d_side, .ref d_from, .ref d_width, .ref d_height, .ref d_radius, .ref d_toolSet])), (d_told, .inl (g.2.1.1, 10, .inl u))]) := by
  refine zCv.mk (by decide) (Nat.le_of_ble_eq_true rfl) ?_
  intro p e s m below meth c A hE hP hD hS ls hl
  obtain ⟨hx, hb, hr, hml, hown, hG, hlocks, hnm, hX, hA⟩ := hE
  have hown : s.vm.findClass RX6 = some m.cls := hown
  have hl : lv_has ls 2 [(0, .ref xr), (1, .ref dr)] := hl
  refine lv_aload_n hx hb dX6_begin_0 rfl (lv_at hl 0 rfl) ?_
  refine lv_aload_n hx hb dX6_begin_1 rfl (lv_at hl 1 rfl) ?_
  refine va_put (D := g.1) (ci := 6) (v := .ref dr) (ty := (.object "SheetFolds$Part")) (C := RX6) (T := TX6) (N := 7) hx hb hG iX6 tyX6 tyX6_ok nmX6 hown hX.1 hP hD hS 0 rfl rfl 1 (by decide) (hG _ g252) (fun _ h9 => h9) rfl (by decide +kernel) rfl rfl (Nat.le_of_ble_eq_true rfl) dX6_begin_2 (fun H locs hP hD hS => ?_)
  have hP : va_P g.1 vwCl [(xr, .inr (6, [.ref xt, .ref dr, .int 0, .int 0, .int 0, .int 0, .int (-1)])), (dr, .inr (4, [.int 0, .int 0, .int 0, .int 0, .int 0, .int 0, .ref d_toolWidth, .ref d_told, .ref d_name, .ref d_parent, .ref d_side, .ref d_from, .ref d_width, .ref d_height, .ref d_radius, .ref d_toolSet])), (d_told, .inl (g.2.1.1, 10, .inl f))] H := hP
  have hD : va_D A [(xr, .inr (6, [.ref xt, .ref dr, .int 0, .int 0, .int 0, .int 0, .int (-1)])), (dr, .inr (4, [.int 0, .int 0, .int 0, .int 0, .int 0, .int 0, .ref d_toolWidth, .ref d_told, .ref d_name, .ref d_parent, .ref d_side, .ref d_from, .ref d_width, .ref d_height, .ref d_radius, .ref d_toolSet])), (d_told, .inl (g.2.1.1, 10, .inl f))] := hD
  refine lv_aload_n hx hb dX6_begin_5 rfl (lv_at hl 0 rfl) ?_
  refine va_get (D := g.1) (ci := 6) (v := .ref dr) (C := RX6) (T := TX6) (N := 7) hx hb hG iX6 hown hX.1 hP 0 rfl rfl 1 (by decide) (hG _ g252) (fun _ h9 => h9) rfl dX6_begin_6 ?_
  refine zfv (wr := [(xr, .inr (6, [.ref xt, .ref dr, .int 0, .int 0, .int 0, .int 0, .int (-1)]))]) (va_runVN (As := []) (rest := []) ⟨hx, hb, hml, hown, hG⟩ (kX4_clear l g dr d_toolWidth d_told d_name d_parent d_side d_from d_width d_height d_radius d_toolSet f _) ⟨va_cnB 0 hG (zGood g589) rfl rfl rfl (hX.2.1.ml g586) (hG _ g210) hX4_clear ⟨Nat.le_of_ble_eq_true rfl, Nat.le_of_ble_eq_true rfl⟩, hG _ g588, hG _ g6⟩ (zpreV (va_recv hX.1 hP (ci := 4) (q0 := 1) rfl rfl) hX hP hD hS hA [1, 2] rfl (by decide)) rfl rfl hl.1 rfl (lv_room (Nat.le_of_ble_eq_true rfl)) dX6_begin_9 ⟨Nat.le_of_ble_eq_true rfl, Nat.le_of_ble_eq_true rfl⟩) hP hD hS hA [1, 2] [0] rfl rfl (by decide) (by decide) (fun u2 H locs hp hP hD hS => ?_)
  refine W.cs (cells' := 0) (slots' := 0) rfl rfl ?_
  have hP : va_P g.1 vwCl [(xr, .inr (6, [.ref xt, .ref dr, .int 0, .int 0, .int 0, .int 0, .int (-1)])), (dr, .inr (4, [.int 0, .int 0, .int 0, .int 30, .int 0, .int 0, .ref d_toolWidth, .ref d_told, .ref d_name, .ref d_parent, .ref d_side, .ref d_from, .ref d_width, .ref d_height, .ref d_radius, .ref d_toolSet])), (d_told, .inl (g.2.1.1, 10, .inl u2))] H := hP
  have hD : va_D A [(xr, .inr (6, [.ref xt, .ref dr, .int 0, .int 0, .int 0, .int 0, .int (-1)])), (dr, .inr (4, [.int 0, .int 0, .int 0, .int 30, .int 0, .int 0, .ref d_toolWidth, .ref d_told, .ref d_name, .ref d_parent, .ref d_side, .ref d_from, .ref d_width, .ref d_height, .ref d_radius, .ref d_toolSet])), (d_told, .inl (g.2.1.1, 10, .inl u2))] := hD
  refine lv_aload_n hx hb dX6_begin_12 rfl (lv_at hl 0 rfl) ?_
  refine lv_iconst (v := 0) hx hb dX6_begin_13 (by decide) ?_
  refine va_put (D := g.1) (ci := 6) (v := .int 0) (ty := .int) (C := RX6) (T := TX6) (N := 7) hx hb hG iX6 tyX6 tyX6_ok nmX6 hown hX.1 hP hD hS 0 rfl rfl 2 (by decide) (hG _ g253) (fun _ h9 => h9) rfl (by decide +kernel) rfl rfl (Nat.le_of_ble_eq_true rfl) dX6_begin_14 (fun H locs hP hD hS => ?_)
  have hP : va_P g.1 vwCl [(xr, .inr (6, [.ref xt, .ref dr, .int 0, .int 0, .int 0, .int 0, .int (-1)])), (dr, .inr (4, [.int 0, .int 0, .int 0, .int 30, .int 0, .int 0, .ref d_toolWidth, .ref d_told, .ref d_name, .ref d_parent, .ref d_side, .ref d_from, .ref d_width, .ref d_height, .ref d_radius, .ref d_toolSet])), (d_told, .inl (g.2.1.1, 10, .inl u2))] H := hP
  have hD : va_D A [(xr, .inr (6, [.ref xt, .ref dr, .int 0, .int 0, .int 0, .int 0, .int (-1)])), (dr, .inr (4, [.int 0, .int 0, .int 0, .int 30, .int 0, .int 0, .ref d_toolWidth, .ref d_told, .ref d_name, .ref d_parent, .ref d_side, .ref d_from, .ref d_width, .ref d_height, .ref d_radius, .ref d_toolSet])), (d_told, .inl (g.2.1.1, 10, .inl u2))] := hD
  refine lv_aload_n hx hb dX6_begin_17 rfl (lv_at hl 0 rfl) ?_
  refine lv_iconst (v := (-1)) hx hb dX6_begin_18 (by decide) ?_
  refine va_put (D := g.1) (ci := 6) (v := .int (-1)) (ty := .int) (C := RX6) (T := TX6) (N := 7) hx hb hG iX6 tyX6 tyX6_ok nmX6 hown hX.1 hP hD hS 0 rfl rfl 4 (by decide) (hG _ g255) (fun _ h9 => h9) rfl (by decide +kernel) rfl rfl (Nat.le_of_ble_eq_true rfl) dX6_begin_19 (fun H locs hP hD hS => ?_)
  have hP : va_P g.1 vwCl [(xr, .inr (6, [.ref xt, .ref dr, .int 0, .int 0, .int (-1), .int 0, .int (-1)])), (dr, .inr (4, [.int 0, .int 0, .int 0, .int 30, .int 0, .int 0, .ref d_toolWidth, .ref d_told, .ref d_name, .ref d_parent, .ref d_side, .ref d_from, .ref d_width, .ref d_height, .ref d_radius, .ref d_toolSet])), (d_told, .inl (g.2.1.1, 10, .inl u2))] H := hP
  have hD : va_D A [(xr, .inr (6, [.ref xt, .ref dr, .int 0, .int 0, .int (-1), .int 0, .int (-1)])), (dr, .inr (4, [.int 0, .int 0, .int 0, .int 30, .int 0, .int 0, .ref d_toolWidth, .ref d_told, .ref d_name, .ref d_parent, .ref d_side, .ref d_from, .ref d_width, .ref d_height, .ref d_radius, .ref d_toolSet])), (d_told, .inl (g.2.1.1, 10, .inl u2))] := hD
  refine lv_aload_n hx hb dX6_begin_22 rfl (lv_at hl 0 rfl) ?_
  refine lv_iconst (v := 0) hx hb dX6_begin_23 (by decide) ?_
  refine va_put (D := g.1) (ci := 6) (v := .int 0) (ty := .int) (C := RX6) (T := TX6) (N := 7) hx hb hG iX6 tyX6 tyX6_ok nmX6 hown hX.1 hP hD hS 0 rfl rfl 5 (by decide) (hG _ g256) (fun _ h9 => h9) rfl (by decide +kernel) rfl rfl (Nat.le_of_ble_eq_true rfl) dX6_begin_24 (fun H locs hP hD hS => ?_)
  have hP : va_P g.1 vwCl [(xr, .inr (6, [.ref xt, .ref dr, .int 0, .int 0, .int (-1), .int 0, .int (-1)])), (dr, .inr (4, [.int 0, .int 0, .int 0, .int 30, .int 0, .int 0, .ref d_toolWidth, .ref d_told, .ref d_name, .ref d_parent, .ref d_side, .ref d_from, .ref d_width, .ref d_height, .ref d_radius, .ref d_toolSet])), (d_told, .inl (g.2.1.1, 10, .inl u2))] H := hP
  have hD : va_D A [(xr, .inr (6, [.ref xt, .ref dr, .int 0, .int 0, .int (-1), .int 0, .int (-1)])), (dr, .inr (4, [.int 0, .int 0, .int 0, .int 30, .int 0, .int 0, .ref d_toolWidth, .ref d_told, .ref d_name, .ref d_parent, .ref d_side, .ref d_from, .ref d_width, .ref d_height, .ref d_radius, .ref d_toolSet])), (d_told, .inl (g.2.1.1, 10, .inl u2))] := hD
  refine lv_aload_n hx hb dX6_begin_27 rfl (lv_at hl 0 rfl) ?_
  refine lv_iconst (v := (-1)) hx hb dX6_begin_28 (by decide) ?_
  refine va_put (D := g.1) (ci := 6) (v := .int (-1)) (ty := .int) (C := RX6) (T := TX6) (N := 7) hx hb hG iX6 tyX6 tyX6_ok nmX6 hown hX.1 hP hD hS 0 rfl rfl 6 (by decide) (hG _ g258) (fun _ h9 => h9) rfl (by decide +kernel) rfl rfl (Nat.le_of_ble_eq_true rfl) dX6_begin_29 (fun H locs hP hD hS => ?_)
  have hP : va_P g.1 vwCl [(xr, .inr (6, [.ref xt, .ref dr, .int 0, .int 0, .int (-1), .int 0, .int (-1)])), (dr, .inr (4, [.int 0, .int 0, .int 0, .int 30, .int 0, .int 0, .ref d_toolWidth, .ref d_told, .ref d_name, .ref d_parent, .ref d_side, .ref d_from, .ref d_width, .ref d_height, .ref d_radius, .ref d_toolSet])), (d_told, .inl (g.2.1.1, 10, .inl u2))] H := hP
  have hD : va_D A [(xr, .inr (6, [.ref xt, .ref dr, .int 0, .int 0, .int (-1), .int 0, .int (-1)])), (dr, .inr (4, [.int 0, .int 0, .int 0, .int 30, .int 0, .int 0, .ref d_toolWidth, .ref d_told, .ref d_name, .ref d_parent, .ref d_side, .ref d_from, .ref d_width, .ref d_height, .ref d_radius, .ref d_toolSet])), (d_told, .inl (g.2.1.1, 10, .inl u2))] := hD
  exact zrv (rm := { frames := 2, cells := 0, slots := 0, locals := 43 }) u2 hx hb hr hlocks (Nat.le_of_ble_eq_true rfl) (Nat.le_of_ble_eq_true rfl) (trivial) hP hD hS dX6_begin_32
theorem dX6_fail_0 : decode cX6_fail 0 = .ok (.aload_n 0, 1) := by decide +kernel
theorem dX6_fail_1 : decode cX6_fail 1 = .ok (.getfield 26, 3) := by decide +kernel
theorem dX6_fail_4 : decode cX6_fail 4 = .ok (.ifCond .ne 13, 3) := by decide +kernel
theorem dX6_fail_7 : decode cX6_fail 7 = .ok (.aload_n 0, 1) := by decide +kernel
theorem dX6_fail_8 : decode cX6_fail 8 = .ok (.iload_n 1, 1) := by decide +kernel
theorem dX6_fail_9 : decode cX6_fail 9 = .ok (.putfield 26, 3) := by decide +kernel
theorem dX6_fail_12 : decode cX6_fail 12 = .ok (.aload_n 0, 1) := by decide +kernel
theorem dX6_fail_13 : decode cX6_fail 13 = .ok (.iload_n 2, 1) := by decide +kernel
theorem dX6_fail_14 : decode cX6_fail 14 = .ok (.putfield 9, 3) := by decide +kernel
theorem dX6_fail_17 : decode cX6_fail 17 = .ok (.return_, 1) := by decide +kernel
set_option maxHeartbeats 4000000 in
set_option maxRecDepth 100000 in
theorem kX6_faila (l : Launch) (g : zL) (xr : Nat) (x : Int32) (y : Int32) (xt : Nat) (dr : Nat) (va : Int32) (vt : Int32) (ve : Int32) (vp : Int32) : zCv l g yX6_fail cX6_fail 3 none { frames := 0, cells := 0, slots := 0, locals := 0 } [.ref xr, .int x, .int y] [(xr, .inr (6, [.ref xt, .ref dr, .int va, .int vt, .int ve, .int 0, .int vp]))] (fun (u : Unit) => True) (fun (u : Unit) => [(xr, .inr (6, [.ref xt, .ref dr, .int va, .int vt, .int ve, .int x, .int y]))]) := by
  refine zCv.mk (by decide) (Nat.le_of_ble_eq_true rfl) ?_
  intro p e s m below meth c A hE hP hD hS ls hl
  obtain ⟨hx, hb, hr, hml, hown, hG, hlocks, hnm, hX, hA⟩ := hE
  have hown : s.vm.findClass RX6 = some m.cls := hown
  have hl : lv_has ls 3 [(0, .ref xr), (1, .int x), (2, .int y)] := hl
  refine lv_aload_n hx hb dX6_fail_0 rfl (lv_at hl 0 rfl) ?_
  refine va_get (D := g.1) (ci := 6) (v := .int 0) (C := RX6) (T := TX6) (N := 7) hx hb hG iX6 hown hX.1 hP 0 rfl rfl 5 (by decide) (hG _ g256) (fun _ h9 => h9) rfl dX6_fail_1 ?_
  refine lv_if_ne (tgt := 17) hx hb dX6_fail_4 (by decide) (fun c4 => (c4 (by decide)).elim) (fun c4 => ?_)
  refine lv_aload_n hx hb dX6_fail_7 rfl (lv_at hl 0 rfl) ?_
  refine lv_iload_n hx hb dX6_fail_8 rfl (lv_at hl 1 rfl) ?_
  refine va_put (D := g.1) (ci := 6) (v := .int x) (ty := .int) (C := RX6) (T := TX6) (N := 7) hx hb hG iX6 tyX6 tyX6_ok nmX6 hown hX.1 hP hD hS 0 rfl rfl 5 (by decide) (hG _ g256) (fun _ h9 => h9) rfl (by decide +kernel) rfl rfl (Nat.le_of_ble_eq_true rfl) dX6_fail_9 (fun H locs hP hD hS => ?_)
  have hP : va_P g.1 vwCl [(xr, .inr (6, [.ref xt, .ref dr, .int va, .int vt, .int ve, .int x, .int vp]))] H := hP
  have hD : va_D A [(xr, .inr (6, [.ref xt, .ref dr, .int va, .int vt, .int ve, .int x, .int vp]))] := hD
  refine lv_aload_n hx hb dX6_fail_12 rfl (lv_at hl 0 rfl) ?_
  refine lv_iload_n hx hb dX6_fail_13 rfl (lv_at hl 2 rfl) ?_
  refine va_put (D := g.1) (ci := 6) (v := .int y) (ty := .int) (C := RX6) (T := TX6) (N := 7) hx hb hG iX6 tyX6 tyX6_ok nmX6 hown hX.1 hP hD hS 0 rfl rfl 6 (by decide) (hG _ g258) (fun _ h9 => h9) rfl (by decide +kernel) rfl rfl (Nat.le_of_ble_eq_true rfl) dX6_fail_14 (fun H locs hP hD hS => ?_)
  have hP : va_P g.1 vwCl [(xr, .inr (6, [.ref xt, .ref dr, .int va, .int vt, .int ve, .int x, .int y]))] H := hP
  have hD : va_D A [(xr, .inr (6, [.ref xt, .ref dr, .int va, .int vt, .int ve, .int x, .int y]))] := hD
  exact zrv (rm := { frames := 0, cells := 0, slots := 0, locals := 0 }) () hx hb hr hlocks (Nat.le_of_ble_eq_true rfl) (Nat.le_of_ble_eq_true rfl) (trivial) hP hD hS dX6_fail_17
set_option maxHeartbeats 4000000 in
set_option maxRecDepth 100000 in
theorem kX6_failb (l : Launch) (g : zL) (xr : Nat) (x : Int32) (y : Int32) (xt : Nat) (dr : Nat) (va : Int32) (vt : Int32) (ve : Int32) (vp : Int32) : zCv l g yX6_fail cX6_fail 3 none { frames := 0, cells := 0, slots := 0, locals := 0 } [.ref xr, .int x, .int y] [(xr, .inr (6, [.ref xt, .ref dr, .int va, .int vt, .int ve, .int 1, .int vp]))] (fun (u : Unit) => True) (fun (u : Unit) => [(xr, .inr (6, [.ref xt, .ref dr, .int va, .int vt, .int ve, .int 1, .int vp]))]) := by
  refine zCv.mk (by decide) (Nat.le_of_ble_eq_true rfl) ?_
  intro p e s m below meth c A hE hP hD hS ls hl
  obtain ⟨hx, hb, hr, hml, hown, hG, hlocks, hnm, hX, hA⟩ := hE
  have hown : s.vm.findClass RX6 = some m.cls := hown
  have hl : lv_has ls 3 [(0, .ref xr), (1, .int x), (2, .int y)] := hl
  refine lv_aload_n hx hb dX6_fail_0 rfl (lv_at hl 0 rfl) ?_
  refine va_get (D := g.1) (ci := 6) (v := .int 1) (C := RX6) (T := TX6) (N := 7) hx hb hG iX6 hown hX.1 hP 0 rfl rfl 5 (by decide) (hG _ g256) (fun _ h9 => h9) rfl dX6_fail_1 ?_
  refine lv_if_ne (tgt := 17) hx hb dX6_fail_4 (by decide) (fun c4 => ?_) (fun c4 => absurd c4 (by decide))
  exact zrv (rm := { frames := 0, cells := 0, slots := 0, locals := 0 }) () hx hb hr hlocks (Nat.le_of_ble_eq_true rfl) (Nat.le_of_ble_eq_true rfl) (trivial) hP hD hS dX6_fail_17
theorem dX6_skipBlanks_0 : decode cX6_skipBlanks 0 = .ok (.aload_n 0, 1) := by decide +kernel
theorem dX6_skipBlanks_1 : decode cX6_skipBlanks 1 = .ok (.getfield 83, 3) := by decide +kernel
theorem dX6_skipBlanks_4 : decode cX6_skipBlanks 4 = .ok (.aload_n 0, 1) := by decide +kernel
theorem dX6_skipBlanks_5 : decode cX6_skipBlanks 5 = .ok (.getfield 15, 3) := by decide +kernel
theorem dX6_skipBlanks_8 : decode cX6_skipBlanks 8 = .ok (.getfield 92, 3) := by decide +kernel
theorem dX6_skipBlanks_11 : decode cX6_skipBlanks 11 = .ok (.if_icmp .ge 48, 3) := by decide +kernel
theorem dX6_skipBlanks_59 : decode cX6_skipBlanks 59 = .ok (.aload_n 0, 1) := by decide +kernel
theorem dX6_skipBlanks_60 : decode cX6_skipBlanks 60 = .ok (.aload_n 0, 1) := by decide +kernel
theorem dX6_skipBlanks_61 : decode cX6_skipBlanks 61 = .ok (.getfield 83, 3) := by decide +kernel
theorem dX6_skipBlanks_64 : decode cX6_skipBlanks 64 = .ok (.putfield 70, 3) := by decide +kernel
theorem dX6_skipBlanks_67 : decode cX6_skipBlanks 67 = .ok (.return_, 1) := by decide +kernel
set_option maxHeartbeats 4000000 in
set_option maxRecDepth 100000 in
theorem kX6_skipBlanks (l : Launch) (g : zL) (xr : Nat) (xt : Nat) (dr : Nat) (vt : Int32) (ve : Int32) (vf : Int32) (vp : Int32) (xb : Nat) : zCv l g yX6_skipBlanks cX6_skipBlanks 1 none { frames := 0, cells := 0, slots := 0, locals := 0 } [.ref xr] [(xr, .inr (6, [.ref xt, .ref dr, .int 0, .int vt, .int ve, .int vf, .int vp])), (xt, .inr (7, [.ref xb, .int 0]))] (fun (u : Unit) => True) (fun (u : Unit) => [(xr, .inr (6, [.ref xt, .ref dr, .int 0, .int 0, .int ve, .int vf, .int vp])), (xt, .inr (7, [.ref xb, .int 0]))]) := by
  refine zCv.mk (by decide) (Nat.le_of_ble_eq_true rfl) ?_
  intro p e s m below meth c A hE hP hD hS ls hl
  obtain ⟨hx, hb, hr, hml, hown, hG, hlocks, hnm, hX, hA⟩ := hE
  have hown : s.vm.findClass RX6 = some m.cls := hown
  have hl : lv_has ls 1 [(0, .ref xr)] := hl
  refine lv_aload_n hx hb dX6_skipBlanks_0 rfl (lv_at hl 0 rfl) ?_
  refine va_get (D := g.1) (ci := 6) (v := .int 0) (C := RX6) (T := TX6) (N := 7) hx hb hG iX6 hown hX.1 hP 0 rfl rfl 2 (by decide) (hG _ g253) (fun _ h9 => h9) rfl dX6_skipBlanks_1 ?_
  refine lv_aload_n hx hb dX6_skipBlanks_4 rfl (lv_at hl 0 rfl) ?_
  refine va_get (D := g.1) (ci := 6) (v := .ref xt) (C := RX6) (T := TX6) (N := 7) hx hb hG iX6 hown hX.1 hP 0 rfl rfl 0 (by decide) (hG _ g251) (fun _ h9 => h9) rfl dX6_skipBlanks_5 ?_
  refine va_getN (D := g.1) (ci := 7) (v := .int 0) (C := RX7) (T := TX7) (N := 2) hx hb hG iX7 hown hX.1 hP 1 rfl rfl 1 (by decide) (hX.2.1.fl g238) (fun _ h9 => h9) rfl dX6_skipBlanks_8 ?_
  refine lv_icmp_ge (tgt := 59) hx hb dX6_skipBlanks_11 (by decide) (fun c11 => ?_) (fun c11 => (c11 (by decide)).elim)
  refine lv_aload_n hx hb dX6_skipBlanks_59 rfl (lv_at hl 0 rfl) ?_
  refine lv_aload_n hx hb dX6_skipBlanks_60 rfl (lv_at hl 0 rfl) ?_
  refine va_get (D := g.1) (ci := 6) (v := .int 0) (C := RX6) (T := TX6) (N := 7) hx hb hG iX6 hown hX.1 hP 0 rfl rfl 2 (by decide) (hG _ g253) (fun _ h9 => h9) rfl dX6_skipBlanks_61 ?_
  refine va_put (D := g.1) (ci := 6) (v := .int 0) (ty := .int) (C := RX6) (T := TX6) (N := 7) hx hb hG iX6 tyX6 tyX6_ok nmX6 hown hX.1 hP hD hS 0 rfl rfl 3 (by decide) (hG _ g254) (fun _ h9 => h9) rfl (by decide +kernel) rfl rfl (Nat.le_of_ble_eq_true rfl) dX6_skipBlanks_64 (fun H locs hP hD hS => ?_)
  have hP : va_P g.1 vwCl [(xr, .inr (6, [.ref xt, .ref dr, .int 0, .int 0, .int ve, .int vf, .int vp])), (xt, .inr (7, [.ref xb, .int 0]))] H := hP
  have hD : va_D A [(xr, .inr (6, [.ref xt, .ref dr, .int 0, .int 0, .int ve, .int vf, .int vp])), (xt, .inr (7, [.ref xb, .int 0]))] := hD
  exact zrv (rm := { frames := 0, cells := 0, slots := 0, locals := 0 }) () hx hb hr hlocks (Nat.le_of_ble_eq_true rfl) (Nat.le_of_ble_eq_true rfl) (trivial) hP hD hS dX6_skipBlanks_67
theorem dX6_readWord_0 : decode cX6_readWord 0 = .ok (.aload_n 0, 1) := by decide +kernel
theorem dX6_readWord_1 : decode cX6_readWord 1 = .ok (.invokevirtual 89, 3) := by decide +kernel
theorem dX6_readWord_4 : decode cX6_readWord 4 = .ok (.aload_n 0, 1) := by decide +kernel
theorem dX6_readWord_5 : decode cX6_readWord 5 = .ok (.getfield 83, 3) := by decide +kernel
theorem dX6_readWord_8 : decode cX6_readWord 8 = .ok (.aload_n 0, 1) := by decide +kernel
theorem dX6_readWord_9 : decode cX6_readWord 9 = .ok (.getfield 15, 3) := by decide +kernel
theorem dX6_readWord_12 : decode cX6_readWord 12 = .ok (.getfield 92, 3) := by decide +kernel
theorem dX6_readWord_15 : decode cX6_readWord 15 = .ok (.if_icmp .ge 33, 3) := by decide +kernel
theorem dX6_readWord_48 : decode cX6_readWord 48 = .ok (.aload_n 0, 1) := by decide +kernel
theorem dX6_readWord_49 : decode cX6_readWord 49 = .ok (.getfield 83, 3) := by decide +kernel
theorem dX6_readWord_52 : decode cX6_readWord 52 = .ok (.aload_n 0, 1) := by decide +kernel
theorem dX6_readWord_53 : decode cX6_readWord 53 = .ok (.getfield 70, 3) := by decide +kernel
theorem dX6_readWord_56 : decode cX6_readWord 56 = .ok (.if_icmp .eq 14, 3) := by decide +kernel
theorem dX6_readWord_70 : decode cX6_readWord 70 = .ok (.aload_n 0, 1) := by decide +kernel
theorem dX6_readWord_71 : decode cX6_readWord 71 = .ok (.iconst 1, 1) := by decide +kernel
theorem dX6_readWord_72 : decode cX6_readWord 72 = .ok (.aload_n 0, 1) := by decide +kernel
theorem dX6_readWord_73 : decode cX6_readWord 73 = .ok (.getfield 70, 3) := by decide +kernel
theorem dX6_readWord_76 : decode cX6_readWord 76 = .ok (.invokevirtual 73, 3) := by decide +kernel
theorem dX6_readWord_79 : decode cX6_readWord 79 = .ok (.aload_n 0, 1) := by decide +kernel
theorem dX6_readWord_80 : decode cX6_readWord 80 = .ok (.aload_n 0, 1) := by decide +kernel
theorem dX6_readWord_81 : decode cX6_readWord 81 = .ok (.getfield 83, 3) := by decide +kernel
theorem dX6_readWord_84 : decode cX6_readWord 84 = .ok (.putfield 86, 3) := by decide +kernel
theorem dX6_readWord_87 : decode cX6_readWord 87 = .ok (.return_, 1) := by decide +kernel
set_option maxHeartbeats 4000000 in
set_option maxRecDepth 100000 in
theorem kX6_readWorda (l : Launch) (g : zL) (xr : Nat) (xt : Nat) (dr : Nat) (xb : Nat) : zCv l g yX6_readWord cX6_readWord 1 none { frames := 1, cells := 0, slots := 0, locals := 22 } [.ref xr] [(xr, .inr (6, [.ref xt, .ref dr, .int 0, .int 0, .int (-1), .int 0, .int (-1)])), (xt, .inr (7, [.ref xb, .int 0]))] (fun (u : Unit) => True) (fun (u : Unit) => [(xr, .inr (6, [.ref xt, .ref dr, .int 0, .int 0, .int 0, .int 1, .int 0])), (xt, .inr (7, [.ref xb, .int 0]))]) := by
  refine zCv.mk (by decide) (Nat.le_of_ble_eq_true rfl) ?_
  intro p e s m below meth c A hE hP hD hS ls hl
  obtain ⟨hx, hb, hr, hml, hown, hG, hlocks, hnm, hX, hA⟩ := hE
  have hown : s.vm.findClass RX6 = some m.cls := hown
  have hl : lv_has ls 1 [(0, .ref xr)] := hl
  refine lv_aload_n hx hb dX6_readWord_0 rfl (lv_at hl 0 rfl) ?_
  refine zfv (wr := []) (va_runV (As := []) (rest := []) ⟨hx, hb, hml, hown, hG⟩ (kX6_skipBlanks l g xr xt dr 0 (-1) 0 (-1) xb _) ⟨callB_of 0 hG (zGood g609) rfl rfl rfl (hG _ g204) (hG _ g606) hX6_skipBlanks ⟨Nat.le_of_ble_eq_true rfl, Nat.le_of_ble_eq_true rfl⟩, hG _ g608, hG _ g10⟩ (zpreV (va_recv hX.1 hP (ci := 6) (q0 := 0) rfl rfl) hX hP hD hS hA [0, 1] rfl (by decide)) rfl rfl hl.1 rfl (lv_room (Nat.le_of_ble_eq_true rfl)) dX6_readWord_1 ⟨Nat.le_of_ble_eq_true rfl, Nat.le_of_ble_eq_true rfl⟩) hP hD hS hA [0, 1] [] rfl rfl (by decide) (by decide) (fun _ H locs hp hP hD hS => ?_)
  refine W.cs (cells' := 0) (slots' := 0) rfl rfl ?_
  have hP : va_P g.1 vwCl [(xr, .inr (6, [.ref xt, .ref dr, .int 0, .int 0, .int (-1), .int 0, .int (-1)])), (xt, .inr (7, [.ref xb, .int 0]))] H := hP
  have hD : va_D A [(xr, .inr (6, [.ref xt, .ref dr, .int 0, .int 0, .int (-1), .int 0, .int (-1)])), (xt, .inr (7, [.ref xb, .int 0]))] := hD
  refine lv_aload_n hx hb dX6_readWord_4 rfl (lv_at hl 0 rfl) ?_
  refine va_get (D := g.1) (ci := 6) (v := .int 0) (C := RX6) (T := TX6) (N := 7) hx hb hG iX6 hown hX.1 hP 0 rfl rfl 2 (by decide) (hG _ g253) (fun _ h9 => h9) rfl dX6_readWord_5 ?_
  refine lv_aload_n hx hb dX6_readWord_8 rfl (lv_at hl 0 rfl) ?_
  refine va_get (D := g.1) (ci := 6) (v := .ref xt) (C := RX6) (T := TX6) (N := 7) hx hb hG iX6 hown hX.1 hP 0 rfl rfl 0 (by decide) (hG _ g251) (fun _ h9 => h9) rfl dX6_readWord_9 ?_
  refine va_getN (D := g.1) (ci := 7) (v := .int 0) (C := RX7) (T := TX7) (N := 2) hx hb hG iX7 hown hX.1 hP 1 rfl rfl 1 (by decide) (hX.2.1.fl g238) (fun _ h9 => h9) rfl dX6_readWord_12 ?_
  refine lv_icmp_ge (tgt := 48) hx hb dX6_readWord_15 (by decide) (fun c15 => ?_) (fun c15 => (c15 (by decide)).elim)
  refine lv_aload_n hx hb dX6_readWord_48 rfl (lv_at hl 0 rfl) ?_
  refine va_get (D := g.1) (ci := 6) (v := .int 0) (C := RX6) (T := TX6) (N := 7) hx hb hG iX6 hown hX.1 hP 0 rfl rfl 2 (by decide) (hG _ g253) (fun _ h9 => h9) rfl dX6_readWord_49 ?_
  refine lv_aload_n hx hb dX6_readWord_52 rfl (lv_at hl 0 rfl) ?_
  refine va_get (D := g.1) (ci := 6) (v := .int 0) (C := RX6) (T := TX6) (N := 7) hx hb hG iX6 hown hX.1 hP 0 rfl rfl 3 (by decide) (hG _ g254) (fun _ h9 => h9) rfl dX6_readWord_53 ?_
  refine lv_icmp_eq (tgt := 70) hx hb dX6_readWord_56 (by decide) (fun c56 => ?_) (fun c56 => (c56 (by decide)).elim)
  refine lv_aload_n hx hb dX6_readWord_70 rfl (lv_at hl 0 rfl) ?_
  refine lv_iconst (v := 1) hx hb dX6_readWord_71 (by decide) ?_
  refine lv_aload_n hx hb dX6_readWord_72 rfl (lv_at hl 0 rfl) ?_
  refine va_get (D := g.1) (ci := 6) (v := .int 0) (C := RX6) (T := TX6) (N := 7) hx hb hG iX6 hown hX.1 hP 0 rfl rfl 3 (by decide) (hG _ g254) (fun _ h9 => h9) rfl dX6_readWord_73 ?_
  refine zfv (wr := [(xt, .inr (7, [.ref xb, .int 0]))]) (va_runV (As := [.int 1, .int 0]) (rest := []) ⟨hx, hb, hml, hown, hG⟩ (kX6_faila l g xr 1 0 xt dr 0 0 (-1) (-1) _) ⟨callB_of 2 hG (zGood g620) rfl rfl rfl (hG _ g204) (hG _ g617) hX6_fail ⟨Nat.le_of_ble_eq_true rfl, Nat.le_of_ble_eq_true rfl⟩, hG _ g619, hG _ g12⟩ (zpreV (va_recv hX.1 hP (ci := 6) (q0 := 0) rfl rfl) hX hP hD hS hA [0] rfl (by decide)) rfl rfl hl.1 rfl (lv_room (Nat.le_of_ble_eq_true rfl)) dX6_readWord_76 ⟨Nat.le_of_ble_eq_true rfl, Nat.le_of_ble_eq_true rfl⟩) hP hD hS hA [0] [1] rfl rfl (by decide) (by decide) (fun _ H locs hp hP hD hS => ?_)
  refine W.cs (cells' := 0) (slots' := 0) rfl rfl ?_
  have hP : va_P g.1 vwCl [(xt, .inr (7, [.ref xb, .int 0])), (xr, .inr (6, [.ref xt, .ref dr, .int 0, .int 0, .int (-1), .int 1, .int 0]))] H := hP
  have hD : va_D A [(xt, .inr (7, [.ref xb, .int 0])), (xr, .inr (6, [.ref xt, .ref dr, .int 0, .int 0, .int (-1), .int 1, .int 0]))] := hD
  refine lv_aload_n hx hb dX6_readWord_79 rfl (lv_at hl 0 rfl) ?_
  refine lv_aload_n hx hb dX6_readWord_80 rfl (lv_at hl 0 rfl) ?_
  refine va_get (D := g.1) (ci := 6) (v := .int 0) (C := RX6) (T := TX6) (N := 7) hx hb hG iX6 hown hX.1 hP 1 rfl rfl 2 (by decide) (hG _ g253) (fun _ h9 => h9) rfl dX6_readWord_81 ?_
  refine va_put (D := g.1) (ci := 6) (v := .int 0) (ty := .int) (C := RX6) (T := TX6) (N := 7) hx hb hG iX6 tyX6 tyX6_ok nmX6 hown hX.1 hP hD hS 1 rfl rfl 4 (by decide) (hG _ g255) (fun _ h9 => h9) rfl (by decide +kernel) rfl rfl (Nat.le_of_ble_eq_true rfl) dX6_readWord_84 (fun H locs hP hD hS => ?_)
  have hP : va_P g.1 vwCl [(xt, .inr (7, [.ref xb, .int 0])), (xr, .inr (6, [.ref xt, .ref dr, .int 0, .int 0, .int 0, .int 1, .int 0]))] H := hP
  have hD : va_D A [(xt, .inr (7, [.ref xb, .int 0])), (xr, .inr (6, [.ref xt, .ref dr, .int 0, .int 0, .int 0, .int 1, .int 0]))] := hD
  exact zrv (rm := { frames := 1, cells := 0, slots := 0, locals := 22 }) () hx hb hr hlocks (Nat.le_of_ble_eq_true rfl) (Nat.le_of_ble_eq_true rfl) (trivial) (hP.sub [1, 0] rfl) (hD.sub [1, 0] (by decide) rfl) hS dX6_readWord_87
set_option maxHeartbeats 4000000 in
set_option maxRecDepth 100000 in
theorem kX6_readWordb (l : Launch) (g : zL) (xr : Nat) (xt : Nat) (dr : Nat) (xb : Nat) : zCv l g yX6_readWord cX6_readWord 1 none { frames := 1, cells := 0, slots := 0, locals := 22 } [.ref xr] [(xr, .inr (6, [.ref xt, .ref dr, .int 0, .int 0, .int 0, .int 1, .int 0])), (xt, .inr (7, [.ref xb, .int 0]))] (fun (u : Unit) => True) (fun (u : Unit) => [(xr, .inr (6, [.ref xt, .ref dr, .int 0, .int 0, .int 0, .int 1, .int 0])), (xt, .inr (7, [.ref xb, .int 0]))]) := by
  refine zCv.mk (by decide) (Nat.le_of_ble_eq_true rfl) ?_
  intro p e s m below meth c A hE hP hD hS ls hl
  obtain ⟨hx, hb, hr, hml, hown, hG, hlocks, hnm, hX, hA⟩ := hE
  have hown : s.vm.findClass RX6 = some m.cls := hown
  have hl : lv_has ls 1 [(0, .ref xr)] := hl
  refine lv_aload_n hx hb dX6_readWord_0 rfl (lv_at hl 0 rfl) ?_
  refine zfv (wr := []) (va_runV (As := []) (rest := []) ⟨hx, hb, hml, hown, hG⟩ (kX6_skipBlanks l g xr xt dr 0 0 1 0 xb _) ⟨callB_of 0 hG (zGood g609) rfl rfl rfl (hG _ g204) (hG _ g606) hX6_skipBlanks ⟨Nat.le_of_ble_eq_true rfl, Nat.le_of_ble_eq_true rfl⟩, hG _ g608, hG _ g10⟩ (zpreV (va_recv hX.1 hP (ci := 6) (q0 := 0) rfl rfl) hX hP hD hS hA [0, 1] rfl (by decide)) rfl rfl hl.1 rfl (lv_room (Nat.le_of_ble_eq_true rfl)) dX6_readWord_1 ⟨Nat.le_of_ble_eq_true rfl, Nat.le_of_ble_eq_true rfl⟩) hP hD hS hA [0, 1] [] rfl rfl (by decide) (by decide) (fun _ H locs hp hP hD hS => ?_)
  refine W.cs (cells' := 0) (slots' := 0) rfl rfl ?_
  have hP : va_P g.1 vwCl [(xr, .inr (6, [.ref xt, .ref dr, .int 0, .int 0, .int 0, .int 1, .int 0])), (xt, .inr (7, [.ref xb, .int 0]))] H := hP
  have hD : va_D A [(xr, .inr (6, [.ref xt, .ref dr, .int 0, .int 0, .int 0, .int 1, .int 0])), (xt, .inr (7, [.ref xb, .int 0]))] := hD
  refine lv_aload_n hx hb dX6_readWord_4 rfl (lv_at hl 0 rfl) ?_
  refine va_get (D := g.1) (ci := 6) (v := .int 0) (C := RX6) (T := TX6) (N := 7) hx hb hG iX6 hown hX.1 hP 0 rfl rfl 2 (by decide) (hG _ g253) (fun _ h9 => h9) rfl dX6_readWord_5 ?_
  refine lv_aload_n hx hb dX6_readWord_8 rfl (lv_at hl 0 rfl) ?_
  refine va_get (D := g.1) (ci := 6) (v := .ref xt) (C := RX6) (T := TX6) (N := 7) hx hb hG iX6 hown hX.1 hP 0 rfl rfl 0 (by decide) (hG _ g251) (fun _ h9 => h9) rfl dX6_readWord_9 ?_
  refine va_getN (D := g.1) (ci := 7) (v := .int 0) (C := RX7) (T := TX7) (N := 2) hx hb hG iX7 hown hX.1 hP 1 rfl rfl 1 (by decide) (hX.2.1.fl g238) (fun _ h9 => h9) rfl dX6_readWord_12 ?_
  refine lv_icmp_ge (tgt := 48) hx hb dX6_readWord_15 (by decide) (fun c15 => ?_) (fun c15 => (c15 (by decide)).elim)
  refine lv_aload_n hx hb dX6_readWord_48 rfl (lv_at hl 0 rfl) ?_
  refine va_get (D := g.1) (ci := 6) (v := .int 0) (C := RX6) (T := TX6) (N := 7) hx hb hG iX6 hown hX.1 hP 0 rfl rfl 2 (by decide) (hG _ g253) (fun _ h9 => h9) rfl dX6_readWord_49 ?_
  refine lv_aload_n hx hb dX6_readWord_52 rfl (lv_at hl 0 rfl) ?_
  refine va_get (D := g.1) (ci := 6) (v := .int 0) (C := RX6) (T := TX6) (N := 7) hx hb hG iX6 hown hX.1 hP 0 rfl rfl 3 (by decide) (hG _ g254) (fun _ h9 => h9) rfl dX6_readWord_53 ?_
  refine lv_icmp_eq (tgt := 70) hx hb dX6_readWord_56 (by decide) (fun c56 => ?_) (fun c56 => (c56 (by decide)).elim)
  refine lv_aload_n hx hb dX6_readWord_70 rfl (lv_at hl 0 rfl) ?_
  refine lv_iconst (v := 1) hx hb dX6_readWord_71 (by decide) ?_
  refine lv_aload_n hx hb dX6_readWord_72 rfl (lv_at hl 0 rfl) ?_
  refine va_get (D := g.1) (ci := 6) (v := .int 0) (C := RX6) (T := TX6) (N := 7) hx hb hG iX6 hown hX.1 hP 0 rfl rfl 3 (by decide) (hG _ g254) (fun _ h9 => h9) rfl dX6_readWord_73 ?_
  refine zfv (wr := [(xt, .inr (7, [.ref xb, .int 0]))]) (va_runV (As := [.int 1, .int 0]) (rest := []) ⟨hx, hb, hml, hown, hG⟩ (kX6_failb l g xr 1 0 xt dr 0 0 0 0 _) ⟨callB_of 2 hG (zGood g620) rfl rfl rfl (hG _ g204) (hG _ g617) hX6_fail ⟨Nat.le_of_ble_eq_true rfl, Nat.le_of_ble_eq_true rfl⟩, hG _ g619, hG _ g12⟩ (zpreV (va_recv hX.1 hP (ci := 6) (q0 := 0) rfl rfl) hX hP hD hS hA [0] rfl (by decide)) rfl rfl hl.1 rfl (lv_room (Nat.le_of_ble_eq_true rfl)) dX6_readWord_76 ⟨Nat.le_of_ble_eq_true rfl, Nat.le_of_ble_eq_true rfl⟩) hP hD hS hA [0] [1] rfl rfl (by decide) (by decide) (fun _ H locs hp hP hD hS => ?_)
  refine W.cs (cells' := 0) (slots' := 0) rfl rfl ?_
  have hP : va_P g.1 vwCl [(xt, .inr (7, [.ref xb, .int 0])), (xr, .inr (6, [.ref xt, .ref dr, .int 0, .int 0, .int 0, .int 1, .int 0]))] H := hP
  have hD : va_D A [(xt, .inr (7, [.ref xb, .int 0])), (xr, .inr (6, [.ref xt, .ref dr, .int 0, .int 0, .int 0, .int 1, .int 0]))] := hD
  refine lv_aload_n hx hb dX6_readWord_79 rfl (lv_at hl 0 rfl) ?_
  refine lv_aload_n hx hb dX6_readWord_80 rfl (lv_at hl 0 rfl) ?_
  refine va_get (D := g.1) (ci := 6) (v := .int 0) (C := RX6) (T := TX6) (N := 7) hx hb hG iX6 hown hX.1 hP 1 rfl rfl 2 (by decide) (hG _ g253) (fun _ h9 => h9) rfl dX6_readWord_81 ?_
  refine va_put (D := g.1) (ci := 6) (v := .int 0) (ty := .int) (C := RX6) (T := TX6) (N := 7) hx hb hG iX6 tyX6 tyX6_ok nmX6 hown hX.1 hP hD hS 1 rfl rfl 4 (by decide) (hG _ g255) (fun _ h9 => h9) rfl (by decide +kernel) rfl rfl (Nat.le_of_ble_eq_true rfl) dX6_readWord_84 (fun H locs hP hD hS => ?_)
  have hP : va_P g.1 vwCl [(xt, .inr (7, [.ref xb, .int 0])), (xr, .inr (6, [.ref xt, .ref dr, .int 0, .int 0, .int 0, .int 1, .int 0]))] H := hP
  have hD : va_D A [(xt, .inr (7, [.ref xb, .int 0])), (xr, .inr (6, [.ref xt, .ref dr, .int 0, .int 0, .int 0, .int 1, .int 0]))] := hD
  exact zrv (rm := { frames := 1, cells := 0, slots := 0, locals := 22 }) () hx hb hr hlocks (Nat.le_of_ble_eq_true rfl) (Nat.le_of_ble_eq_true rfl) (trivial) (hP.sub [1, 0] rfl) (hD.sub [1, 0] (by decide) rfl) hS dX6_readWord_87
theorem dJ0_coder_7d493_0 : decode cJ0_coder_7d493 0 = .ok (.getstatic 38, 3) := by decide +kernel
theorem dJ0_coder_7d493_3 : decode cJ0_coder_7d493 3 = .ok (.ifCond .eq 10, 3) := by decide +kernel
theorem dJ0_coder_7d493_6 : decode cJ0_coder_7d493 6 = .ok (.aload_n 0, 1) := by decide +kernel
theorem dJ0_coder_7d493_7 : decode cJ0_coder_7d493 7 = .ok (.getfield 15, 3) := by decide +kernel
theorem dJ0_coder_7d493_10 : decode cJ0_coder_7d493 10 = .ok (.goto 4, 3) := by decide +kernel
theorem dJ0_coder_7d493_14 : decode cJ0_coder_7d493 14 = .ok (.ireturn, 1) := by decide +kernel
set_option maxHeartbeats 4000000 in
set_option maxRecDepth 100000 in
theorem kJ0_coder_7d4930 (l : Launch) (g : zL) : zCi l g yJ0_coder_7d493 cJ0_coder_7d493 1 (some .byte) { frames := 0, cells := 0, slots := 0, locals := 0 } [.ref (g.2.2.1 0)] [] (fun (r : Int32) (u : Unit) => r = 0) (fun (u : Unit) => []) := by
  refine zCi.mk (by decide) (Nat.le_of_ble_eq_true rfl) ?_
  intro p e s m below meth c A hE hP hD hS ls hl
  obtain ⟨hx, hb, hr, hml, hown, hG, hlocks, hnm, hX, hA⟩ := hE
  have hown : s.vm.findClass RJ0 = some m.cls := hown
  have hl : lv_has ls 1 [(0, .ref (g.2.2.1 0))] := hl
  refine va_gets hx hb hX.2.2.2.2.1 hS hown (hG _ g633) (fun _ h9 => h9) dJ0_coder_7d493_0 ?_
  refine lv_if_eq (tgt := 13) hx hb dJ0_coder_7d493_3 (by decide) (fun c3 => absurd c3 (by decide)) (fun c3 => ?_)
  refine lv_aload_n hx hb dJ0_coder_7d493_6 rfl (lv_at hl 0 rfl) ?_
  refine vk_getf (v := .int 0) hx hb (hX.2.2.2.1.1 0 (by decide)).2.1 hS hown (hG _ g2059) (fun _ h9 => h9) dJ0_coder_7d493_7 ?_
  refine lv_goto (tgt := 14) hx hb dJ0_coder_7d493_10 (by decide) ?_
  exact zrz (rm := { frames := 0, cells := 0, slots := 0, locals := 0 }) (v := 0) () hx hb hr hlocks (rfl) (Nat.le_of_ble_eq_true rfl) (Nat.le_of_ble_eq_true rfl) (rfl) hP hD hS dJ0_coder_7d493_14
theorem dJ0_length_8abf5_0 : decode cJ0_length_8abf5 0 = .ok (.aload_n 0, 1) := by decide +kernel
theorem dJ0_length_8abf5_1 : decode cJ0_length_8abf5 1 = .ok (.getfield 9, 3) := by decide +kernel
theorem dJ0_length_8abf5_4 : decode cJ0_length_8abf5 4 = .ok (.arraylength, 1) := by decide +kernel
theorem dJ0_length_8abf5_5 : decode cJ0_length_8abf5 5 = .ok (.aload_n 0, 1) := by decide +kernel
theorem dJ0_length_8abf5_6 : decode cJ0_length_8abf5 6 = .ok (.invokevirtual 335, 3) := by decide +kernel
theorem dJ0_length_8abf5_9 : decode cJ0_length_8abf5 9 = .ok (.ishr, 1) := by decide +kernel
theorem dJ0_length_8abf5_10 : decode cJ0_length_8abf5 10 = .ok (.ireturn, 1) := by decide +kernel
set_option maxHeartbeats 4000000 in
set_option maxRecDepth 100000 in
theorem kJ0_length_8abf50 (l : Launch) (g : zL) : zCi l g yJ0_length_8abf5 cJ0_length_8abf5 1 (some .int) { frames := 1, cells := 0, slots := 0, locals := 20 } [.ref (g.2.2.1 0)] [] (fun (r : Int32) (u : Unit) => r = 5) (fun (u : Unit) => []) := by
  refine zCi.mk (by decide) (Nat.le_of_ble_eq_true rfl) ?_
  intro p e s m below meth c A hE hP hD hS ls hl
  obtain ⟨hx, hb, hr, hml, hown, hG, hlocks, hnm, hX, hA⟩ := hE
  have hown : s.vm.findClass RJ0 = some m.cls := hown
  have hl : lv_has ls 1 [(0, .ref (g.2.2.1 0))] := hl
  refine lv_aload_n hx hb dJ0_length_8abf5_0 rfl (lv_at hl 0 rfl) ?_
  refine vk_getf (v := .ref (g.2.2.2.1 0)) hx hb (hX.2.2.2.1.1 0 (by decide)).2.2.1 hS hown (hG _ g2058) (fun _ h9 => h9) dJ0_length_8abf5_1 ?_
  refine va_tlen (v := 5) hx hb (hX.2.2.2.1.1 0 (by decide)).2.2.2 hS (by decide) dJ0_length_8abf5_4 ?_
  refine lv_aload_n hx hb dJ0_length_8abf5_5 rfl (lv_at hl 0 rfl) ?_
  refine zfi (wr := []) (va_runV (As := []) (rest := [.int 5]) ⟨hx, hb, hml, hown, hG⟩ (kJ0_coder_7d4930 l g _) ⟨callB_of 0 hG (zGood g632) rfl rfl rfl (hG _ g213) (hG _ g629) hJ0_coder_7d493 ⟨Nat.le_of_ble_eq_true rfl, Nat.le_of_ble_eq_true rfl⟩, hG _ g630, hG _ g631⟩ (zpreV (vk_recv hX.2.2.2.1 (by decide) hS) hX hP hD hS hA [] rfl (by decide)) rfl rfl hl.1 rfl (lv_room (Nat.le_of_ble_eq_true rfl)) dJ0_length_8abf5_6 ⟨Nat.le_of_ble_eq_true rfl, Nat.le_of_ble_eq_true rfl⟩) hP hD hS hA [] [] rfl rfl (by decide) (by decide) (fun r1 _ H locs hp hP hD hS => ?_)
  refine W.cs (cells' := 0) (slots' := 0) rfl rfl ?_
  have hq2 : r1 = 0 := hp
  subst hq2
  have hP : va_P g.1 vwCl [] H := hP
  have hD : va_D A [] := hD
  refine lv_ishr hx hb dJ0_length_8abf5_9 ?_
  refine zt (z := 5) (by decide) ?_
  exact zri (rm := { frames := 1, cells := 0, slots := 0, locals := 20 }) (v := 5) () hx hb hr hlocks (Nat.le_of_ble_eq_true rfl) (Nat.le_of_ble_eq_true rfl) (rfl) hP hD hS dJ0_length_8abf5_10
theorem dX6_wordIs_0 : decode cX6_wordIs 0 = .ok (.aload_n 0, 1) := by decide +kernel
theorem dX6_wordIs_1 : decode cX6_wordIs 1 = .ok (.getfield 83, 3) := by decide +kernel
theorem dX6_wordIs_4 : decode cX6_wordIs 4 = .ok (.aload_n 0, 1) := by decide +kernel
theorem dX6_wordIs_5 : decode cX6_wordIs 5 = .ok (.getfield 70, 3) := by decide +kernel
theorem dX6_wordIs_8 : decode cX6_wordIs 8 = .ok (.isub, 1) := by decide +kernel
theorem dX6_wordIs_9 : decode cX6_wordIs 9 = .ok (.aload_n 1, 1) := by decide +kernel
theorem dX6_wordIs_10 : decode cX6_wordIs 10 = .ok (.invokevirtual 104, 3) := by decide +kernel
theorem dX6_wordIs_13 : decode cX6_wordIs 13 = .ok (.if_icmp .ne 7, 3) := by decide +kernel
theorem dX6_wordIs_20 : decode cX6_wordIs 20 = .ok (.iconst 0, 1) := by decide +kernel
theorem dX6_wordIs_21 : decode cX6_wordIs 21 = .ok (.istore_n 2, 1) := by decide +kernel
theorem dX6_wordIs_22 : decode cX6_wordIs 22 = .ok (.iconst 0, 1) := by decide +kernel
theorem dX6_wordIs_23 : decode cX6_wordIs 23 = .ok (.istore_n 3, 1) := by decide +kernel
theorem dX6_wordIs_24 : decode cX6_wordIs 24 = .ok (.iload_n 2, 1) := by decide +kernel
theorem dX6_wordIs_25 : decode cX6_wordIs 25 = .ok (.ifCond .eq 44, 3) := by decide +kernel
theorem dX6_wordIs_69 : decode cX6_wordIs 69 = .ok (.iload_n 2, 1) := by decide +kernel
theorem dX6_wordIs_70 : decode cX6_wordIs 70 = .ok (.ireturn, 1) := by decide +kernel
set_option maxHeartbeats 4000000 in
set_option maxRecDepth 100000 in
theorem kX6_wordIs0 (l : Launch) (g : zL) (xr : Nat) (xt : Nat) (dr : Nat) : zCi l g yX6_wordIs cX6_wordIs 4 (some .boolean) { frames := 2, cells := 0, slots := 0, locals := 40 } [.ref xr, .ref (g.2.2.1 0)] [(xr, .inr (6, [.ref xt, .ref dr, .int 0, .int 0, .int 0, .int 1, .int 0]))] (fun (r : Int32) (u : Unit) => r = 0) (fun (u : Unit) => [(xr, .inr (6, [.ref xt, .ref dr, .int 0, .int 0, .int 0, .int 1, .int 0]))]) := by
  refine zCi.mk (by decide) (Nat.le_of_ble_eq_true rfl) ?_
  intro p e s m below meth c A hE hP hD hS ls hl
  obtain ⟨hx, hb, hr, hml, hown, hG, hlocks, hnm, hX, hA⟩ := hE
  have hown : s.vm.findClass RX6 = some m.cls := hown
  have hl : lv_has ls 4 [(0, .ref xr), (1, .ref (g.2.2.1 0))] := hl
  refine lv_aload_n hx hb dX6_wordIs_0 rfl (lv_at hl 0 rfl) ?_
  refine va_get (D := g.1) (ci := 6) (v := .int 0) (C := RX6) (T := TX6) (N := 7) hx hb hG iX6 hown hX.1 hP 0 rfl rfl 2 (by decide) (hG _ g253) (fun _ h9 => h9) rfl dX6_wordIs_1 ?_
  refine lv_aload_n hx hb dX6_wordIs_4 rfl (lv_at hl 0 rfl) ?_
  refine va_get (D := g.1) (ci := 6) (v := .int 0) (C := RX6) (T := TX6) (N := 7) hx hb hG iX6 hown hX.1 hP 0 rfl rfl 3 (by decide) (hG _ g254) (fun _ h9 => h9) rfl dX6_wordIs_5 ?_
  refine lv_isub hx hb dX6_wordIs_8 ?_
  refine zt (z := 0) (by decide) ?_
  refine lv_aload_n hx hb dX6_wordIs_9 rfl (lv_at hl 1 rfl) ?_
  refine zfi (wr := [(xr, .inr (6, [.ref xt, .ref dr, .int 0, .int 0, .int 0, .int 1, .int 0]))]) (va_runV (As := []) (rest := [.int 0]) ⟨hx, hb, hml, hown, hG⟩ (kJ0_length_8abf50 l g _) ⟨callB_of 0 hG (zGood g628) rfl rfl rfl (hG _ g213) (hG _ g625) hJ0_length_8abf5 ⟨Nat.le_of_ble_eq_true rfl, Nat.le_of_ble_eq_true rfl⟩, hG _ g626, hG _ g627⟩ (zpreV (vk_recv hX.2.2.2.1 (by decide) hS) hX hP hD hS hA [] rfl (by decide)) rfl rfl hl.1 rfl (lv_room (Nat.le_of_ble_eq_true rfl)) dX6_wordIs_10 ⟨Nat.le_of_ble_eq_true rfl, Nat.le_of_ble_eq_true rfl⟩) hP hD hS hA [] [0] rfl rfl (by decide) (by decide) (fun r1 _ H locs hp hP hD hS => ?_)
  refine W.cs (cells' := 0) (slots' := 0) rfl rfl ?_
  have hq2 : r1 = 5 := hp
  subst hq2
  have hP : va_P g.1 vwCl [(xr, .inr (6, [.ref xt, .ref dr, .int 0, .int 0, .int 0, .int 1, .int 0]))] H := hP
  have hD : va_D A [(xr, .inr (6, [.ref xt, .ref dr, .int 0, .int 0, .int 0, .int 1, .int 0]))] := hD
  refine lv_icmp_ne (tgt := 20) hx hb dX6_wordIs_13 (by decide) (fun c13 => ?_) (fun c13 => absurd c13 (by decide))
  refine lv_iconst (v := 0) hx hb dX6_wordIs_20 (by decide) ?_
  refine lv_istore_n (lv' := [(2, .int 0), (0, .ref xr), (1, .ref (g.2.2.1 0))]) hx hb dX6_wordIs_21 rfl hl (by decide) rfl (fun ls hl => ?_)
  refine lv_iconst (v := 0) hx hb dX6_wordIs_22 (by decide) ?_
  refine lv_istore_n (lv' := [(3, .int 0), (2, .int 0), (0, .ref xr), (1, .ref (g.2.2.1 0))]) hx hb dX6_wordIs_23 rfl hl (by decide) rfl (fun ls hl => ?_)
  refine lv_iload_n hx hb dX6_wordIs_24 rfl (lv_at hl 1 rfl) ?_
  refine lv_if_eq (tgt := 69) hx hb dX6_wordIs_25 (by decide) (fun c25 => ?_) (fun c25 => (c25 (by decide)).elim)
  refine lv_iload_n hx hb dX6_wordIs_69 rfl (lv_at hl 1 rfl) ?_
  exact zrz (rm := { frames := 2, cells := 0, slots := 0, locals := 40 }) (v := 0) () hx hb hr hlocks (rfl) (Nat.le_of_ble_eq_true rfl) (Nat.le_of_ble_eq_true rfl) (rfl) hP hD hS dX6_wordIs_70
theorem dX6_keyword_0 : decode cX6_keyword 0 = .ok (.aload_n 0, 1) := by decide +kernel
theorem dX6_keyword_1 : decode cX6_keyword 1 = .ok (.invokevirtual 33, 3) := by decide +kernel
theorem dX6_keyword_4 : decode cX6_keyword 4 = .ok (.aload_n 0, 1) := by decide +kernel
theorem dX6_keyword_5 : decode cX6_keyword 5 = .ok (.aload_n 1, 1) := by decide +kernel
theorem dX6_keyword_6 : decode cX6_keyword 6 = .ok (.invokevirtual 38, 3) := by decide +kernel
theorem dX6_keyword_9 : decode cX6_keyword 9 = .ok (.ifCond .ne 12, 3) := by decide +kernel
theorem dX6_keyword_12 : decode cX6_keyword 12 = .ok (.aload_n 0, 1) := by decide +kernel
theorem dX6_keyword_13 : decode cX6_keyword 13 = .ok (.iconst 1, 1) := by decide +kernel
theorem dX6_keyword_14 : decode cX6_keyword 14 = .ok (.aload_n 0, 1) := by decide +kernel
theorem dX6_keyword_15 : decode cX6_keyword 15 = .ok (.getfield 70, 3) := by decide +kernel
theorem dX6_keyword_18 : decode cX6_keyword 18 = .ok (.invokevirtual 73, 3) := by decide +kernel
theorem dX6_keyword_21 : decode cX6_keyword 21 = .ok (.return_, 1) := by decide +kernel
set_option maxHeartbeats 4000000 in
set_option maxRecDepth 100000 in
theorem kX6_keyword0 (l : Launch) (g : zL) (xr : Nat) (xt : Nat) (dr : Nat) (xb : Nat) : zCv l g yX6_keyword cX6_keyword 2 none { frames := 3, cells := 0, slots := 0, locals := 63 } [.ref xr, .ref (g.2.2.1 0)] [(xr, .inr (6, [.ref xt, .ref dr, .int 0, .int 0, .int (-1), .int 0, .int (-1)])), (xt, .inr (7, [.ref xb, .int 0]))] (fun (u : Unit) => True) (fun (u : Unit) => [(xr, .inr (6, [.ref xt, .ref dr, .int 0, .int 0, .int 0, .int 1, .int 0])), (xt, .inr (7, [.ref xb, .int 0]))]) := by
  refine zCv.mk (by decide) (Nat.le_of_ble_eq_true rfl) ?_
  intro p e s m below meth c A hE hP hD hS ls hl
  obtain ⟨hx, hb, hr, hml, hown, hG, hlocks, hnm, hX, hA⟩ := hE
  have hown : s.vm.findClass RX6 = some m.cls := hown
  have hl : lv_has ls 2 [(0, .ref xr), (1, .ref (g.2.2.1 0))] := hl
  refine lv_aload_n hx hb dX6_keyword_0 rfl (lv_at hl 0 rfl) ?_
  refine zfv (wr := []) (va_runV (As := []) (rest := []) ⟨hx, hb, hml, hown, hG⟩ (kX6_readWorda l g xr xt dr xb _) ⟨callB_of 0 hG (zGood g605) rfl rfl rfl (hG _ g204) (hG _ g602) hX6_readWord ⟨Nat.le_of_ble_eq_true rfl, Nat.le_of_ble_eq_true rfl⟩, hG _ g604, hG _ g9⟩ (zpreV (va_recv hX.1 hP (ci := 6) (q0 := 0) rfl rfl) hX hP hD hS hA [0, 1] rfl (by decide)) rfl rfl hl.1 rfl (lv_room (Nat.le_of_ble_eq_true rfl)) dX6_keyword_1 ⟨Nat.le_of_ble_eq_true rfl, Nat.le_of_ble_eq_true rfl⟩) hP hD hS hA [0, 1] [] rfl rfl (by decide) (by decide) (fun _ H locs hp hP hD hS => ?_)
  refine W.cs (cells' := 0) (slots' := 0) rfl rfl ?_
  have hP : va_P g.1 vwCl [(xr, .inr (6, [.ref xt, .ref dr, .int 0, .int 0, .int 0, .int 1, .int 0])), (xt, .inr (7, [.ref xb, .int 0]))] H := hP
  have hD : va_D A [(xr, .inr (6, [.ref xt, .ref dr, .int 0, .int 0, .int 0, .int 1, .int 0])), (xt, .inr (7, [.ref xb, .int 0]))] := hD
  refine lv_aload_n hx hb dX6_keyword_4 rfl (lv_at hl 0 rfl) ?_
  refine lv_aload_n hx hb dX6_keyword_5 rfl (lv_at hl 1 rfl) ?_
  refine zfi (wr := [(xt, .inr (7, [.ref xb, .int 0]))]) (va_runV (As := [.ref (g.2.2.1 0)]) (rest := []) ⟨hx, hb, hml, hown, hG⟩ (kX6_wordIs0 l g xr xt dr _) ⟨callB_of 1 hG (zGood g624) rfl rfl rfl (hG _ g204) (hG _ g621) hX6_wordIs ⟨Nat.le_of_ble_eq_true rfl, Nat.le_of_ble_eq_true rfl⟩, hG _ g623, hG _ g13⟩ (zpreV (va_recv hX.1 hP (ci := 6) (q0 := 0) rfl rfl) hX hP hD hS hA [0] rfl (by decide)) rfl rfl hl.1 rfl (lv_room (Nat.le_of_ble_eq_true rfl)) dX6_keyword_6 ⟨Nat.le_of_ble_eq_true rfl, Nat.le_of_ble_eq_true rfl⟩) hP hD hS hA [0] [1] rfl rfl (by decide) (by decide) (fun r2 _ H locs hp hP hD hS => ?_)
  refine W.cs (cells' := 0) (slots' := 0) rfl rfl ?_
  have hq3 : r2 = 0 := hp
  subst hq3
  have hP : va_P g.1 vwCl [(xt, .inr (7, [.ref xb, .int 0])), (xr, .inr (6, [.ref xt, .ref dr, .int 0, .int 0, .int 0, .int 1, .int 0]))] H := hP
  have hD : va_D A [(xt, .inr (7, [.ref xb, .int 0])), (xr, .inr (6, [.ref xt, .ref dr, .int 0, .int 0, .int 0, .int 1, .int 0]))] := hD
  refine lv_if_ne (tgt := 21) hx hb dX6_keyword_9 (by decide) (fun c9 => (c9 (by decide)).elim) (fun c9 => ?_)
  refine lv_aload_n hx hb dX6_keyword_12 rfl (lv_at hl 0 rfl) ?_
  refine lv_iconst (v := 1) hx hb dX6_keyword_13 (by decide) ?_
  refine lv_aload_n hx hb dX6_keyword_14 rfl (lv_at hl 0 rfl) ?_
  refine va_get (D := g.1) (ci := 6) (v := .int 0) (C := RX6) (T := TX6) (N := 7) hx hb hG iX6 hown hX.1 hP 1 rfl rfl 3 (by decide) (hG _ g254) (fun _ h9 => h9) rfl dX6_keyword_15 ?_
  refine zfv (wr := [(xt, .inr (7, [.ref xb, .int 0]))]) (va_runV (As := [.int 1, .int 0]) (rest := []) ⟨hx, hb, hml, hown, hG⟩ (kX6_failb l g xr 1 0 xt dr 0 0 0 0 _) ⟨callB_of 2 hG (zGood g620) rfl rfl rfl (hG _ g204) (hG _ g617) hX6_fail ⟨Nat.le_of_ble_eq_true rfl, Nat.le_of_ble_eq_true rfl⟩, hG _ g619, hG _ g12⟩ (zpreV (va_recv hX.1 hP (ci := 6) (q0 := 1) rfl rfl) hX hP hD hS hA [1] rfl (by decide)) rfl rfl hl.1 rfl (lv_room (Nat.le_of_ble_eq_true rfl)) dX6_keyword_18 ⟨Nat.le_of_ble_eq_true rfl, Nat.le_of_ble_eq_true rfl⟩) hP hD hS hA [1] [0] rfl rfl (by decide) (by decide) (fun _ H locs hp hP hD hS => ?_)
  refine W.cs (cells' := 0) (slots' := 0) rfl rfl ?_
  have hP : va_P g.1 vwCl [(xt, .inr (7, [.ref xb, .int 0])), (xr, .inr (6, [.ref xt, .ref dr, .int 0, .int 0, .int 0, .int 1, .int 0]))] H := hP
  have hD : va_D A [(xt, .inr (7, [.ref xb, .int 0])), (xr, .inr (6, [.ref xt, .ref dr, .int 0, .int 0, .int 0, .int 1, .int 0]))] := hD
  exact zrv (rm := { frames := 3, cells := 0, slots := 0, locals := 63 }) () hx hb hr hlocks (Nat.le_of_ble_eq_true rfl) (Nat.le_of_ble_eq_true rfl) (trivial) (hP.sub [1, 0] rfl) (hD.sub [1, 0] (by decide) rfl) hS dX6_keyword_21
set_option maxHeartbeats 4000000 in
set_option maxRecDepth 100000 in
theorem kJ0_coder_7d4931 (l : Launch) (g : zL) : zCi l g yJ0_coder_7d493 cJ0_coder_7d493 1 (some .byte) { frames := 0, cells := 0, slots := 0, locals := 0 } [.ref (g.2.2.1 1)] [] (fun (r : Int32) (u : Unit) => r = 0) (fun (u : Unit) => []) := by
  refine zCi.mk (by decide) (Nat.le_of_ble_eq_true rfl) ?_
  intro p e s m below meth c A hE hP hD hS ls hl
  obtain ⟨hx, hb, hr, hml, hown, hG, hlocks, hnm, hX, hA⟩ := hE
  have hown : s.vm.findClass RJ0 = some m.cls := hown
  have hl : lv_has ls 1 [(0, .ref (g.2.2.1 1))] := hl
  refine va_gets hx hb hX.2.2.2.2.1 hS hown (hG _ g633) (fun _ h9 => h9) dJ0_coder_7d493_0 ?_
  refine lv_if_eq (tgt := 13) hx hb dJ0_coder_7d493_3 (by decide) (fun c3 => absurd c3 (by decide)) (fun c3 => ?_)
  refine lv_aload_n hx hb dJ0_coder_7d493_6 rfl (lv_at hl 0 rfl) ?_
  refine vk_getf (v := .int 0) hx hb (hX.2.2.2.1.1 1 (by decide)).2.1 hS hown (hG _ g2059) (fun _ h9 => h9) dJ0_coder_7d493_7 ?_
  refine lv_goto (tgt := 14) hx hb dJ0_coder_7d493_10 (by decide) ?_
  exact zrz (rm := { frames := 0, cells := 0, slots := 0, locals := 0 }) (v := 0) () hx hb hr hlocks (rfl) (Nat.le_of_ble_eq_true rfl) (Nat.le_of_ble_eq_true rfl) (rfl) hP hD hS dJ0_coder_7d493_14
set_option maxHeartbeats 4000000 in
set_option maxRecDepth 100000 in
theorem kJ0_length_8abf51 (l : Launch) (g : zL) : zCi l g yJ0_length_8abf5 cJ0_length_8abf5 1 (some .int) { frames := 1, cells := 0, slots := 0, locals := 20 } [.ref (g.2.2.1 1)] [] (fun (r : Int32) (u : Unit) => r = 5) (fun (u : Unit) => []) := by
  refine zCi.mk (by decide) (Nat.le_of_ble_eq_true rfl) ?_
  intro p e s m below meth c A hE hP hD hS ls hl
  obtain ⟨hx, hb, hr, hml, hown, hG, hlocks, hnm, hX, hA⟩ := hE
  have hown : s.vm.findClass RJ0 = some m.cls := hown
  have hl : lv_has ls 1 [(0, .ref (g.2.2.1 1))] := hl
  refine lv_aload_n hx hb dJ0_length_8abf5_0 rfl (lv_at hl 0 rfl) ?_
  refine vk_getf (v := .ref (g.2.2.2.1 1)) hx hb (hX.2.2.2.1.1 1 (by decide)).2.2.1 hS hown (hG _ g2058) (fun _ h9 => h9) dJ0_length_8abf5_1 ?_
  refine va_tlen (v := 5) hx hb (hX.2.2.2.1.1 1 (by decide)).2.2.2 hS (by decide) dJ0_length_8abf5_4 ?_
  refine lv_aload_n hx hb dJ0_length_8abf5_5 rfl (lv_at hl 0 rfl) ?_
  refine zfi (wr := []) (va_runV (As := []) (rest := [.int 5]) ⟨hx, hb, hml, hown, hG⟩ (kJ0_coder_7d4931 l g _) ⟨callB_of 0 hG (zGood g632) rfl rfl rfl (hG _ g213) (hG _ g629) hJ0_coder_7d493 ⟨Nat.le_of_ble_eq_true rfl, Nat.le_of_ble_eq_true rfl⟩, hG _ g630, hG _ g631⟩ (zpreV (vk_recv hX.2.2.2.1 (by decide) hS) hX hP hD hS hA [] rfl (by decide)) rfl rfl hl.1 rfl (lv_room (Nat.le_of_ble_eq_true rfl)) dJ0_length_8abf5_6 ⟨Nat.le_of_ble_eq_true rfl, Nat.le_of_ble_eq_true rfl⟩) hP hD hS hA [] [] rfl rfl (by decide) (by decide) (fun r1 _ H locs hp hP hD hS => ?_)
  refine W.cs (cells' := 0) (slots' := 0) rfl rfl ?_
  have hq2 : r1 = 0 := hp
  subst hq2
  have hP : va_P g.1 vwCl [] H := hP
  have hD : va_D A [] := hD
  refine lv_ishr hx hb dJ0_length_8abf5_9 ?_
  refine zt (z := 5) (by decide) ?_
  exact zri (rm := { frames := 1, cells := 0, slots := 0, locals := 20 }) (v := 5) () hx hb hr hlocks (Nat.le_of_ble_eq_true rfl) (Nat.le_of_ble_eq_true rfl) (rfl) hP hD hS dJ0_length_8abf5_10
set_option maxHeartbeats 4000000 in
set_option maxRecDepth 100000 in
theorem kX6_wordIs1 (l : Launch) (g : zL) (xr : Nat) (xt : Nat) (dr : Nat) : zCi l g yX6_wordIs cX6_wordIs 4 (some .boolean) { frames := 2, cells := 0, slots := 0, locals := 40 } [.ref xr, .ref (g.2.2.1 1)] [(xr, .inr (6, [.ref xt, .ref dr, .int 0, .int 0, .int 0, .int 1, .int 0]))] (fun (r : Int32) (u : Unit) => r = 0) (fun (u : Unit) => [(xr, .inr (6, [.ref xt, .ref dr, .int 0, .int 0, .int 0, .int 1, .int 0]))]) := by
  refine zCi.mk (by decide) (Nat.le_of_ble_eq_true rfl) ?_
  intro p e s m below meth c A hE hP hD hS ls hl
  obtain ⟨hx, hb, hr, hml, hown, hG, hlocks, hnm, hX, hA⟩ := hE
  have hown : s.vm.findClass RX6 = some m.cls := hown
  have hl : lv_has ls 4 [(0, .ref xr), (1, .ref (g.2.2.1 1))] := hl
  refine lv_aload_n hx hb dX6_wordIs_0 rfl (lv_at hl 0 rfl) ?_
  refine va_get (D := g.1) (ci := 6) (v := .int 0) (C := RX6) (T := TX6) (N := 7) hx hb hG iX6 hown hX.1 hP 0 rfl rfl 2 (by decide) (hG _ g253) (fun _ h9 => h9) rfl dX6_wordIs_1 ?_
  refine lv_aload_n hx hb dX6_wordIs_4 rfl (lv_at hl 0 rfl) ?_
  refine va_get (D := g.1) (ci := 6) (v := .int 0) (C := RX6) (T := TX6) (N := 7) hx hb hG iX6 hown hX.1 hP 0 rfl rfl 3 (by decide) (hG _ g254) (fun _ h9 => h9) rfl dX6_wordIs_5 ?_
  refine lv_isub hx hb dX6_wordIs_8 ?_
  refine zt (z := 0) (by decide) ?_
  refine lv_aload_n hx hb dX6_wordIs_9 rfl (lv_at hl 1 rfl) ?_
  refine zfi (wr := [(xr, .inr (6, [.ref xt, .ref dr, .int 0, .int 0, .int 0, .int 1, .int 0]))]) (va_runV (As := []) (rest := [.int 0]) ⟨hx, hb, hml, hown, hG⟩ (kJ0_length_8abf51 l g _) ⟨callB_of 0 hG (zGood g628) rfl rfl rfl (hG _ g213) (hG _ g625) hJ0_length_8abf5 ⟨Nat.le_of_ble_eq_true rfl, Nat.le_of_ble_eq_true rfl⟩, hG _ g626, hG _ g627⟩ (zpreV (vk_recv hX.2.2.2.1 (by decide) hS) hX hP hD hS hA [] rfl (by decide)) rfl rfl hl.1 rfl (lv_room (Nat.le_of_ble_eq_true rfl)) dX6_wordIs_10 ⟨Nat.le_of_ble_eq_true rfl, Nat.le_of_ble_eq_true rfl⟩) hP hD hS hA [] [0] rfl rfl (by decide) (by decide) (fun r1 _ H locs hp hP hD hS => ?_)
  refine W.cs (cells' := 0) (slots' := 0) rfl rfl ?_
  have hq2 : r1 = 5 := hp
  subst hq2
  have hP : va_P g.1 vwCl [(xr, .inr (6, [.ref xt, .ref dr, .int 0, .int 0, .int 0, .int 1, .int 0]))] H := hP
  have hD : va_D A [(xr, .inr (6, [.ref xt, .ref dr, .int 0, .int 0, .int 0, .int 1, .int 0]))] := hD
  refine lv_icmp_ne (tgt := 20) hx hb dX6_wordIs_13 (by decide) (fun c13 => ?_) (fun c13 => absurd c13 (by decide))
  refine lv_iconst (v := 0) hx hb dX6_wordIs_20 (by decide) ?_
  refine lv_istore_n (lv' := [(2, .int 0), (0, .ref xr), (1, .ref (g.2.2.1 1))]) hx hb dX6_wordIs_21 rfl hl (by decide) rfl (fun ls hl => ?_)
  refine lv_iconst (v := 0) hx hb dX6_wordIs_22 (by decide) ?_
  refine lv_istore_n (lv' := [(3, .int 0), (2, .int 0), (0, .ref xr), (1, .ref (g.2.2.1 1))]) hx hb dX6_wordIs_23 rfl hl (by decide) rfl (fun ls hl => ?_)
  refine lv_iload_n hx hb dX6_wordIs_24 rfl (lv_at hl 1 rfl) ?_
  refine lv_if_eq (tgt := 69) hx hb dX6_wordIs_25 (by decide) (fun c25 => ?_) (fun c25 => (c25 (by decide)).elim)
  refine lv_iload_n hx hb dX6_wordIs_69 rfl (lv_at hl 1 rfl) ?_
  exact zrz (rm := { frames := 2, cells := 0, slots := 0, locals := 40 }) (v := 0) () hx hb hr hlocks (rfl) (Nat.le_of_ble_eq_true rfl) (Nat.le_of_ble_eq_true rfl) (rfl) hP hD hS dX6_wordIs_70
set_option maxHeartbeats 4000000 in
set_option maxRecDepth 100000 in
theorem kX6_keyword1 (l : Launch) (g : zL) (xr : Nat) (xt : Nat) (dr : Nat) (xb : Nat) : zCv l g yX6_keyword cX6_keyword 2 none { frames := 3, cells := 0, slots := 0, locals := 63 } [.ref xr, .ref (g.2.2.1 1)] [(xr, .inr (6, [.ref xt, .ref dr, .int 0, .int 0, .int 0, .int 1, .int 0])), (xt, .inr (7, [.ref xb, .int 0]))] (fun (u : Unit) => True) (fun (u : Unit) => [(xr, .inr (6, [.ref xt, .ref dr, .int 0, .int 0, .int 0, .int 1, .int 0])), (xt, .inr (7, [.ref xb, .int 0]))]) := by
  refine zCv.mk (by decide) (Nat.le_of_ble_eq_true rfl) ?_
  intro p e s m below meth c A hE hP hD hS ls hl
  obtain ⟨hx, hb, hr, hml, hown, hG, hlocks, hnm, hX, hA⟩ := hE
  have hown : s.vm.findClass RX6 = some m.cls := hown
  have hl : lv_has ls 2 [(0, .ref xr), (1, .ref (g.2.2.1 1))] := hl
  refine lv_aload_n hx hb dX6_keyword_0 rfl (lv_at hl 0 rfl) ?_
  refine zfv (wr := []) (va_runV (As := []) (rest := []) ⟨hx, hb, hml, hown, hG⟩ (kX6_readWordb l g xr xt dr xb _) ⟨callB_of 0 hG (zGood g605) rfl rfl rfl (hG _ g204) (hG _ g602) hX6_readWord ⟨Nat.le_of_ble_eq_true rfl, Nat.le_of_ble_eq_true rfl⟩, hG _ g604, hG _ g9⟩ (zpreV (va_recv hX.1 hP (ci := 6) (q0 := 0) rfl rfl) hX hP hD hS hA [0, 1] rfl (by decide)) rfl rfl hl.1 rfl (lv_room (Nat.le_of_ble_eq_true rfl)) dX6_keyword_1 ⟨Nat.le_of_ble_eq_true rfl, Nat.le_of_ble_eq_true rfl⟩) hP hD hS hA [0, 1] [] rfl rfl (by decide) (by decide) (fun _ H locs hp hP hD hS => ?_)
  refine W.cs (cells' := 0) (slots' := 0) rfl rfl ?_
  have hP : va_P g.1 vwCl [(xr, .inr (6, [.ref xt, .ref dr, .int 0, .int 0, .int 0, .int 1, .int 0])), (xt, .inr (7, [.ref xb, .int 0]))] H := hP
  have hD : va_D A [(xr, .inr (6, [.ref xt, .ref dr, .int 0, .int 0, .int 0, .int 1, .int 0])), (xt, .inr (7, [.ref xb, .int 0]))] := hD
  refine lv_aload_n hx hb dX6_keyword_4 rfl (lv_at hl 0 rfl) ?_
  refine lv_aload_n hx hb dX6_keyword_5 rfl (lv_at hl 1 rfl) ?_
  refine zfi (wr := [(xt, .inr (7, [.ref xb, .int 0]))]) (va_runV (As := [.ref (g.2.2.1 1)]) (rest := []) ⟨hx, hb, hml, hown, hG⟩ (kX6_wordIs1 l g xr xt dr _) ⟨callB_of 1 hG (zGood g624) rfl rfl rfl (hG _ g204) (hG _ g621) hX6_wordIs ⟨Nat.le_of_ble_eq_true rfl, Nat.le_of_ble_eq_true rfl⟩, hG _ g623, hG _ g13⟩ (zpreV (va_recv hX.1 hP (ci := 6) (q0 := 0) rfl rfl) hX hP hD hS hA [0] rfl (by decide)) rfl rfl hl.1 rfl (lv_room (Nat.le_of_ble_eq_true rfl)) dX6_keyword_6 ⟨Nat.le_of_ble_eq_true rfl, Nat.le_of_ble_eq_true rfl⟩) hP hD hS hA [0] [1] rfl rfl (by decide) (by decide) (fun r2 _ H locs hp hP hD hS => ?_)
  refine W.cs (cells' := 0) (slots' := 0) rfl rfl ?_
  have hq3 : r2 = 0 := hp
  subst hq3
  have hP : va_P g.1 vwCl [(xt, .inr (7, [.ref xb, .int 0])), (xr, .inr (6, [.ref xt, .ref dr, .int 0, .int 0, .int 0, .int 1, .int 0]))] H := hP
  have hD : va_D A [(xt, .inr (7, [.ref xb, .int 0])), (xr, .inr (6, [.ref xt, .ref dr, .int 0, .int 0, .int 0, .int 1, .int 0]))] := hD
  refine lv_if_ne (tgt := 21) hx hb dX6_keyword_9 (by decide) (fun c9 => (c9 (by decide)).elim) (fun c9 => ?_)
  refine lv_aload_n hx hb dX6_keyword_12 rfl (lv_at hl 0 rfl) ?_
  refine lv_iconst (v := 1) hx hb dX6_keyword_13 (by decide) ?_
  refine lv_aload_n hx hb dX6_keyword_14 rfl (lv_at hl 0 rfl) ?_
  refine va_get (D := g.1) (ci := 6) (v := .int 0) (C := RX6) (T := TX6) (N := 7) hx hb hG iX6 hown hX.1 hP 1 rfl rfl 3 (by decide) (hG _ g254) (fun _ h9 => h9) rfl dX6_keyword_15 ?_
  refine zfv (wr := [(xt, .inr (7, [.ref xb, .int 0]))]) (va_runV (As := [.int 1, .int 0]) (rest := []) ⟨hx, hb, hml, hown, hG⟩ (kX6_failb l g xr 1 0 xt dr 0 0 0 0 _) ⟨callB_of 2 hG (zGood g620) rfl rfl rfl (hG _ g204) (hG _ g617) hX6_fail ⟨Nat.le_of_ble_eq_true rfl, Nat.le_of_ble_eq_true rfl⟩, hG _ g619, hG _ g12⟩ (zpreV (va_recv hX.1 hP (ci := 6) (q0 := 1) rfl rfl) hX hP hD hS hA [1] rfl (by decide)) rfl rfl hl.1 rfl (lv_room (Nat.le_of_ble_eq_true rfl)) dX6_keyword_18 ⟨Nat.le_of_ble_eq_true rfl, Nat.le_of_ble_eq_true rfl⟩) hP hD hS hA [1] [0] rfl rfl (by decide) (by decide) (fun _ H locs hp hP hD hS => ?_)
  refine W.cs (cells' := 0) (slots' := 0) rfl rfl ?_
  have hP : va_P g.1 vwCl [(xt, .inr (7, [.ref xb, .int 0])), (xr, .inr (6, [.ref xt, .ref dr, .int 0, .int 0, .int 0, .int 1, .int 0]))] H := hP
  have hD : va_D A [(xt, .inr (7, [.ref xb, .int 0])), (xr, .inr (6, [.ref xt, .ref dr, .int 0, .int 0, .int 0, .int 1, .int 0]))] := hD
  exact zrv (rm := { frames := 3, cells := 0, slots := 0, locals := 63 }) () hx hb hr hlocks (Nat.le_of_ble_eq_true rfl) (Nat.le_of_ble_eq_true rfl) (trivial) (hP.sub [1, 0] rfl) (hD.sub [1, 0] (by decide) rfl) hS dX6_keyword_21
set_option maxHeartbeats 4000000 in
set_option maxRecDepth 100000 in
theorem kJ0_coder_7d4932 (l : Launch) (g : zL) : zCi l g yJ0_coder_7d493 cJ0_coder_7d493 1 (some .byte) { frames := 0, cells := 0, slots := 0, locals := 0 } [.ref (g.2.2.1 2)] [] (fun (r : Int32) (u : Unit) => r = 0) (fun (u : Unit) => []) := by
  refine zCi.mk (by decide) (Nat.le_of_ble_eq_true rfl) ?_
  intro p e s m below meth c A hE hP hD hS ls hl
  obtain ⟨hx, hb, hr, hml, hown, hG, hlocks, hnm, hX, hA⟩ := hE
  have hown : s.vm.findClass RJ0 = some m.cls := hown
  have hl : lv_has ls 1 [(0, .ref (g.2.2.1 2))] := hl
  refine va_gets hx hb hX.2.2.2.2.1 hS hown (hG _ g633) (fun _ h9 => h9) dJ0_coder_7d493_0 ?_
  refine lv_if_eq (tgt := 13) hx hb dJ0_coder_7d493_3 (by decide) (fun c3 => absurd c3 (by decide)) (fun c3 => ?_)
  refine lv_aload_n hx hb dJ0_coder_7d493_6 rfl (lv_at hl 0 rfl) ?_
  refine vk_getf (v := .int 0) hx hb (hX.2.2.2.1.1 2 (by decide)).2.1 hS hown (hG _ g2059) (fun _ h9 => h9) dJ0_coder_7d493_7 ?_
  refine lv_goto (tgt := 14) hx hb dJ0_coder_7d493_10 (by decide) ?_
  exact zrz (rm := { frames := 0, cells := 0, slots := 0, locals := 0 }) (v := 0) () hx hb hr hlocks (rfl) (Nat.le_of_ble_eq_true rfl) (Nat.le_of_ble_eq_true rfl) (rfl) hP hD hS dJ0_coder_7d493_14
set_option maxHeartbeats 4000000 in
set_option maxRecDepth 100000 in
theorem kJ0_length_8abf52 (l : Launch) (g : zL) : zCi l g yJ0_length_8abf5 cJ0_length_8abf5 1 (some .int) { frames := 1, cells := 0, slots := 0, locals := 20 } [.ref (g.2.2.1 2)] [] (fun (r : Int32) (u : Unit) => r = 4) (fun (u : Unit) => []) := by
  refine zCi.mk (by decide) (Nat.le_of_ble_eq_true rfl) ?_
  intro p e s m below meth c A hE hP hD hS ls hl
  obtain ⟨hx, hb, hr, hml, hown, hG, hlocks, hnm, hX, hA⟩ := hE
  have hown : s.vm.findClass RJ0 = some m.cls := hown
  have hl : lv_has ls 1 [(0, .ref (g.2.2.1 2))] := hl
  refine lv_aload_n hx hb dJ0_length_8abf5_0 rfl (lv_at hl 0 rfl) ?_
  refine vk_getf (v := .ref (g.2.2.2.1 2)) hx hb (hX.2.2.2.1.1 2 (by decide)).2.2.1 hS hown (hG _ g2058) (fun _ h9 => h9) dJ0_length_8abf5_1 ?_
  refine va_tlen (v := 4) hx hb (hX.2.2.2.1.1 2 (by decide)).2.2.2 hS (by decide) dJ0_length_8abf5_4 ?_
  refine lv_aload_n hx hb dJ0_length_8abf5_5 rfl (lv_at hl 0 rfl) ?_
  refine zfi (wr := []) (va_runV (As := []) (rest := [.int 4]) ⟨hx, hb, hml, hown, hG⟩ (kJ0_coder_7d4932 l g _) ⟨callB_of 0 hG (zGood g632) rfl rfl rfl (hG _ g213) (hG _ g629) hJ0_coder_7d493 ⟨Nat.le_of_ble_eq_true rfl, Nat.le_of_ble_eq_true rfl⟩, hG _ g630, hG _ g631⟩ (zpreV (vk_recv hX.2.2.2.1 (by decide) hS) hX hP hD hS hA [] rfl (by decide)) rfl rfl hl.1 rfl (lv_room (Nat.le_of_ble_eq_true rfl)) dJ0_length_8abf5_6 ⟨Nat.le_of_ble_eq_true rfl, Nat.le_of_ble_eq_true rfl⟩) hP hD hS hA [] [] rfl rfl (by decide) (by decide) (fun r1 _ H locs hp hP hD hS => ?_)
  refine W.cs (cells' := 0) (slots' := 0) rfl rfl ?_
  have hq2 : r1 = 0 := hp
  subst hq2
  have hP : va_P g.1 vwCl [] H := hP
  have hD : va_D A [] := hD
  refine lv_ishr hx hb dJ0_length_8abf5_9 ?_
  refine zt (z := 4) (by decide) ?_
  exact zri (rm := { frames := 1, cells := 0, slots := 0, locals := 20 }) (v := 4) () hx hb hr hlocks (Nat.le_of_ble_eq_true rfl) (Nat.le_of_ble_eq_true rfl) (rfl) hP hD hS dJ0_length_8abf5_10
set_option maxHeartbeats 4000000 in
set_option maxRecDepth 100000 in
theorem kX6_wordIs2 (l : Launch) (g : zL) (xr : Nat) (xt : Nat) (dr : Nat) : zCi l g yX6_wordIs cX6_wordIs 4 (some .boolean) { frames := 2, cells := 0, slots := 0, locals := 40 } [.ref xr, .ref (g.2.2.1 2)] [(xr, .inr (6, [.ref xt, .ref dr, .int 0, .int 0, .int 0, .int 1, .int 0]))] (fun (r : Int32) (u : Unit) => r = 0) (fun (u : Unit) => [(xr, .inr (6, [.ref xt, .ref dr, .int 0, .int 0, .int 0, .int 1, .int 0]))]) := by
  refine zCi.mk (by decide) (Nat.le_of_ble_eq_true rfl) ?_
  intro p e s m below meth c A hE hP hD hS ls hl
  obtain ⟨hx, hb, hr, hml, hown, hG, hlocks, hnm, hX, hA⟩ := hE
  have hown : s.vm.findClass RX6 = some m.cls := hown
  have hl : lv_has ls 4 [(0, .ref xr), (1, .ref (g.2.2.1 2))] := hl
  refine lv_aload_n hx hb dX6_wordIs_0 rfl (lv_at hl 0 rfl) ?_
  refine va_get (D := g.1) (ci := 6) (v := .int 0) (C := RX6) (T := TX6) (N := 7) hx hb hG iX6 hown hX.1 hP 0 rfl rfl 2 (by decide) (hG _ g253) (fun _ h9 => h9) rfl dX6_wordIs_1 ?_
  refine lv_aload_n hx hb dX6_wordIs_4 rfl (lv_at hl 0 rfl) ?_
  refine va_get (D := g.1) (ci := 6) (v := .int 0) (C := RX6) (T := TX6) (N := 7) hx hb hG iX6 hown hX.1 hP 0 rfl rfl 3 (by decide) (hG _ g254) (fun _ h9 => h9) rfl dX6_wordIs_5 ?_
  refine lv_isub hx hb dX6_wordIs_8 ?_
  refine zt (z := 0) (by decide) ?_
  refine lv_aload_n hx hb dX6_wordIs_9 rfl (lv_at hl 1 rfl) ?_
  refine zfi (wr := [(xr, .inr (6, [.ref xt, .ref dr, .int 0, .int 0, .int 0, .int 1, .int 0]))]) (va_runV (As := []) (rest := [.int 0]) ⟨hx, hb, hml, hown, hG⟩ (kJ0_length_8abf52 l g _) ⟨callB_of 0 hG (zGood g628) rfl rfl rfl (hG _ g213) (hG _ g625) hJ0_length_8abf5 ⟨Nat.le_of_ble_eq_true rfl, Nat.le_of_ble_eq_true rfl⟩, hG _ g626, hG _ g627⟩ (zpreV (vk_recv hX.2.2.2.1 (by decide) hS) hX hP hD hS hA [] rfl (by decide)) rfl rfl hl.1 rfl (lv_room (Nat.le_of_ble_eq_true rfl)) dX6_wordIs_10 ⟨Nat.le_of_ble_eq_true rfl, Nat.le_of_ble_eq_true rfl⟩) hP hD hS hA [] [0] rfl rfl (by decide) (by decide) (fun r1 _ H locs hp hP hD hS => ?_)
  refine W.cs (cells' := 0) (slots' := 0) rfl rfl ?_
  have hq2 : r1 = 4 := hp
  subst hq2
  have hP : va_P g.1 vwCl [(xr, .inr (6, [.ref xt, .ref dr, .int 0, .int 0, .int 0, .int 1, .int 0]))] H := hP
  have hD : va_D A [(xr, .inr (6, [.ref xt, .ref dr, .int 0, .int 0, .int 0, .int 1, .int 0]))] := hD
  refine lv_icmp_ne (tgt := 20) hx hb dX6_wordIs_13 (by decide) (fun c13 => ?_) (fun c13 => absurd c13 (by decide))
  refine lv_iconst (v := 0) hx hb dX6_wordIs_20 (by decide) ?_
  refine lv_istore_n (lv' := [(2, .int 0), (0, .ref xr), (1, .ref (g.2.2.1 2))]) hx hb dX6_wordIs_21 rfl hl (by decide) rfl (fun ls hl => ?_)
  refine lv_iconst (v := 0) hx hb dX6_wordIs_22 (by decide) ?_
  refine lv_istore_n (lv' := [(3, .int 0), (2, .int 0), (0, .ref xr), (1, .ref (g.2.2.1 2))]) hx hb dX6_wordIs_23 rfl hl (by decide) rfl (fun ls hl => ?_)
  refine lv_iload_n hx hb dX6_wordIs_24 rfl (lv_at hl 1 rfl) ?_
  refine lv_if_eq (tgt := 69) hx hb dX6_wordIs_25 (by decide) (fun c25 => ?_) (fun c25 => (c25 (by decide)).elim)
  refine lv_iload_n hx hb dX6_wordIs_69 rfl (lv_at hl 1 rfl) ?_
  exact zrz (rm := { frames := 2, cells := 0, slots := 0, locals := 40 }) (v := 0) () hx hb hr hlocks (rfl) (Nat.le_of_ble_eq_true rfl) (Nat.le_of_ble_eq_true rfl) (rfl) hP hD hS dX6_wordIs_70
set_option maxHeartbeats 4000000 in
set_option maxRecDepth 100000 in
theorem kX6_keyword2 (l : Launch) (g : zL) (xr : Nat) (xt : Nat) (dr : Nat) (xb : Nat) : zCv l g yX6_keyword cX6_keyword 2 none { frames := 3, cells := 0, slots := 0, locals := 63 } [.ref xr, .ref (g.2.2.1 2)] [(xr, .inr (6, [.ref xt, .ref dr, .int 0, .int 0, .int 0, .int 1, .int 0])), (xt, .inr (7, [.ref xb, .int 0]))] (fun (u : Unit) => True) (fun (u : Unit) => [(xr, .inr (6, [.ref xt, .ref dr, .int 0, .int 0, .int 0, .int 1, .int 0])), (xt, .inr (7, [.ref xb, .int 0]))]) := by
  refine zCv.mk (by decide) (Nat.le_of_ble_eq_true rfl) ?_
  intro p e s m below meth c A hE hP hD hS ls hl
  obtain ⟨hx, hb, hr, hml, hown, hG, hlocks, hnm, hX, hA⟩ := hE
  have hown : s.vm.findClass RX6 = some m.cls := hown
  have hl : lv_has ls 2 [(0, .ref xr), (1, .ref (g.2.2.1 2))] := hl
  refine lv_aload_n hx hb dX6_keyword_0 rfl (lv_at hl 0 rfl) ?_
  refine zfv (wr := []) (va_runV (As := []) (rest := []) ⟨hx, hb, hml, hown, hG⟩ (kX6_readWordb l g xr xt dr xb _) ⟨callB_of 0 hG (zGood g605) rfl rfl rfl (hG _ g204) (hG _ g602) hX6_readWord ⟨Nat.le_of_ble_eq_true rfl, Nat.le_of_ble_eq_true rfl⟩, hG _ g604, hG _ g9⟩ (zpreV (va_recv hX.1 hP (ci := 6) (q0 := 0) rfl rfl) hX hP hD hS hA [0, 1] rfl (by decide)) rfl rfl hl.1 rfl (lv_room (Nat.le_of_ble_eq_true rfl)) dX6_keyword_1 ⟨Nat.le_of_ble_eq_true rfl, Nat.le_of_ble_eq_true rfl⟩) hP hD hS hA [0, 1] [] rfl rfl (by decide) (by decide) (fun _ H locs hp hP hD hS => ?_)
  refine W.cs (cells' := 0) (slots' := 0) rfl rfl ?_
  have hP : va_P g.1 vwCl [(xr, .inr (6, [.ref xt, .ref dr, .int 0, .int 0, .int 0, .int 1, .int 0])), (xt, .inr (7, [.ref xb, .int 0]))] H := hP
  have hD : va_D A [(xr, .inr (6, [.ref xt, .ref dr, .int 0, .int 0, .int 0, .int 1, .int 0])), (xt, .inr (7, [.ref xb, .int 0]))] := hD
  refine lv_aload_n hx hb dX6_keyword_4 rfl (lv_at hl 0 rfl) ?_
  refine lv_aload_n hx hb dX6_keyword_5 rfl (lv_at hl 1 rfl) ?_
  refine zfi (wr := [(xt, .inr (7, [.ref xb, .int 0]))]) (va_runV (As := [.ref (g.2.2.1 2)]) (rest := []) ⟨hx, hb, hml, hown, hG⟩ (kX6_wordIs2 l g xr xt dr _) ⟨callB_of 1 hG (zGood g624) rfl rfl rfl (hG _ g204) (hG _ g621) hX6_wordIs ⟨Nat.le_of_ble_eq_true rfl, Nat.le_of_ble_eq_true rfl⟩, hG _ g623, hG _ g13⟩ (zpreV (va_recv hX.1 hP (ci := 6) (q0 := 0) rfl rfl) hX hP hD hS hA [0] rfl (by decide)) rfl rfl hl.1 rfl (lv_room (Nat.le_of_ble_eq_true rfl)) dX6_keyword_6 ⟨Nat.le_of_ble_eq_true rfl, Nat.le_of_ble_eq_true rfl⟩) hP hD hS hA [0] [1] rfl rfl (by decide) (by decide) (fun r2 _ H locs hp hP hD hS => ?_)
  refine W.cs (cells' := 0) (slots' := 0) rfl rfl ?_
  have hq3 : r2 = 0 := hp
  subst hq3
  have hP : va_P g.1 vwCl [(xt, .inr (7, [.ref xb, .int 0])), (xr, .inr (6, [.ref xt, .ref dr, .int 0, .int 0, .int 0, .int 1, .int 0]))] H := hP
  have hD : va_D A [(xt, .inr (7, [.ref xb, .int 0])), (xr, .inr (6, [.ref xt, .ref dr, .int 0, .int 0, .int 0, .int 1, .int 0]))] := hD
  refine lv_if_ne (tgt := 21) hx hb dX6_keyword_9 (by decide) (fun c9 => (c9 (by decide)).elim) (fun c9 => ?_)
  refine lv_aload_n hx hb dX6_keyword_12 rfl (lv_at hl 0 rfl) ?_
  refine lv_iconst (v := 1) hx hb dX6_keyword_13 (by decide) ?_
  refine lv_aload_n hx hb dX6_keyword_14 rfl (lv_at hl 0 rfl) ?_
  refine va_get (D := g.1) (ci := 6) (v := .int 0) (C := RX6) (T := TX6) (N := 7) hx hb hG iX6 hown hX.1 hP 1 rfl rfl 3 (by decide) (hG _ g254) (fun _ h9 => h9) rfl dX6_keyword_15 ?_
  refine zfv (wr := [(xt, .inr (7, [.ref xb, .int 0]))]) (va_runV (As := [.int 1, .int 0]) (rest := []) ⟨hx, hb, hml, hown, hG⟩ (kX6_failb l g xr 1 0 xt dr 0 0 0 0 _) ⟨callB_of 2 hG (zGood g620) rfl rfl rfl (hG _ g204) (hG _ g617) hX6_fail ⟨Nat.le_of_ble_eq_true rfl, Nat.le_of_ble_eq_true rfl⟩, hG _ g619, hG _ g12⟩ (zpreV (va_recv hX.1 hP (ci := 6) (q0 := 1) rfl rfl) hX hP hD hS hA [1] rfl (by decide)) rfl rfl hl.1 rfl (lv_room (Nat.le_of_ble_eq_true rfl)) dX6_keyword_18 ⟨Nat.le_of_ble_eq_true rfl, Nat.le_of_ble_eq_true rfl⟩) hP hD hS hA [1] [0] rfl rfl (by decide) (by decide) (fun _ H locs hp hP hD hS => ?_)
  refine W.cs (cells' := 0) (slots' := 0) rfl rfl ?_
  have hP : va_P g.1 vwCl [(xt, .inr (7, [.ref xb, .int 0])), (xr, .inr (6, [.ref xt, .ref dr, .int 0, .int 0, .int 0, .int 1, .int 0]))] H := hP
  have hD : va_D A [(xt, .inr (7, [.ref xb, .int 0])), (xr, .inr (6, [.ref xt, .ref dr, .int 0, .int 0, .int 0, .int 1, .int 0]))] := hD
  exact zrv (rm := { frames := 3, cells := 0, slots := 0, locals := 63 }) () hx hb hr hlocks (Nat.le_of_ble_eq_true rfl) (Nat.le_of_ble_eq_true rfl) (trivial) (hP.sub [1, 0] rfl) (hD.sub [1, 0] (by decide) rfl) hS dX6_keyword_21
theorem dX6_number_0 : decode cX6_number 0 = .ok (.aload_n 0, 1) := by decide +kernel
theorem dX6_number_1 : decode cX6_number 1 = .ok (.invokevirtual 89, 3) := by decide +kernel
theorem dX6_number_4 : decode cX6_number 4 = .ok (.iconst 0, 1) := by decide +kernel
theorem dX6_number_5 : decode cX6_number 5 = .ok (.istore_n 3, 1) := by decide +kernel
theorem dX6_number_6 : decode cX6_number 6 = .ok (.aload_n 0, 1) := by decide +kernel
theorem dX6_number_7 : decode cX6_number 7 = .ok (.getfield 83, 3) := by decide +kernel
theorem dX6_number_10 : decode cX6_number 10 = .ok (.aload_n 0, 1) := by decide +kernel
theorem dX6_number_11 : decode cX6_number 11 = .ok (.getfield 15, 3) := by decide +kernel
theorem dX6_number_14 : decode cX6_number 14 = .ok (.getfield 92, 3) := by decide +kernel
theorem dX6_number_17 : decode cX6_number 17 = .ok (.if_icmp .ge 66, 3) := by decide +kernel
theorem dX6_number_83 : decode cX6_number 83 = .ok (.aload_n 0, 1) := by decide +kernel
theorem dX6_number_84 : decode cX6_number 84 = .ok (.getfield 70, 3) := by decide +kernel
theorem dX6_number_87 : decode cX6_number 87 = .ok (.aload_n 0, 1) := by decide +kernel
theorem dX6_number_88 : decode cX6_number 88 = .ok (.getfield 86, 3) := by decide +kernel
theorem dX6_number_91 : decode cX6_number 91 = .ok (.if_icmp .ne 12, 3) := by decide +kernel
theorem dX6_number_94 : decode cX6_number 94 = .ok (.aload_n 0, 1) := by decide +kernel
theorem dX6_number_95 : decode cX6_number 95 = .ok (.iconst 1, 1) := by decide +kernel
theorem dX6_number_96 : decode cX6_number 96 = .ok (.aload_n 0, 1) := by decide +kernel
theorem dX6_number_97 : decode cX6_number 97 = .ok (.getfield 70, 3) := by decide +kernel
theorem dX6_number_100 : decode cX6_number 100 = .ok (.invokevirtual 73, 3) := by decide +kernel
theorem dX6_number_103 : decode cX6_number 103 = .ok (.aload_n 0, 1) := by decide +kernel
theorem dX6_number_104 : decode cX6_number 104 = .ok (.getfield 83, 3) := by decide +kernel
theorem dX6_number_107 : decode cX6_number 107 = .ok (.aload_n 0, 1) := by decide +kernel
theorem dX6_number_108 : decode cX6_number 108 = .ok (.getfield 70, 3) := by decide +kernel
theorem dX6_number_111 : decode cX6_number 111 = .ok (.if_icmp .eq 20, 3) := by decide +kernel
theorem dX6_number_131 : decode cX6_number 131 = .ok (.aload_n 0, 1) := by decide +kernel
theorem dX6_number_132 : decode cX6_number 132 = .ok (.iconst 1, 1) := by decide +kernel
theorem dX6_number_133 : decode cX6_number 133 = .ok (.aload_n 0, 1) := by decide +kernel
theorem dX6_number_134 : decode cX6_number 134 = .ok (.getfield 83, 3) := by decide +kernel
theorem dX6_number_137 : decode cX6_number 137 = .ok (.invokevirtual 73, 3) := by decide +kernel
theorem dX6_number_140 : decode cX6_number 140 = .ok (.iload_n 3, 1) := by decide +kernel
theorem dX6_number_141 : decode cX6_number 141 = .ok (.iload_n 1, 1) := by decide +kernel
theorem dX6_number_142 : decode cX6_number 142 = .ok (.if_icmp .lt 8, 3) := by decide +kernel
theorem dX6_number_150 : decode cX6_number 150 = .ok (.aload_n 0, 1) := by decide +kernel
theorem dX6_number_151 : decode cX6_number 151 = .ok (.iconst 2, 1) := by decide +kernel
theorem dX6_number_152 : decode cX6_number 152 = .ok (.aload_n 0, 1) := by decide +kernel
theorem dX6_number_153 : decode cX6_number 153 = .ok (.getfield 70, 3) := by decide +kernel
theorem dX6_number_156 : decode cX6_number 156 = .ok (.invokevirtual 73, 3) := by decide +kernel
theorem dX6_number_159 : decode cX6_number 159 = .ok (.aload_n 0, 1) := by decide +kernel
theorem dX6_number_160 : decode cX6_number 160 = .ok (.aload_n 0, 1) := by decide +kernel
theorem dX6_number_161 : decode cX6_number 161 = .ok (.getfield 83, 3) := by decide +kernel
theorem dX6_number_164 : decode cX6_number 164 = .ok (.putfield 86, 3) := by decide +kernel
theorem dX6_number_167 : decode cX6_number 167 = .ok (.iload_n 3, 1) := by decide +kernel
theorem dX6_number_168 : decode cX6_number 168 = .ok (.ireturn, 1) := by decide +kernel
set_option maxHeartbeats 4000000 in
set_option maxRecDepth 100000 in
theorem kX6_numbera (l : Launch) (g : zL) (xr : Nat) (xt : Nat) (dr : Nat) (xb : Nat) : zCi l g yX6_number cX6_number 4 (some .int) { frames := 1, cells := 0, slots := 0, locals := 22 } [.ref xr, .int 1, .int 9] [(xr, .inr (6, [.ref xt, .ref dr, .int 0, .int 0, .int 0, .int 1, .int 0])), (xt, .inr (7, [.ref xb, .int 0]))] (fun (r : Int32) (u : Unit) => r = 0) (fun (u : Unit) => [(xr, .inr (6, [.ref xt, .ref dr, .int 0, .int 0, .int 0, .int 1, .int 0])), (xt, .inr (7, [.ref xb, .int 0]))]) := by
  refine zCi.mk (by decide) (Nat.le_of_ble_eq_true rfl) ?_
  intro p e s m below meth c A hE hP hD hS ls hl
  obtain ⟨hx, hb, hr, hml, hown, hG, hlocks, hnm, hX, hA⟩ := hE
  have hown : s.vm.findClass RX6 = some m.cls := hown
  have hl : lv_has ls 4 [(0, .ref xr), (1, .int 1), (2, .int 9)] := hl
  refine lv_aload_n hx hb dX6_number_0 rfl (lv_at hl 0 rfl) ?_
  refine zfv (wr := []) (va_runV (As := []) (rest := []) ⟨hx, hb, hml, hown, hG⟩ (kX6_skipBlanks l g xr xt dr 0 0 1 0 xb _) ⟨callB_of 0 hG (zGood g609) rfl rfl rfl (hG _ g204) (hG _ g606) hX6_skipBlanks ⟨Nat.le_of_ble_eq_true rfl, Nat.le_of_ble_eq_true rfl⟩, hG _ g608, hG _ g10⟩ (zpreV (va_recv hX.1 hP (ci := 6) (q0 := 0) rfl rfl) hX hP hD hS hA [0, 1] rfl (by decide)) rfl rfl hl.1 rfl (lv_room (Nat.le_of_ble_eq_true rfl)) dX6_number_1 ⟨Nat.le_of_ble_eq_true rfl, Nat.le_of_ble_eq_true rfl⟩) hP hD hS hA [0, 1] [] rfl rfl (by decide) (by decide) (fun _ H locs hp hP hD hS => ?_)
  refine W.cs (cells' := 0) (slots' := 0) rfl rfl ?_
  have hP : va_P g.1 vwCl [(xr, .inr (6, [.ref xt, .ref dr, .int 0, .int 0, .int 0, .int 1, .int 0])), (xt, .inr (7, [.ref xb, .int 0]))] H := hP
  have hD : va_D A [(xr, .inr (6, [.ref xt, .ref dr, .int 0, .int 0, .int 0, .int 1, .int 0])), (xt, .inr (7, [.ref xb, .int 0]))] := hD
  refine lv_iconst (v := 0) hx hb dX6_number_4 (by decide) ?_
  refine lv_istore_n (lv' := [(3, .int 0), (0, .ref xr), (1, .int 1), (2, .int 9)]) hx hb dX6_number_5 rfl hl (by decide) rfl (fun ls hl => ?_)
  refine lv_aload_n hx hb dX6_number_6 rfl (lv_at hl 1 rfl) ?_
  refine va_get (D := g.1) (ci := 6) (v := .int 0) (C := RX6) (T := TX6) (N := 7) hx hb hG iX6 hown hX.1 hP 0 rfl rfl 2 (by decide) (hG _ g253) (fun _ h9 => h9) rfl dX6_number_7 ?_
  refine lv_aload_n hx hb dX6_number_10 rfl (lv_at hl 1 rfl) ?_
  refine va_get (D := g.1) (ci := 6) (v := .ref xt) (C := RX6) (T := TX6) (N := 7) hx hb hG iX6 hown hX.1 hP 0 rfl rfl 0 (by decide) (hG _ g251) (fun _ h9 => h9) rfl dX6_number_11 ?_
  refine va_getN (D := g.1) (ci := 7) (v := .int 0) (C := RX7) (T := TX7) (N := 2) hx hb hG iX7 hown hX.1 hP 1 rfl rfl 1 (by decide) (hX.2.1.fl g238) (fun _ h9 => h9) rfl dX6_number_14 ?_
  refine lv_icmp_ge (tgt := 83) hx hb dX6_number_17 (by decide) (fun c17 => ?_) (fun c17 => (c17 (by decide)).elim)
  refine lv_aload_n hx hb dX6_number_83 rfl (lv_at hl 1 rfl) ?_
  refine va_get (D := g.1) (ci := 6) (v := .int 0) (C := RX6) (T := TX6) (N := 7) hx hb hG iX6 hown hX.1 hP 0 rfl rfl 3 (by decide) (hG _ g254) (fun _ h9 => h9) rfl dX6_number_84 ?_
  refine lv_aload_n hx hb dX6_number_87 rfl (lv_at hl 1 rfl) ?_
  refine va_get (D := g.1) (ci := 6) (v := .int 0) (C := RX6) (T := TX6) (N := 7) hx hb hG iX6 hown hX.1 hP 0 rfl rfl 4 (by decide) (hG _ g255) (fun _ h9 => h9) rfl dX6_number_88 ?_
  refine lv_icmp_ne (tgt := 103) hx hb dX6_number_91 (by decide) (fun c91 => (c91 (by decide)).elim) (fun c91 => ?_)
  refine lv_aload_n hx hb dX6_number_94 rfl (lv_at hl 1 rfl) ?_
  refine lv_iconst (v := 1) hx hb dX6_number_95 (by decide) ?_
  refine lv_aload_n hx hb dX6_number_96 rfl (lv_at hl 1 rfl) ?_
  refine va_get (D := g.1) (ci := 6) (v := .int 0) (C := RX6) (T := TX6) (N := 7) hx hb hG iX6 hown hX.1 hP 0 rfl rfl 3 (by decide) (hG _ g254) (fun _ h9 => h9) rfl dX6_number_97 ?_
  refine zfv (wr := [(xt, .inr (7, [.ref xb, .int 0]))]) (va_runV (As := [.int 1, .int 0]) (rest := []) ⟨hx, hb, hml, hown, hG⟩ (kX6_failb l g xr 1 0 xt dr 0 0 0 0 _) ⟨callB_of 2 hG (zGood g620) rfl rfl rfl (hG _ g204) (hG _ g617) hX6_fail ⟨Nat.le_of_ble_eq_true rfl, Nat.le_of_ble_eq_true rfl⟩, hG _ g619, hG _ g12⟩ (zpreV (va_recv hX.1 hP (ci := 6) (q0 := 0) rfl rfl) hX hP hD hS hA [0] rfl (by decide)) rfl rfl hl.1 rfl (lv_room (Nat.le_of_ble_eq_true rfl)) dX6_number_100 ⟨Nat.le_of_ble_eq_true rfl, Nat.le_of_ble_eq_true rfl⟩) hP hD hS hA [0] [1] rfl rfl (by decide) (by decide) (fun _ H locs hp hP hD hS => ?_)
  refine W.cs (cells' := 0) (slots' := 0) rfl rfl ?_
  have hP : va_P g.1 vwCl [(xt, .inr (7, [.ref xb, .int 0])), (xr, .inr (6, [.ref xt, .ref dr, .int 0, .int 0, .int 0, .int 1, .int 0]))] H := hP
  have hD : va_D A [(xt, .inr (7, [.ref xb, .int 0])), (xr, .inr (6, [.ref xt, .ref dr, .int 0, .int 0, .int 0, .int 1, .int 0]))] := hD
  refine lv_aload_n hx hb dX6_number_103 rfl (lv_at hl 1 rfl) ?_
  refine va_get (D := g.1) (ci := 6) (v := .int 0) (C := RX6) (T := TX6) (N := 7) hx hb hG iX6 hown hX.1 hP 1 rfl rfl 2 (by decide) (hG _ g253) (fun _ h9 => h9) rfl dX6_number_104 ?_
  refine lv_aload_n hx hb dX6_number_107 rfl (lv_at hl 1 rfl) ?_
  refine va_get (D := g.1) (ci := 6) (v := .int 0) (C := RX6) (T := TX6) (N := 7) hx hb hG iX6 hown hX.1 hP 1 rfl rfl 3 (by decide) (hG _ g254) (fun _ h9 => h9) rfl dX6_number_108 ?_
  refine lv_icmp_eq (tgt := 131) hx hb dX6_number_111 (by decide) (fun c111 => ?_) (fun c111 => (c111 (by decide)).elim)
  refine lv_aload_n hx hb dX6_number_131 rfl (lv_at hl 1 rfl) ?_
  refine lv_iconst (v := 1) hx hb dX6_number_132 (by decide) ?_
  refine lv_aload_n hx hb dX6_number_133 rfl (lv_at hl 1 rfl) ?_
  refine va_get (D := g.1) (ci := 6) (v := .int 0) (C := RX6) (T := TX6) (N := 7) hx hb hG iX6 hown hX.1 hP 1 rfl rfl 2 (by decide) (hG _ g253) (fun _ h9 => h9) rfl dX6_number_134 ?_
  refine zfv (wr := [(xt, .inr (7, [.ref xb, .int 0]))]) (va_runV (As := [.int 1, .int 0]) (rest := []) ⟨hx, hb, hml, hown, hG⟩ (kX6_failb l g xr 1 0 xt dr 0 0 0 0 _) ⟨callB_of 2 hG (zGood g620) rfl rfl rfl (hG _ g204) (hG _ g617) hX6_fail ⟨Nat.le_of_ble_eq_true rfl, Nat.le_of_ble_eq_true rfl⟩, hG _ g619, hG _ g12⟩ (zpreV (va_recv hX.1 hP (ci := 6) (q0 := 1) rfl rfl) hX hP hD hS hA [1] rfl (by decide)) rfl rfl hl.1 rfl (lv_room (Nat.le_of_ble_eq_true rfl)) dX6_number_137 ⟨Nat.le_of_ble_eq_true rfl, Nat.le_of_ble_eq_true rfl⟩) hP hD hS hA [1] [0] rfl rfl (by decide) (by decide) (fun _ H locs hp hP hD hS => ?_)
  refine W.cs (cells' := 0) (slots' := 0) rfl rfl ?_
  have hP : va_P g.1 vwCl [(xt, .inr (7, [.ref xb, .int 0])), (xr, .inr (6, [.ref xt, .ref dr, .int 0, .int 0, .int 0, .int 1, .int 0]))] H := hP
  have hD : va_D A [(xt, .inr (7, [.ref xb, .int 0])), (xr, .inr (6, [.ref xt, .ref dr, .int 0, .int 0, .int 0, .int 1, .int 0]))] := hD
  refine lv_iload_n hx hb dX6_number_140 rfl (lv_at hl 0 rfl) ?_
  refine lv_iload_n hx hb dX6_number_141 rfl (lv_at hl 2 rfl) ?_
  refine lv_icmp_lt (tgt := 150) hx hb dX6_number_142 (by decide) (fun c142 => ?_) (fun c142 => (c142 (by decide)).elim)
  refine lv_aload_n hx hb dX6_number_150 rfl (lv_at hl 1 rfl) ?_
  refine lv_iconst (v := 2) hx hb dX6_number_151 (by decide) ?_
  refine lv_aload_n hx hb dX6_number_152 rfl (lv_at hl 1 rfl) ?_
  refine va_get (D := g.1) (ci := 6) (v := .int 0) (C := RX6) (T := TX6) (N := 7) hx hb hG iX6 hown hX.1 hP 1 rfl rfl 3 (by decide) (hG _ g254) (fun _ h9 => h9) rfl dX6_number_153 ?_
  refine zfv (wr := [(xt, .inr (7, [.ref xb, .int 0]))]) (va_runV (As := [.int 2, .int 0]) (rest := []) ⟨hx, hb, hml, hown, hG⟩ (kX6_failb l g xr 2 0 xt dr 0 0 0 0 _) ⟨callB_of 2 hG (zGood g620) rfl rfl rfl (hG _ g204) (hG _ g617) hX6_fail ⟨Nat.le_of_ble_eq_true rfl, Nat.le_of_ble_eq_true rfl⟩, hG _ g619, hG _ g12⟩ (zpreV (va_recv hX.1 hP (ci := 6) (q0 := 1) rfl rfl) hX hP hD hS hA [1] rfl (by decide)) rfl rfl hl.1 rfl (lv_room (Nat.le_of_ble_eq_true rfl)) dX6_number_156 ⟨Nat.le_of_ble_eq_true rfl, Nat.le_of_ble_eq_true rfl⟩) hP hD hS hA [1] [0] rfl rfl (by decide) (by decide) (fun _ H locs hp hP hD hS => ?_)
  refine W.cs (cells' := 0) (slots' := 0) rfl rfl ?_
  have hP : va_P g.1 vwCl [(xt, .inr (7, [.ref xb, .int 0])), (xr, .inr (6, [.ref xt, .ref dr, .int 0, .int 0, .int 0, .int 1, .int 0]))] H := hP
  have hD : va_D A [(xt, .inr (7, [.ref xb, .int 0])), (xr, .inr (6, [.ref xt, .ref dr, .int 0, .int 0, .int 0, .int 1, .int 0]))] := hD
  refine lv_aload_n hx hb dX6_number_159 rfl (lv_at hl 1 rfl) ?_
  refine lv_aload_n hx hb dX6_number_160 rfl (lv_at hl 1 rfl) ?_
  refine va_get (D := g.1) (ci := 6) (v := .int 0) (C := RX6) (T := TX6) (N := 7) hx hb hG iX6 hown hX.1 hP 1 rfl rfl 2 (by decide) (hG _ g253) (fun _ h9 => h9) rfl dX6_number_161 ?_
  refine va_put (D := g.1) (ci := 6) (v := .int 0) (ty := .int) (C := RX6) (T := TX6) (N := 7) hx hb hG iX6 tyX6 tyX6_ok nmX6 hown hX.1 hP hD hS 1 rfl rfl 4 (by decide) (hG _ g255) (fun _ h9 => h9) rfl (by decide +kernel) rfl rfl (Nat.le_of_ble_eq_true rfl) dX6_number_164 (fun H locs hP hD hS => ?_)
  have hP : va_P g.1 vwCl [(xt, .inr (7, [.ref xb, .int 0])), (xr, .inr (6, [.ref xt, .ref dr, .int 0, .int 0, .int 0, .int 1, .int 0]))] H := hP
  have hD : va_D A [(xt, .inr (7, [.ref xb, .int 0])), (xr, .inr (6, [.ref xt, .ref dr, .int 0, .int 0, .int 0, .int 1, .int 0]))] := hD
  refine lv_iload_n hx hb dX6_number_167 rfl (lv_at hl 0 rfl) ?_
  exact zri (rm := { frames := 1, cells := 0, slots := 0, locals := 22 }) (v := 0) () hx hb hr hlocks (Nat.le_of_ble_eq_true rfl) (Nat.le_of_ble_eq_true rfl) (rfl) (hP.sub [1, 0] rfl) (hD.sub [1, 0] (by decide) rfl) hS dX6_number_168
set_option maxHeartbeats 4000000 in
set_option maxRecDepth 100000 in
theorem kX6_numberb (l : Launch) (g : zL) (xr : Nat) (xt : Nat) (dr : Nat) (xb : Nat) : zCi l g yX6_number cX6_number 4 (some .int) { frames := 1, cells := 0, slots := 0, locals := 22 } [.ref xr, .int 1, .int 60] [(xr, .inr (6, [.ref xt, .ref dr, .int 0, .int 0, .int 0, .int 1, .int 0])), (xt, .inr (7, [.ref xb, .int 0]))] (fun (r : Int32) (u : Unit) => r = 0) (fun (u : Unit) => [(xr, .inr (6, [.ref xt, .ref dr, .int 0, .int 0, .int 0, .int 1, .int 0])), (xt, .inr (7, [.ref xb, .int 0]))]) := by
  refine zCi.mk (by decide) (Nat.le_of_ble_eq_true rfl) ?_
  intro p e s m below meth c A hE hP hD hS ls hl
  obtain ⟨hx, hb, hr, hml, hown, hG, hlocks, hnm, hX, hA⟩ := hE
  have hown : s.vm.findClass RX6 = some m.cls := hown
  have hl : lv_has ls 4 [(0, .ref xr), (1, .int 1), (2, .int 60)] := hl
  refine lv_aload_n hx hb dX6_number_0 rfl (lv_at hl 0 rfl) ?_
  refine zfv (wr := []) (va_runV (As := []) (rest := []) ⟨hx, hb, hml, hown, hG⟩ (kX6_skipBlanks l g xr xt dr 0 0 1 0 xb _) ⟨callB_of 0 hG (zGood g609) rfl rfl rfl (hG _ g204) (hG _ g606) hX6_skipBlanks ⟨Nat.le_of_ble_eq_true rfl, Nat.le_of_ble_eq_true rfl⟩, hG _ g608, hG _ g10⟩ (zpreV (va_recv hX.1 hP (ci := 6) (q0 := 0) rfl rfl) hX hP hD hS hA [0, 1] rfl (by decide)) rfl rfl hl.1 rfl (lv_room (Nat.le_of_ble_eq_true rfl)) dX6_number_1 ⟨Nat.le_of_ble_eq_true rfl, Nat.le_of_ble_eq_true rfl⟩) hP hD hS hA [0, 1] [] rfl rfl (by decide) (by decide) (fun _ H locs hp hP hD hS => ?_)
  refine W.cs (cells' := 0) (slots' := 0) rfl rfl ?_
  have hP : va_P g.1 vwCl [(xr, .inr (6, [.ref xt, .ref dr, .int 0, .int 0, .int 0, .int 1, .int 0])), (xt, .inr (7, [.ref xb, .int 0]))] H := hP
  have hD : va_D A [(xr, .inr (6, [.ref xt, .ref dr, .int 0, .int 0, .int 0, .int 1, .int 0])), (xt, .inr (7, [.ref xb, .int 0]))] := hD
  refine lv_iconst (v := 0) hx hb dX6_number_4 (by decide) ?_
  refine lv_istore_n (lv' := [(3, .int 0), (0, .ref xr), (1, .int 1), (2, .int 60)]) hx hb dX6_number_5 rfl hl (by decide) rfl (fun ls hl => ?_)
  refine lv_aload_n hx hb dX6_number_6 rfl (lv_at hl 1 rfl) ?_
  refine va_get (D := g.1) (ci := 6) (v := .int 0) (C := RX6) (T := TX6) (N := 7) hx hb hG iX6 hown hX.1 hP 0 rfl rfl 2 (by decide) (hG _ g253) (fun _ h9 => h9) rfl dX6_number_7 ?_
  refine lv_aload_n hx hb dX6_number_10 rfl (lv_at hl 1 rfl) ?_
  refine va_get (D := g.1) (ci := 6) (v := .ref xt) (C := RX6) (T := TX6) (N := 7) hx hb hG iX6 hown hX.1 hP 0 rfl rfl 0 (by decide) (hG _ g251) (fun _ h9 => h9) rfl dX6_number_11 ?_
  refine va_getN (D := g.1) (ci := 7) (v := .int 0) (C := RX7) (T := TX7) (N := 2) hx hb hG iX7 hown hX.1 hP 1 rfl rfl 1 (by decide) (hX.2.1.fl g238) (fun _ h9 => h9) rfl dX6_number_14 ?_
  refine lv_icmp_ge (tgt := 83) hx hb dX6_number_17 (by decide) (fun c17 => ?_) (fun c17 => (c17 (by decide)).elim)
  refine lv_aload_n hx hb dX6_number_83 rfl (lv_at hl 1 rfl) ?_
  refine va_get (D := g.1) (ci := 6) (v := .int 0) (C := RX6) (T := TX6) (N := 7) hx hb hG iX6 hown hX.1 hP 0 rfl rfl 3 (by decide) (hG _ g254) (fun _ h9 => h9) rfl dX6_number_84 ?_
  refine lv_aload_n hx hb dX6_number_87 rfl (lv_at hl 1 rfl) ?_
  refine va_get (D := g.1) (ci := 6) (v := .int 0) (C := RX6) (T := TX6) (N := 7) hx hb hG iX6 hown hX.1 hP 0 rfl rfl 4 (by decide) (hG _ g255) (fun _ h9 => h9) rfl dX6_number_88 ?_
  refine lv_icmp_ne (tgt := 103) hx hb dX6_number_91 (by decide) (fun c91 => (c91 (by decide)).elim) (fun c91 => ?_)
  refine lv_aload_n hx hb dX6_number_94 rfl (lv_at hl 1 rfl) ?_
  refine lv_iconst (v := 1) hx hb dX6_number_95 (by decide) ?_
  refine lv_aload_n hx hb dX6_number_96 rfl (lv_at hl 1 rfl) ?_
  refine va_get (D := g.1) (ci := 6) (v := .int 0) (C := RX6) (T := TX6) (N := 7) hx hb hG iX6 hown hX.1 hP 0 rfl rfl 3 (by decide) (hG _ g254) (fun _ h9 => h9) rfl dX6_number_97 ?_
  refine zfv (wr := [(xt, .inr (7, [.ref xb, .int 0]))]) (va_runV (As := [.int 1, .int 0]) (rest := []) ⟨hx, hb, hml, hown, hG⟩ (kX6_failb l g xr 1 0 xt dr 0 0 0 0 _) ⟨callB_of 2 hG (zGood g620) rfl rfl rfl (hG _ g204) (hG _ g617) hX6_fail ⟨Nat.le_of_ble_eq_true rfl, Nat.le_of_ble_eq_true rfl⟩, hG _ g619, hG _ g12⟩ (zpreV (va_recv hX.1 hP (ci := 6) (q0 := 0) rfl rfl) hX hP hD hS hA [0] rfl (by decide)) rfl rfl hl.1 rfl (lv_room (Nat.le_of_ble_eq_true rfl)) dX6_number_100 ⟨Nat.le_of_ble_eq_true rfl, Nat.le_of_ble_eq_true rfl⟩) hP hD hS hA [0] [1] rfl rfl (by decide) (by decide) (fun _ H locs hp hP hD hS => ?_)
  refine W.cs (cells' := 0) (slots' := 0) rfl rfl ?_
  have hP : va_P g.1 vwCl [(xt, .inr (7, [.ref xb, .int 0])), (xr, .inr (6, [.ref xt, .ref dr, .int 0, .int 0, .int 0, .int 1, .int 0]))] H := hP
  have hD : va_D A [(xt, .inr (7, [.ref xb, .int 0])), (xr, .inr (6, [.ref xt, .ref dr, .int 0, .int 0, .int 0, .int 1, .int 0]))] := hD
  refine lv_aload_n hx hb dX6_number_103 rfl (lv_at hl 1 rfl) ?_
  refine va_get (D := g.1) (ci := 6) (v := .int 0) (C := RX6) (T := TX6) (N := 7) hx hb hG iX6 hown hX.1 hP 1 rfl rfl 2 (by decide) (hG _ g253) (fun _ h9 => h9) rfl dX6_number_104 ?_
  refine lv_aload_n hx hb dX6_number_107 rfl (lv_at hl 1 rfl) ?_
  refine va_get (D := g.1) (ci := 6) (v := .int 0) (C := RX6) (T := TX6) (N := 7) hx hb hG iX6 hown hX.1 hP 1 rfl rfl 3 (by decide) (hG _ g254) (fun _ h9 => h9) rfl dX6_number_108 ?_
  refine lv_icmp_eq (tgt := 131) hx hb dX6_number_111 (by decide) (fun c111 => ?_) (fun c111 => (c111 (by decide)).elim)
  refine lv_aload_n hx hb dX6_number_131 rfl (lv_at hl 1 rfl) ?_
  refine lv_iconst (v := 1) hx hb dX6_number_132 (by decide) ?_
  refine lv_aload_n hx hb dX6_number_133 rfl (lv_at hl 1 rfl) ?_
  refine va_get (D := g.1) (ci := 6) (v := .int 0) (C := RX6) (T := TX6) (N := 7) hx hb hG iX6 hown hX.1 hP 1 rfl rfl 2 (by decide) (hG _ g253) (fun _ h9 => h9) rfl dX6_number_134 ?_
  refine zfv (wr := [(xt, .inr (7, [.ref xb, .int 0]))]) (va_runV (As := [.int 1, .int 0]) (rest := []) ⟨hx, hb, hml, hown, hG⟩ (kX6_failb l g xr 1 0 xt dr 0 0 0 0 _) ⟨callB_of 2 hG (zGood g620) rfl rfl rfl (hG _ g204) (hG _ g617) hX6_fail ⟨Nat.le_of_ble_eq_true rfl, Nat.le_of_ble_eq_true rfl⟩, hG _ g619, hG _ g12⟩ (zpreV (va_recv hX.1 hP (ci := 6) (q0 := 1) rfl rfl) hX hP hD hS hA [1] rfl (by decide)) rfl rfl hl.1 rfl (lv_room (Nat.le_of_ble_eq_true rfl)) dX6_number_137 ⟨Nat.le_of_ble_eq_true rfl, Nat.le_of_ble_eq_true rfl⟩) hP hD hS hA [1] [0] rfl rfl (by decide) (by decide) (fun _ H locs hp hP hD hS => ?_)
  refine W.cs (cells' := 0) (slots' := 0) rfl rfl ?_
  have hP : va_P g.1 vwCl [(xt, .inr (7, [.ref xb, .int 0])), (xr, .inr (6, [.ref xt, .ref dr, .int 0, .int 0, .int 0, .int 1, .int 0]))] H := hP
  have hD : va_D A [(xt, .inr (7, [.ref xb, .int 0])), (xr, .inr (6, [.ref xt, .ref dr, .int 0, .int 0, .int 0, .int 1, .int 0]))] := hD
  refine lv_iload_n hx hb dX6_number_140 rfl (lv_at hl 0 rfl) ?_
  refine lv_iload_n hx hb dX6_number_141 rfl (lv_at hl 2 rfl) ?_
  refine lv_icmp_lt (tgt := 150) hx hb dX6_number_142 (by decide) (fun c142 => ?_) (fun c142 => (c142 (by decide)).elim)
  refine lv_aload_n hx hb dX6_number_150 rfl (lv_at hl 1 rfl) ?_
  refine lv_iconst (v := 2) hx hb dX6_number_151 (by decide) ?_
  refine lv_aload_n hx hb dX6_number_152 rfl (lv_at hl 1 rfl) ?_
  refine va_get (D := g.1) (ci := 6) (v := .int 0) (C := RX6) (T := TX6) (N := 7) hx hb hG iX6 hown hX.1 hP 1 rfl rfl 3 (by decide) (hG _ g254) (fun _ h9 => h9) rfl dX6_number_153 ?_
  refine zfv (wr := [(xt, .inr (7, [.ref xb, .int 0]))]) (va_runV (As := [.int 2, .int 0]) (rest := []) ⟨hx, hb, hml, hown, hG⟩ (kX6_failb l g xr 2 0 xt dr 0 0 0 0 _) ⟨callB_of 2 hG (zGood g620) rfl rfl rfl (hG _ g204) (hG _ g617) hX6_fail ⟨Nat.le_of_ble_eq_true rfl, Nat.le_of_ble_eq_true rfl⟩, hG _ g619, hG _ g12⟩ (zpreV (va_recv hX.1 hP (ci := 6) (q0 := 1) rfl rfl) hX hP hD hS hA [1] rfl (by decide)) rfl rfl hl.1 rfl (lv_room (Nat.le_of_ble_eq_true rfl)) dX6_number_156 ⟨Nat.le_of_ble_eq_true rfl, Nat.le_of_ble_eq_true rfl⟩) hP hD hS hA [1] [0] rfl rfl (by decide) (by decide) (fun _ H locs hp hP hD hS => ?_)
  refine W.cs (cells' := 0) (slots' := 0) rfl rfl ?_
  have hP : va_P g.1 vwCl [(xt, .inr (7, [.ref xb, .int 0])), (xr, .inr (6, [.ref xt, .ref dr, .int 0, .int 0, .int 0, .int 1, .int 0]))] H := hP
  have hD : va_D A [(xt, .inr (7, [.ref xb, .int 0])), (xr, .inr (6, [.ref xt, .ref dr, .int 0, .int 0, .int 0, .int 1, .int 0]))] := hD
  refine lv_aload_n hx hb dX6_number_159 rfl (lv_at hl 1 rfl) ?_
  refine lv_aload_n hx hb dX6_number_160 rfl (lv_at hl 1 rfl) ?_
  refine va_get (D := g.1) (ci := 6) (v := .int 0) (C := RX6) (T := TX6) (N := 7) hx hb hG iX6 hown hX.1 hP 1 rfl rfl 2 (by decide) (hG _ g253) (fun _ h9 => h9) rfl dX6_number_161 ?_
  refine va_put (D := g.1) (ci := 6) (v := .int 0) (ty := .int) (C := RX6) (T := TX6) (N := 7) hx hb hG iX6 tyX6 tyX6_ok nmX6 hown hX.1 hP hD hS 1 rfl rfl 4 (by decide) (hG _ g255) (fun _ h9 => h9) rfl (by decide +kernel) rfl rfl (Nat.le_of_ble_eq_true rfl) dX6_number_164 (fun H locs hP hD hS => ?_)
  have hP : va_P g.1 vwCl [(xt, .inr (7, [.ref xb, .int 0])), (xr, .inr (6, [.ref xt, .ref dr, .int 0, .int 0, .int 0, .int 1, .int 0]))] H := hP
  have hD : va_D A [(xt, .inr (7, [.ref xb, .int 0])), (xr, .inr (6, [.ref xt, .ref dr, .int 0, .int 0, .int 0, .int 1, .int 0]))] := hD
  refine lv_iload_n hx hb dX6_number_167 rfl (lv_at hl 0 rfl) ?_
  exact zri (rm := { frames := 1, cells := 0, slots := 0, locals := 22 }) (v := 0) () hx hb hr hlocks (Nat.le_of_ble_eq_true rfl) (Nat.le_of_ble_eq_true rfl) (rfl) (hP.sub [1, 0] rfl) (hD.sub [1, 0] (by decide) rfl) hS dX6_number_168
theorem dX6_semicolon_0 : decode cX6_semicolon 0 = .ok (.aload_n 0, 1) := by decide +kernel
theorem dX6_semicolon_1 : decode cX6_semicolon 1 = .ok (.invokevirtual 89, 3) := by decide +kernel
theorem dX6_semicolon_4 : decode cX6_semicolon 4 = .ok (.aload_n 0, 1) := by decide +kernel
theorem dX6_semicolon_5 : decode cX6_semicolon 5 = .ok (.getfield 15, 3) := by decide +kernel
theorem dX6_semicolon_8 : decode cX6_semicolon 8 = .ok (.aload_n 0, 1) := by decide +kernel
theorem dX6_semicolon_9 : decode cX6_semicolon 9 = .ok (.getfield 83, 3) := by decide +kernel
theorem dX6_semicolon_12 : decode cX6_semicolon 12 = .ok (.invokevirtual 97, 3) := by decide +kernel
theorem dX6_semicolon_15 : decode cX6_semicolon 15 = .ok (.bipush 59, 2) := by decide +kernel
theorem dX6_semicolon_17 : decode cX6_semicolon 17 = .ok (.if_icmp .eq 12, 3) := by decide +kernel
theorem dX6_semicolon_20 : decode cX6_semicolon 20 = .ok (.aload_n 0, 1) := by decide +kernel
theorem dX6_semicolon_21 : decode cX6_semicolon 21 = .ok (.iconst 1, 1) := by decide +kernel
theorem dX6_semicolon_22 : decode cX6_semicolon 22 = .ok (.aload_n 0, 1) := by decide +kernel
theorem dX6_semicolon_23 : decode cX6_semicolon 23 = .ok (.getfield 83, 3) := by decide +kernel
theorem dX6_semicolon_26 : decode cX6_semicolon 26 = .ok (.invokevirtual 73, 3) := by decide +kernel
theorem dX6_semicolon_29 : decode cX6_semicolon 29 = .ok (.aload_n 0, 1) := by decide +kernel
theorem dX6_semicolon_30 : decode cX6_semicolon 30 = .ok (.dup, 1) := by decide +kernel
theorem dX6_semicolon_31 : decode cX6_semicolon 31 = .ok (.getfield 83, 3) := by decide +kernel
theorem dX6_semicolon_34 : decode cX6_semicolon 34 = .ok (.iconst 1, 1) := by decide +kernel
theorem dX6_semicolon_35 : decode cX6_semicolon 35 = .ok (.iadd, 1) := by decide +kernel
theorem dX6_semicolon_36 : decode cX6_semicolon 36 = .ok (.putfield 83, 3) := by decide +kernel
theorem dX6_semicolon_39 : decode cX6_semicolon 39 = .ok (.aload_n 0, 1) := by decide +kernel
theorem dX6_semicolon_40 : decode cX6_semicolon 40 = .ok (.iconst (-1), 1) := by decide +kernel
theorem dX6_semicolon_41 : decode cX6_semicolon 41 = .ok (.putfield 86, 3) := by decide +kernel
theorem dX6_semicolon_44 : decode cX6_semicolon 44 = .ok (.aload_n 0, 1) := by decide +kernel
theorem dX6_semicolon_45 : decode cX6_semicolon 45 = .ok (.getfield 26, 3) := by decide +kernel
theorem dX6_semicolon_48 : decode cX6_semicolon 48 = .ok (.ifCond .ne 16, 3) := by decide +kernel
theorem dX6_semicolon_64 : decode cX6_semicolon 64 = .ok (.return_, 1) := by decide +kernel
set_option maxHeartbeats 4000000 in
set_option maxRecDepth 100000 in
theorem kX6_semicolon (l : Launch) (g : zL) (xr : Nat) (xt : Nat) (dr : Nat) (xb : Nat) : zCv l g yX6_semicolon cX6_semicolon 1 none { frames := 1, cells := 0, slots := 0, locals := 22 } [.ref xr] [(xr, .inr (6, [.ref xt, .ref dr, .int 0, .int 0, .int 0, .int 1, .int 0])), (xt, .inr (7, [.ref xb, .int 0]))] (fun (u : Unit) => True) (fun (u : Unit) => [(xr, .inr (6, [.ref xt, .ref dr, .int 1, .int 0, .int (-1), .int 1, .int 0])), (xt, .inr (7, [.ref xb, .int 0]))]) := by
  refine zCv.mk (by decide) (Nat.le_of_ble_eq_true rfl) ?_
  intro p e s m below meth c A hE hP hD hS ls hl
  obtain ⟨hx, hb, hr, hml, hown, hG, hlocks, hnm, hX, hA⟩ := hE
  have hown : s.vm.findClass RX6 = some m.cls := hown
  have hl : lv_has ls 1 [(0, .ref xr)] := hl
  refine lv_aload_n hx hb dX6_semicolon_0 rfl (lv_at hl 0 rfl) ?_
  refine zfv (wr := []) (va_runV (As := []) (rest := []) ⟨hx, hb, hml, hown, hG⟩ (kX6_skipBlanks l g xr xt dr 0 0 1 0 xb _) ⟨callB_of 0 hG (zGood g609) rfl rfl rfl (hG _ g204) (hG _ g606) hX6_skipBlanks ⟨Nat.le_of_ble_eq_true rfl, Nat.le_of_ble_eq_true rfl⟩, hG _ g608, hG _ g10⟩ (zpreV (va_recv hX.1 hP (ci := 6) (q0 := 0) rfl rfl) hX hP hD hS hA [0, 1] rfl (by decide)) rfl rfl hl.1 rfl (lv_room (Nat.le_of_ble_eq_true rfl)) dX6_semicolon_1 ⟨Nat.le_of_ble_eq_true rfl, Nat.le_of_ble_eq_true rfl⟩) hP hD hS hA [0, 1] [] rfl rfl (by decide) (by decide) (fun _ H locs hp hP hD hS => ?_)
  refine W.cs (cells' := 0) (slots' := 0) rfl rfl ?_
  have hP : va_P g.1 vwCl [(xr, .inr (6, [.ref xt, .ref dr, .int 0, .int 0, .int 0, .int 1, .int 0])), (xt, .inr (7, [.ref xb, .int 0]))] H := hP
  have hD : va_D A [(xr, .inr (6, [.ref xt, .ref dr, .int 0, .int 0, .int 0, .int 1, .int 0])), (xt, .inr (7, [.ref xb, .int 0]))] := hD
  refine lv_aload_n hx hb dX6_semicolon_4 rfl (lv_at hl 0 rfl) ?_
  refine va_get (D := g.1) (ci := 6) (v := .ref xt) (C := RX6) (T := TX6) (N := 7) hx hb hG iX6 hown hX.1 hP 0 rfl rfl 0 (by decide) (hG _ g251) (fun _ h9 => h9) rfl dX6_semicolon_5 ?_
  refine lv_aload_n hx hb dX6_semicolon_8 rfl (lv_at hl 0 rfl) ?_
  refine va_get (D := g.1) (ci := 6) (v := .int 0) (C := RX6) (T := TX6) (N := 7) hx hb hG iX6 hown hX.1 hP 0 rfl rfl 2 (by decide) (hG _ g253) (fun _ h9 => h9) rfl dX6_semicolon_9 ?_
  refine zfi (wr := [(xr, .inr (6, [.ref xt, .ref dr, .int 0, .int 0, .int 0, .int 1, .int 0]))]) (va_runVN (As := [.int 0]) (rest := []) ⟨hx, hb, hml, hown, hG⟩ (kX7_at l g xt xb _) ⟨va_cnB 1 hG (zGood g613) rfl rfl rfl (hX.2.1.ml g610) (hG _ g203) hX7_at ⟨Nat.le_of_ble_eq_true rfl, Nat.le_of_ble_eq_true rfl⟩, hG _ g612, hG _ g11⟩ (zpreV (va_recv hX.1 hP (ci := 7) (q0 := 1) rfl rfl) hX hP hD hS hA [1] rfl (by decide)) rfl rfl hl.1 rfl (lv_room (Nat.le_of_ble_eq_true rfl)) dX6_semicolon_12 ⟨Nat.le_of_ble_eq_true rfl, Nat.le_of_ble_eq_true rfl⟩) hP hD hS hA [1] [0] rfl rfl (by decide) (by decide) (fun r2 _ H locs hp hP hD hS => ?_)
  refine W.cs (cells' := 0) (slots' := 0) rfl rfl ?_
  have hq3 : r2 = (-1) := hp
  subst hq3
  have hP : va_P g.1 vwCl [(xr, .inr (6, [.ref xt, .ref dr, .int 0, .int 0, .int 0, .int 1, .int 0])), (xt, .inr (7, [.ref xb, .int 0]))] H := hP
  have hD : va_D A [(xr, .inr (6, [.ref xt, .ref dr, .int 0, .int 0, .int 0, .int 1, .int 0])), (xt, .inr (7, [.ref xb, .int 0]))] := hD
  refine lv_bipush (v := 59) hx hb dX6_semicolon_15 (by decide) ?_
  refine lv_icmp_eq (tgt := 29) hx hb dX6_semicolon_17 (by decide) (fun c17 => absurd c17 (by decide)) (fun c17 => ?_)
  refine lv_aload_n hx hb dX6_semicolon_20 rfl (lv_at hl 0 rfl) ?_
  refine lv_iconst (v := 1) hx hb dX6_semicolon_21 (by decide) ?_
  refine lv_aload_n hx hb dX6_semicolon_22 rfl (lv_at hl 0 rfl) ?_
  refine va_get (D := g.1) (ci := 6) (v := .int 0) (C := RX6) (T := TX6) (N := 7) hx hb hG iX6 hown hX.1 hP 0 rfl rfl 2 (by decide) (hG _ g253) (fun _ h9 => h9) rfl dX6_semicolon_23 ?_
  refine zfv (wr := [(xt, .inr (7, [.ref xb, .int 0]))]) (va_runV (As := [.int 1, .int 0]) (rest := []) ⟨hx, hb, hml, hown, hG⟩ (kX6_failb l g xr 1 0 xt dr 0 0 0 0 _) ⟨callB_of 2 hG (zGood g620) rfl rfl rfl (hG _ g204) (hG _ g617) hX6_fail ⟨Nat.le_of_ble_eq_true rfl, Nat.le_of_ble_eq_true rfl⟩, hG _ g619, hG _ g12⟩ (zpreV (va_recv hX.1 hP (ci := 6) (q0 := 0) rfl rfl) hX hP hD hS hA [0] rfl (by decide)) rfl rfl hl.1 rfl (lv_room (Nat.le_of_ble_eq_true rfl)) dX6_semicolon_26 ⟨Nat.le_of_ble_eq_true rfl, Nat.le_of_ble_eq_true rfl⟩) hP hD hS hA [0] [1] rfl rfl (by decide) (by decide) (fun _ H locs hp hP hD hS => ?_)
  refine W.cs (cells' := 0) (slots' := 0) rfl rfl ?_
  have hP : va_P g.1 vwCl [(xt, .inr (7, [.ref xb, .int 0])), (xr, .inr (6, [.ref xt, .ref dr, .int 0, .int 0, .int 0, .int 1, .int 0]))] H := hP
  have hD : va_D A [(xt, .inr (7, [.ref xb, .int 0])), (xr, .inr (6, [.ref xt, .ref dr, .int 0, .int 0, .int 0, .int 1, .int 0]))] := hD
  refine lv_aload_n hx hb dX6_semicolon_29 rfl (lv_at hl 0 rfl) ?_
  refine lv_dup hx hb dX6_semicolon_30 rfl ?_
  refine va_get (D := g.1) (ci := 6) (v := .int 0) (C := RX6) (T := TX6) (N := 7) hx hb hG iX6 hown hX.1 hP 1 rfl rfl 2 (by decide) (hG _ g253) (fun _ h9 => h9) rfl dX6_semicolon_31 ?_
  refine lv_iconst (v := 1) hx hb dX6_semicolon_34 (by decide) ?_
  refine lv_iadd hx hb dX6_semicolon_35 ?_
  refine zt (z := 1) (by decide) ?_
  refine va_put (D := g.1) (ci := 6) (v := .int 1) (ty := .int) (C := RX6) (T := TX6) (N := 7) hx hb hG iX6 tyX6 tyX6_ok nmX6 hown hX.1 hP hD hS 1 rfl rfl 2 (by decide) (hG _ g253) (fun _ h9 => h9) rfl (by decide +kernel) rfl rfl (Nat.le_of_ble_eq_true rfl) dX6_semicolon_36 (fun H locs hP hD hS => ?_)
  have hP : va_P g.1 vwCl [(xt, .inr (7, [.ref xb, .int 0])), (xr, .inr (6, [.ref xt, .ref dr, .int 1, .int 0, .int 0, .int 1, .int 0]))] H := hP
  have hD : va_D A [(xt, .inr (7, [.ref xb, .int 0])), (xr, .inr (6, [.ref xt, .ref dr, .int 1, .int 0, .int 0, .int 1, .int 0]))] := hD
  refine lv_aload_n hx hb dX6_semicolon_39 rfl (lv_at hl 0 rfl) ?_
  refine lv_iconst (v := (-1)) hx hb dX6_semicolon_40 (by decide) ?_
  refine va_put (D := g.1) (ci := 6) (v := .int (-1)) (ty := .int) (C := RX6) (T := TX6) (N := 7) hx hb hG iX6 tyX6 tyX6_ok nmX6 hown hX.1 hP hD hS 1 rfl rfl 4 (by decide) (hG _ g255) (fun _ h9 => h9) rfl (by decide +kernel) rfl rfl (Nat.le_of_ble_eq_true rfl) dX6_semicolon_41 (fun H locs hP hD hS => ?_)
  have hP : va_P g.1 vwCl [(xt, .inr (7, [.ref xb, .int 0])), (xr, .inr (6, [.ref xt, .ref dr, .int 1, .int 0, .int (-1), .int 1, .int 0]))] H := hP
  have hD : va_D A [(xt, .inr (7, [.ref xb, .int 0])), (xr, .inr (6, [.ref xt, .ref dr, .int 1, .int 0, .int (-1), .int 1, .int 0]))] := hD
  refine lv_aload_n hx hb dX6_semicolon_44 rfl (lv_at hl 0 rfl) ?_
  refine va_get (D := g.1) (ci := 6) (v := .int 1) (C := RX6) (T := TX6) (N := 7) hx hb hG iX6 hown hX.1 hP 1 rfl rfl 5 (by decide) (hG _ g256) (fun _ h9 => h9) rfl dX6_semicolon_45 ?_
  refine lv_if_ne (tgt := 64) hx hb dX6_semicolon_48 (by decide) (fun c48 => ?_) (fun c48 => absurd c48 (by decide))
  exact zrv (rm := { frames := 1, cells := 0, slots := 0, locals := 22 }) () hx hb hr hlocks (Nat.le_of_ble_eq_true rfl) (Nat.le_of_ble_eq_true rfl) (trivial) (hP.sub [1, 0] rfl) (hD.sub [1, 0] (by decide) rfl) hS dX6_semicolon_64
theorem dX6_readSheet_0 : decode cX6_readSheet 0 = .ok (.aload_n 0, 1) := by decide +kernel
theorem dX6_readSheet_1 : decode cX6_readSheet 1 = .ok (.ldc 121, 2) := by decide +kernel
theorem dX6_readSheet_3 : decode cX6_readSheet 3 = .ok (.invokevirtual 123, 3) := by decide +kernel
theorem dX6_readSheet_6 : decode cX6_readSheet 6 = .ok (.aload_n 0, 1) := by decide +kernel
theorem dX6_readSheet_7 : decode cX6_readSheet 7 = .ok (.ldc 127, 2) := by decide +kernel
theorem dX6_readSheet_9 : decode cX6_readSheet 9 = .ok (.invokevirtual 123, 3) := by decide +kernel
theorem dX6_readSheet_12 : decode cX6_readSheet 12 = .ok (.aload_n 0, 1) := by decide +kernel
theorem dX6_readSheet_13 : decode cX6_readSheet 13 = .ok (.getfield 42, 3) := by decide +kernel
theorem dX6_readSheet_16 : decode cX6_readSheet 16 = .ok (.aload_n 0, 1) := by decide +kernel
theorem dX6_readSheet_17 : decode cX6_readSheet 17 = .ok (.iconst 1, 1) := by decide +kernel
theorem dX6_readSheet_18 : decode cX6_readSheet 18 = .ok (.bipush 9, 2) := by decide +kernel
theorem dX6_readSheet_20 : decode cX6_readSheet 20 = .ok (.invokevirtual 46, 3) := by decide +kernel
theorem dX6_readSheet_23 : decode cX6_readSheet 23 = .ok (.putfield 129, 3) := by decide +kernel
theorem dX6_readSheet_26 : decode cX6_readSheet 26 = .ok (.aload_n 0, 1) := by decide +kernel
theorem dX6_readSheet_27 : decode cX6_readSheet 27 = .ok (.ldc 131, 2) := by decide +kernel
theorem dX6_readSheet_29 : decode cX6_readSheet 29 = .ok (.invokevirtual 123, 3) := by decide +kernel
theorem dX6_readSheet_32 : decode cX6_readSheet 32 = .ok (.aload_n 0, 1) := by decide +kernel
theorem dX6_readSheet_33 : decode cX6_readSheet 33 = .ok (.getfield 42, 3) := by decide +kernel
theorem dX6_readSheet_36 : decode cX6_readSheet 36 = .ok (.getfield 133, 3) := by decide +kernel
theorem dX6_readSheet_39 : decode cX6_readSheet 39 = .ok (.iconst 0, 1) := by decide +kernel
theorem dX6_readSheet_40 : decode cX6_readSheet 40 = .ok (.aload_n 0, 1) := by decide +kernel
theorem dX6_readSheet_41 : decode cX6_readSheet 41 = .ok (.iconst 1, 1) := by decide +kernel
theorem dX6_readSheet_42 : decode cX6_readSheet 42 = .ok (.bipush 60, 2) := by decide +kernel
theorem dX6_readSheet_44 : decode cX6_readSheet 44 = .ok (.invokevirtual 46, 3) := by decide +kernel
theorem dX6_readSheet_47 : decode cX6_readSheet 47 = .ok (.iastore, 1) := by decide +kernel
theorem dX6_readSheet_48 : decode cX6_readSheet 48 = .ok (.aload_n 0, 1) := by decide +kernel
theorem dX6_readSheet_49 : decode cX6_readSheet 49 = .ok (.getfield 42, 3) := by decide +kernel
theorem dX6_readSheet_52 : decode cX6_readSheet 52 = .ok (.getfield 137, 3) := by decide +kernel
theorem dX6_readSheet_55 : decode cX6_readSheet 55 = .ok (.iconst 0, 1) := by decide +kernel
theorem dX6_readSheet_56 : decode cX6_readSheet 56 = .ok (.aload_n 0, 1) := by decide +kernel
theorem dX6_readSheet_57 : decode cX6_readSheet 57 = .ok (.iconst 1, 1) := by decide +kernel
theorem dX6_readSheet_58 : decode cX6_readSheet 58 = .ok (.bipush 60, 2) := by decide +kernel
theorem dX6_readSheet_60 : decode cX6_readSheet 60 = .ok (.invokevirtual 46, 3) := by decide +kernel
theorem dX6_readSheet_63 : decode cX6_readSheet 63 = .ok (.iastore, 1) := by decide +kernel
theorem dX6_readSheet_64 : decode cX6_readSheet 64 = .ok (.aload_n 0, 1) := by decide +kernel
theorem dX6_readSheet_65 : decode cX6_readSheet 65 = .ok (.invokevirtual 77, 3) := by decide +kernel
theorem dX6_readSheet_68 : decode cX6_readSheet 68 = .ok (.aload_n 0, 1) := by decide +kernel
theorem dX6_readSheet_69 : decode cX6_readSheet 69 = .ok (.getfield 42, 3) := by decide +kernel
theorem dX6_readSheet_72 : decode cX6_readSheet 72 = .ok (.iconst 1, 1) := by decide +kernel
theorem dX6_readSheet_73 : decode cX6_readSheet 73 = .ok (.putfield 140, 3) := by decide +kernel
theorem dX6_readSheet_76 : decode cX6_readSheet 76 = .ok (.return_, 1) := by decide +kernel
set_option maxHeartbeats 4000000 in
set_option maxRecDepth 100000 in
theorem kX6_readSheet (l : Launch) (g : zL) (xr : Nat) (xt : Nat) (dr : Nat) (xb : Nat) (d_toolWidth : Nat) (d_told : Nat) (d_name : Nat) (d_parent : Nat) (d_side : Nat) (d_from : Nat) (d_width : Nat) (d_height : Nat) (d_radius : Nat) (d_toolSet : Nat) (fw : Nat → Int32) (fh : Nat → Int32) : zCv l g yX6_readSheet cX6_readSheet 1 none { frames := 4, cells := 0, slots := 0, locals := 84 } [.ref xr] [(xr, .inr (6, [.ref xt, .ref dr, .int 0, .int 0, .int (-1), .int 0, .int (-1)])), (xt, .inr (7, [.ref xb, .int 0])), (dr, .inr (4, [.int 0, .int 0, .int 0, .int 30, .int 0, .int 0, .ref d_toolWidth, .ref d_told, .ref d_name, .ref d_parent, .ref d_side, .ref d_from, .ref d_width, .ref d_height, .ref d_radius, .ref d_toolSet])), (d_width, .inl (g.2.1.1, 9, .inl fw)), (d_height, .inl (g.2.1.1, 9, .inl fh))] (fun (u : (Nat → Int32) × (Nat → Int32)) => True) (fun (u : (Nat → Int32) × (Nat → Int32)) => [(xr, .inr (6, [.ref xt, .ref dr, .int 1, .int 0, .int (-1), .int 1, .int 0])), (xt, .inr (7, [.ref xb, .int 0])), (dr, .inr (4, [.int 1, .int 0, .int 0, .int 30, .int 0, .int 0, .ref d_toolWidth, .ref d_told, .ref d_name, .ref d_parent, .ref d_side, .ref d_from, .ref d_width, .ref d_height, .ref d_radius, .ref d_toolSet])), (d_width, .inl (g.2.1.1, 9, .inl u.1)), (d_height, .inl (g.2.1.1, 9, .inl u.2))]) := by
  refine zCv.mk (by decide) (Nat.le_of_ble_eq_true rfl) ?_
  intro p e s m below meth c A hE hP hD hS ls hl
  obtain ⟨hx, hb, hr, hml, hown, hG, hlocks, hnm, hX, hA⟩ := hE
  have hown : s.vm.findClass RX6 = some m.cls := hown
  have hl : lv_has ls 1 [(0, .ref xr)] := hl
  refine lv_aload_n hx hb dX6_readSheet_0 rfl (lv_at hl 0 rfl) ?_
  refine va_ldcS (tx := zSt.getD 0 "") hx hb hown (hX.2.2.1 0 (by decide)) dX6_readSheet_1 ?_
  refine zfv (wr := [(dr, .inr (4, [.int 0, .int 0, .int 0, .int 30, .int 0, .int 0, .ref d_toolWidth, .ref d_told, .ref d_name, .ref d_parent, .ref d_side, .ref d_from, .ref d_width, .ref d_height, .ref d_radius, .ref d_toolSet])), (d_width, .inl (g.2.1.1, 9, .inl fw)), (d_height, .inl (g.2.1.1, 9, .inl fh))]) (va_runV (As := [.ref (g.2.2.1 0)]) (rest := []) ⟨hx, hb, hml, hown, hG⟩ (kX6_keyword0 l g xr xt dr xb _) ⟨callB_of 1 hG (zGood g601) rfl rfl rfl (hG _ g204) (hG _ g598) hX6_keyword ⟨Nat.le_of_ble_eq_true rfl, Nat.le_of_ble_eq_true rfl⟩, hG _ g600, hG _ g8⟩ (zpreV (va_recv hX.1 hP (ci := 6) (q0 := 0) rfl rfl) hX hP hD hS hA [0, 1] rfl (by decide)) rfl rfl hl.1 rfl (lv_room (Nat.le_of_ble_eq_true rfl)) dX6_readSheet_3 ⟨Nat.le_of_ble_eq_true rfl, Nat.le_of_ble_eq_true rfl⟩) hP hD hS hA [0, 1] [2, 3, 4] rfl rfl (by decide) (by decide) (fun _ H locs hp hP hD hS => ?_)
  refine W.cs (cells' := 0) (slots' := 0) rfl rfl ?_
  have hP : va_P g.1 vwCl [(dr, .inr (4, [.int 0, .int 0, .int 0, .int 30, .int 0, .int 0, .ref d_toolWidth, .ref d_told, .ref d_name, .ref d_parent, .ref d_side, .ref d_from, .ref d_width, .ref d_height, .ref d_radius, .ref d_toolSet])), (d_width, .inl (g.2.1.1, 9, .inl fw)), (d_height, .inl (g.2.1.1, 9, .inl fh)), (xr, .inr (6, [.ref xt, .ref dr, .int 0, .int 0, .int 0, .int 1, .int 0])), (xt, .inr (7, [.ref xb, .int 0]))] H := hP
  have hD : va_D A [(dr, .inr (4, [.int 0, .int 0, .int 0, .int 30, .int 0, .int 0, .ref d_toolWidth, .ref d_told, .ref d_name, .ref d_parent, .ref d_side, .ref d_from, .ref d_width, .ref d_height, .ref d_radius, .ref d_toolSet])), (d_width, .inl (g.2.1.1, 9, .inl fw)), (d_height, .inl (g.2.1.1, 9, .inl fh)), (xr, .inr (6, [.ref xt, .ref dr, .int 0, .int 0, .int 0, .int 1, .int 0])), (xt, .inr (7, [.ref xb, .int 0]))] := hD
  refine lv_aload_n hx hb dX6_readSheet_6 rfl (lv_at hl 0 rfl) ?_
  refine va_ldcS (tx := zSt.getD 1 "") hx hb hown (hX.2.2.1 1 (by decide)) dX6_readSheet_7 ?_
  refine zfv (wr := [(dr, .inr (4, [.int 0, .int 0, .int 0, .int 30, .int 0, .int 0, .ref d_toolWidth, .ref d_told, .ref d_name, .ref d_parent, .ref d_side, .ref d_from, .ref d_width, .ref d_height, .ref d_radius, .ref d_toolSet])), (d_width, .inl (g.2.1.1, 9, .inl fw)), (d_height, .inl (g.2.1.1, 9, .inl fh))]) (va_runV (As := [.ref (g.2.2.1 1)]) (rest := []) ⟨hx, hb, hml, hown, hG⟩ (kX6_keyword1 l g xr xt dr xb _) ⟨callB_of 1 hG (zGood g601) rfl rfl rfl (hG _ g204) (hG _ g598) hX6_keyword ⟨Nat.le_of_ble_eq_true rfl, Nat.le_of_ble_eq_true rfl⟩, hG _ g600, hG _ g8⟩ (zpreV (va_recv hX.1 hP (ci := 6) (q0 := 3) rfl rfl) hX hP hD hS hA [3, 4] rfl (by decide)) rfl rfl hl.1 rfl (lv_room (Nat.le_of_ble_eq_true rfl)) dX6_readSheet_9 ⟨Nat.le_of_ble_eq_true rfl, Nat.le_of_ble_eq_true rfl⟩) hP hD hS hA [3, 4] [0, 1, 2] rfl rfl (by decide) (by decide) (fun _ H locs hp hP hD hS => ?_)
  refine W.cs (cells' := 0) (slots' := 0) rfl rfl ?_
  have hP : va_P g.1 vwCl [(dr, .inr (4, [.int 0, .int 0, .int 0, .int 30, .int 0, .int 0, .ref d_toolWidth, .ref d_told, .ref d_name, .ref d_parent, .ref d_side, .ref d_from, .ref d_width, .ref d_height, .ref d_radius, .ref d_toolSet])), (d_width, .inl (g.2.1.1, 9, .inl fw)), (d_height, .inl (g.2.1.1, 9, .inl fh)), (xr, .inr (6, [.ref xt, .ref dr, .int 0, .int 0, .int 0, .int 1, .int 0])), (xt, .inr (7, [.ref xb, .int 0]))] H := hP
  have hD : va_D A [(dr, .inr (4, [.int 0, .int 0, .int 0, .int 30, .int 0, .int 0, .ref d_toolWidth, .ref d_told, .ref d_name, .ref d_parent, .ref d_side, .ref d_from, .ref d_width, .ref d_height, .ref d_radius, .ref d_toolSet])), (d_width, .inl (g.2.1.1, 9, .inl fw)), (d_height, .inl (g.2.1.1, 9, .inl fh)), (xr, .inr (6, [.ref xt, .ref dr, .int 0, .int 0, .int 0, .int 1, .int 0])), (xt, .inr (7, [.ref xb, .int 0]))] := hD
  refine lv_aload_n hx hb dX6_readSheet_12 rfl (lv_at hl 0 rfl) ?_
  refine va_get (D := g.1) (ci := 6) (v := .ref dr) (C := RX6) (T := TX6) (N := 7) hx hb hG iX6 hown hX.1 hP 3 rfl rfl 1 (by decide) (hG _ g252) (fun _ h9 => h9) rfl dX6_readSheet_13 ?_
  refine lv_aload_n hx hb dX6_readSheet_16 rfl (lv_at hl 0 rfl) ?_
  refine lv_iconst (v := 1) hx hb dX6_readSheet_17 (by decide) ?_
  refine lv_bipush (v := 9) hx hb dX6_readSheet_18 (by decide) ?_
  refine zfi (wr := [(dr, .inr (4, [.int 0, .int 0, .int 0, .int 30, .int 0, .int 0, .ref d_toolWidth, .ref d_told, .ref d_name, .ref d_parent, .ref d_side, .ref d_from, .ref d_width, .ref d_height, .ref d_radius, .ref d_toolSet])), (d_width, .inl (g.2.1.1, 9, .inl fw)), (d_height, .inl (g.2.1.1, 9, .inl fh))]) (va_runV (As := [.int 1, .int 9]) (rest := [.ref dr]) ⟨hx, hb, hml, hown, hG⟩ (kX6_numbera l g xr xt dr xb _) ⟨callB_of 2 hG (zGood g677) rfl rfl rfl (hG _ g204) (hG _ g674) hX6_number ⟨Nat.le_of_ble_eq_true rfl, Nat.le_of_ble_eq_true rfl⟩, hG _ g676, hG _ g14⟩ (zpreV (va_recv hX.1 hP (ci := 6) (q0 := 3) rfl rfl) hX hP hD hS hA [3, 4] rfl (by decide)) rfl rfl hl.1 rfl (lv_room (Nat.le_of_ble_eq_true rfl)) dX6_readSheet_20 ⟨Nat.le_of_ble_eq_true rfl, Nat.le_of_ble_eq_true rfl⟩) hP hD hS hA [3, 4] [0, 1, 2] rfl rfl (by decide) (by decide) (fun r3 _ H locs hp hP hD hS => ?_)
  refine W.cs (cells' := 0) (slots' := 0) rfl rfl ?_
  have hq4 : r3 = 0 := hp
  subst hq4
  have hP : va_P g.1 vwCl [(dr, .inr (4, [.int 0, .int 0, .int 0, .int 30, .int 0, .int 0, .ref d_toolWidth, .ref d_told, .ref d_name, .ref d_parent, .ref d_side, .ref d_from, .ref d_width, .ref d_height, .ref d_radius, .ref d_toolSet])), (d_width, .inl (g.2.1.1, 9, .inl fw)), (d_height, .inl (g.2.1.1, 9, .inl fh)), (xr, .inr (6, [.ref xt, .ref dr, .int 0, .int 0, .int 0, .int 1, .int 0])), (xt, .inr (7, [.ref xb, .int 0]))] H := hP
  have hD : va_D A [(dr, .inr (4, [.int 0, .int 0, .int 0, .int 30, .int 0, .int 0, .ref d_toolWidth, .ref d_told, .ref d_name, .ref d_parent, .ref d_side, .ref d_from, .ref d_width, .ref d_height, .ref d_radius, .ref d_toolSet])), (d_width, .inl (g.2.1.1, 9, .inl fw)), (d_height, .inl (g.2.1.1, 9, .inl fh)), (xr, .inr (6, [.ref xt, .ref dr, .int 0, .int 0, .int 0, .int 1, .int 0])), (xt, .inr (7, [.ref xb, .int 0]))] := hD
  refine va_putN (D := g.1) (ci := 4) (v := .int 0) (ty := .int) (C := RX4) (T := TX4) (N := 16) hx hb hG iX4 tyX4 tyX4_ok nmX4 hown hX.1 hP hD hS 0 rfl rfl 2 (by decide) (hX.2.1.fl g421) (fun _ h9 => h9) rfl (by decide +kernel) rfl rfl (Nat.le_of_ble_eq_true rfl) dX6_readSheet_23 (fun H locs hP hD hS => ?_)
  have hP : va_P g.1 vwCl [(dr, .inr (4, [.int 0, .int 0, .int 0, .int 30, .int 0, .int 0, .ref d_toolWidth, .ref d_told, .ref d_name, .ref d_parent, .ref d_side, .ref d_from, .ref d_width, .ref d_height, .ref d_radius, .ref d_toolSet])), (d_width, .inl (g.2.1.1, 9, .inl fw)), (d_height, .inl (g.2.1.1, 9, .inl fh)), (xr, .inr (6, [.ref xt, .ref dr, .int 0, .int 0, .int 0, .int 1, .int 0])), (xt, .inr (7, [.ref xb, .int 0]))] H := hP
  have hD : va_D A [(dr, .inr (4, [.int 0, .int 0, .int 0, .int 30, .int 0, .int 0, .ref d_toolWidth, .ref d_told, .ref d_name, .ref d_parent, .ref d_side, .ref d_from, .ref d_width, .ref d_height, .ref d_radius, .ref d_toolSet])), (d_width, .inl (g.2.1.1, 9, .inl fw)), (d_height, .inl (g.2.1.1, 9, .inl fh)), (xr, .inr (6, [.ref xt, .ref dr, .int 0, .int 0, .int 0, .int 1, .int 0])), (xt, .inr (7, [.ref xb, .int 0]))] := hD
  refine lv_aload_n hx hb dX6_readSheet_26 rfl (lv_at hl 0 rfl) ?_
  refine va_ldcS (tx := zSt.getD 2 "") hx hb hown (hX.2.2.1 2 (by decide)) dX6_readSheet_27 ?_
  refine zfv (wr := [(dr, .inr (4, [.int 0, .int 0, .int 0, .int 30, .int 0, .int 0, .ref d_toolWidth, .ref d_told, .ref d_name, .ref d_parent, .ref d_side, .ref d_from, .ref d_width, .ref d_height, .ref d_radius, .ref d_toolSet])), (d_width, .inl (g.2.1.1, 9, .inl fw)), (d_height, .inl (g.2.1.1, 9, .inl fh))]) (va_runV (As := [.ref (g.2.2.1 2)]) (rest := []) ⟨hx, hb, hml, hown, hG⟩ (kX6_keyword2 l g xr xt dr xb _) ⟨callB_of 1 hG (zGood g601) rfl rfl rfl (hG _ g204) (hG _ g598) hX6_keyword ⟨Nat.le_of_ble_eq_true rfl, Nat.le_of_ble_eq_true rfl⟩, hG _ g600, hG _ g8⟩ (zpreV (va_recv hX.1 hP (ci := 6) (q0 := 3) rfl rfl) hX hP hD hS hA [3, 4] rfl (by decide)) rfl rfl hl.1 rfl (lv_room (Nat.le_of_ble_eq_true rfl)) dX6_readSheet_29 ⟨Nat.le_of_ble_eq_true rfl, Nat.le_of_ble_eq_true rfl⟩) hP hD hS hA [3, 4] [0, 1, 2] rfl rfl (by decide) (by decide) (fun _ H locs hp hP hD hS => ?_)
  refine W.cs (cells' := 0) (slots' := 0) rfl rfl ?_
  have hP : va_P g.1 vwCl [(dr, .inr (4, [.int 0, .int 0, .int 0, .int 30, .int 0, .int 0, .ref d_toolWidth, .ref d_told, .ref d_name, .ref d_parent, .ref d_side, .ref d_from, .ref d_width, .ref d_height, .ref d_radius, .ref d_toolSet])), (d_width, .inl (g.2.1.1, 9, .inl fw)), (d_height, .inl (g.2.1.1, 9, .inl fh)), (xr, .inr (6, [.ref xt, .ref dr, .int 0, .int 0, .int 0, .int 1, .int 0])), (xt, .inr (7, [.ref xb, .int 0]))] H := hP
  have hD : va_D A [(dr, .inr (4, [.int 0, .int 0, .int 0, .int 30, .int 0, .int 0, .ref d_toolWidth, .ref d_told, .ref d_name, .ref d_parent, .ref d_side, .ref d_from, .ref d_width, .ref d_height, .ref d_radius, .ref d_toolSet])), (d_width, .inl (g.2.1.1, 9, .inl fw)), (d_height, .inl (g.2.1.1, 9, .inl fh)), (xr, .inr (6, [.ref xt, .ref dr, .int 0, .int 0, .int 0, .int 1, .int 0])), (xt, .inr (7, [.ref xb, .int 0]))] := hD
  refine lv_aload_n hx hb dX6_readSheet_32 rfl (lv_at hl 0 rfl) ?_
  refine va_get (D := g.1) (ci := 6) (v := .ref dr) (C := RX6) (T := TX6) (N := 7) hx hb hG iX6 hown hX.1 hP 3 rfl rfl 1 (by decide) (hG _ g252) (fun _ h9 => h9) rfl dX6_readSheet_33 ?_
  refine va_getN (D := g.1) (ci := 4) (v := .ref d_width) (C := RX4) (T := TX4) (N := 16) hx hb hG iX4 hown hX.1 hP 0 rfl rfl 12 (by decide) (hX.2.1.fl g463) (fun _ h9 => h9) rfl dX6_readSheet_36 ?_
  refine lv_iconst (v := 0) hx hb dX6_readSheet_39 (by decide) ?_
  refine lv_aload_n hx hb dX6_readSheet_40 rfl (lv_at hl 0 rfl) ?_
  refine lv_iconst (v := 1) hx hb dX6_readSheet_41 (by decide) ?_
  refine lv_bipush (v := 60) hx hb dX6_readSheet_42 (by decide) ?_
  refine zfi (wr := [(dr, .inr (4, [.int 0, .int 0, .int 0, .int 30, .int 0, .int 0, .ref d_toolWidth, .ref d_told, .ref d_name, .ref d_parent, .ref d_side, .ref d_from, .ref d_width, .ref d_height, .ref d_radius, .ref d_toolSet])), (d_width, .inl (g.2.1.1, 9, .inl fw)), (d_height, .inl (g.2.1.1, 9, .inl fh))]) (va_runV (As := [.int 1, .int 60]) (rest := [.int 0, .ref d_width]) ⟨hx, hb, hml, hown, hG⟩ (kX6_numberb l g xr xt dr xb _) ⟨callB_of 2 hG (zGood g677) rfl rfl rfl (hG _ g204) (hG _ g674) hX6_number ⟨Nat.le_of_ble_eq_true rfl, Nat.le_of_ble_eq_true rfl⟩, hG _ g676, hG _ g14⟩ (zpreV (va_recv hX.1 hP (ci := 6) (q0 := 3) rfl rfl) hX hP hD hS hA [3, 4] rfl (by decide)) rfl rfl hl.1 rfl (lv_room (Nat.le_of_ble_eq_true rfl)) dX6_readSheet_44 ⟨Nat.le_of_ble_eq_true rfl, Nat.le_of_ble_eq_true rfl⟩) hP hD hS hA [3, 4] [0, 1, 2] rfl rfl (by decide) (by decide) (fun r6 _ H locs hp hP hD hS => ?_)
  refine W.cs (cells' := 0) (slots' := 0) rfl rfl ?_
  have hq7 : r6 = 0 := hp
  subst hq7
  have hP : va_P g.1 vwCl [(dr, .inr (4, [.int 0, .int 0, .int 0, .int 30, .int 0, .int 0, .ref d_toolWidth, .ref d_told, .ref d_name, .ref d_parent, .ref d_side, .ref d_from, .ref d_width, .ref d_height, .ref d_radius, .ref d_toolSet])), (d_width, .inl (g.2.1.1, 9, .inl fw)), (d_height, .inl (g.2.1.1, 9, .inl fh)), (xr, .inr (6, [.ref xt, .ref dr, .int 0, .int 0, .int 0, .int 1, .int 0])), (xt, .inr (7, [.ref xb, .int 0]))] H := hP
  have hD : va_D A [(dr, .inr (4, [.int 0, .int 0, .int 0, .int 30, .int 0, .int 0, .ref d_toolWidth, .ref d_told, .ref d_name, .ref d_parent, .ref d_side, .ref d_from, .ref d_width, .ref d_height, .ref d_radius, .ref d_toolSet])), (d_width, .inl (g.2.1.1, 9, .inl fw)), (d_height, .inl (g.2.1.1, 9, .inl fh)), (xr, .inr (6, [.ref xt, .ref dr, .int 0, .int 0, .int 0, .int 1, .int 0])), (xt, .inr (7, [.ref xb, .int 0]))] := hD
  refine va_iast hx hb hX.1 hP hD hS 1 0 rfl rfl (vp_in_iff.mpr (by decide)) dX6_readSheet_47 (fun H locs hP hD hS => ?_)
  have hP : va_P g.1 vwCl [(dr, .inr (4, [.int 0, .int 0, .int 0, .int 30, .int 0, .int 0, .ref d_toolWidth, .ref d_told, .ref d_name, .ref d_parent, .ref d_side, .ref d_from, .ref d_width, .ref d_height, .ref d_radius, .ref d_toolSet])), (d_width, .inl (g.2.1.1, 9, .inl (upd fw (0 : Int32).toNatClampNeg 0))), (d_height, .inl (g.2.1.1, 9, .inl fh)), (xr, .inr (6, [.ref xt, .ref dr, .int 0, .int 0, .int 0, .int 1, .int 0])), (xt, .inr (7, [.ref xb, .int 0]))] H := hP
  have hD : va_D A [(dr, .inr (4, [.int 0, .int 0, .int 0, .int 30, .int 0, .int 0, .ref d_toolWidth, .ref d_told, .ref d_name, .ref d_parent, .ref d_side, .ref d_from, .ref d_width, .ref d_height, .ref d_radius, .ref d_toolSet])), (d_width, .inl (g.2.1.1, 9, .inl (upd fw (0 : Int32).toNatClampNeg 0))), (d_height, .inl (g.2.1.1, 9, .inl fh)), (xr, .inr (6, [.ref xt, .ref dr, .int 0, .int 0, .int 0, .int 1, .int 0])), (xt, .inr (7, [.ref xb, .int 0]))] := hD
  refine lv_aload_n hx hb dX6_readSheet_48 rfl (lv_at hl 0 rfl) ?_
  refine va_get (D := g.1) (ci := 6) (v := .ref dr) (C := RX6) (T := TX6) (N := 7) hx hb hG iX6 hown hX.1 hP 3 rfl rfl 1 (by decide) (hG _ g252) (fun _ h9 => h9) rfl dX6_readSheet_49 ?_
  refine va_getN (D := g.1) (ci := 4) (v := .ref d_height) (C := RX4) (T := TX4) (N := 16) hx hb hG iX4 hown hX.1 hP 0 rfl rfl 13 (by decide) (hX.2.1.fl g467) (fun _ h9 => h9) rfl dX6_readSheet_52 ?_
  refine lv_iconst (v := 0) hx hb dX6_readSheet_55 (by decide) ?_
  refine lv_aload_n hx hb dX6_readSheet_56 rfl (lv_at hl 0 rfl) ?_
  refine lv_iconst (v := 1) hx hb dX6_readSheet_57 (by decide) ?_
  refine lv_bipush (v := 60) hx hb dX6_readSheet_58 (by decide) ?_
  refine zfi (wr := [(dr, .inr (4, [.int 0, .int 0, .int 0, .int 30, .int 0, .int 0, .ref d_toolWidth, .ref d_told, .ref d_name, .ref d_parent, .ref d_side, .ref d_from, .ref d_width, .ref d_height, .ref d_radius, .ref d_toolSet])), (d_width, .inl (g.2.1.1, 9, .inl (upd fw (0 : Int32).toNatClampNeg 0))), (d_height, .inl (g.2.1.1, 9, .inl fh))]) (va_runV (As := [.int 1, .int 60]) (rest := [.int 0, .ref d_height]) ⟨hx, hb, hml, hown, hG⟩ (kX6_numberb l g xr xt dr xb _) ⟨callB_of 2 hG (zGood g677) rfl rfl rfl (hG _ g204) (hG _ g674) hX6_number ⟨Nat.le_of_ble_eq_true rfl, Nat.le_of_ble_eq_true rfl⟩, hG _ g676, hG _ g14⟩ (zpreV (va_recv hX.1 hP (ci := 6) (q0 := 3) rfl rfl) hX hP hD hS hA [3, 4] rfl (by decide)) rfl rfl hl.1 rfl (lv_room (Nat.le_of_ble_eq_true rfl)) dX6_readSheet_60 ⟨Nat.le_of_ble_eq_true rfl, Nat.le_of_ble_eq_true rfl⟩) hP hD hS hA [3, 4] [0, 1, 2] rfl rfl (by decide) (by decide) (fun r8 _ H locs hp hP hD hS => ?_)
  refine W.cs (cells' := 0) (slots' := 0) rfl rfl ?_
  have hq9 : r8 = 0 := hp
  subst hq9
  have hP : va_P g.1 vwCl [(dr, .inr (4, [.int 0, .int 0, .int 0, .int 30, .int 0, .int 0, .ref d_toolWidth, .ref d_told, .ref d_name, .ref d_parent, .ref d_side, .ref d_from, .ref d_width, .ref d_height, .ref d_radius, .ref d_toolSet])), (d_width, .inl (g.2.1.1, 9, .inl (upd fw (0 : Int32).toNatClampNeg 0))), (d_height, .inl (g.2.1.1, 9, .inl fh)), (xr, .inr (6, [.ref xt, .ref dr, .int 0, .int 0, .int 0, .int 1, .int 0])), (xt, .inr (7, [.ref xb, .int 0]))] H := hP
  have hD : va_D A [(dr, .inr (4, [.int 0, .int 0, .int 0, .int 30, .int 0, .int 0, .ref d_toolWidth, .ref d_told, .ref d_name, .ref d_parent, .ref d_side, .ref d_from, .ref d_width, .ref d_height, .ref d_radius, .ref d_toolSet])), (d_width, .inl (g.2.1.1, 9, .inl (upd fw (0 : Int32).toNatClampNeg 0))), (d_height, .inl (g.2.1.1, 9, .inl fh)), (xr, .inr (6, [.ref xt, .ref dr, .int 0, .int 0, .int 0, .int 1, .int 0])), (xt, .inr (7, [.ref xb, .int 0]))] := hD
  refine va_iast hx hb hX.1 hP hD hS 2 0 rfl rfl (vp_in_iff.mpr (by decide)) dX6_readSheet_63 (fun H locs hP hD hS => ?_)
  have hP : va_P g.1 vwCl [(dr, .inr (4, [.int 0, .int 0, .int 0, .int 30, .int 0, .int 0, .ref d_toolWidth, .ref d_told, .ref d_name, .ref d_parent, .ref d_side, .ref d_from, .ref d_width, .ref d_height, .ref d_radius, .ref d_toolSet])), (d_width, .inl (g.2.1.1, 9, .inl (upd fw (0 : Int32).toNatClampNeg 0))), (d_height, .inl (g.2.1.1, 9, .inl (upd fh (0 : Int32).toNatClampNeg 0))), (xr, .inr (6, [.ref xt, .ref dr, .int 0, .int 0, .int 0, .int 1, .int 0])), (xt, .inr (7, [.ref xb, .int 0]))] H := hP
  have hD : va_D A [(dr, .inr (4, [.int 0, .int 0, .int 0, .int 30, .int 0, .int 0, .ref d_toolWidth, .ref d_told, .ref d_name, .ref d_parent, .ref d_side, .ref d_from, .ref d_width, .ref d_height, .ref d_radius, .ref d_toolSet])), (d_width, .inl (g.2.1.1, 9, .inl (upd fw (0 : Int32).toNatClampNeg 0))), (d_height, .inl (g.2.1.1, 9, .inl (upd fh (0 : Int32).toNatClampNeg 0))), (xr, .inr (6, [.ref xt, .ref dr, .int 0, .int 0, .int 0, .int 1, .int 0])), (xt, .inr (7, [.ref xb, .int 0]))] := hD
  refine lv_aload_n hx hb dX6_readSheet_64 rfl (lv_at hl 0 rfl) ?_
  refine zfv (wr := [(dr, .inr (4, [.int 0, .int 0, .int 0, .int 30, .int 0, .int 0, .ref d_toolWidth, .ref d_told, .ref d_name, .ref d_parent, .ref d_side, .ref d_from, .ref d_width, .ref d_height, .ref d_radius, .ref d_toolSet])), (d_width, .inl (g.2.1.1, 9, .inl (upd fw (0 : Int32).toNatClampNeg 0))), (d_height, .inl (g.2.1.1, 9, .inl (upd fh (0 : Int32).toNatClampNeg 0)))]) (va_runV (As := []) (rest := []) ⟨hx, hb, hml, hown, hG⟩ (kX6_semicolon l g xr xt dr xb _) ⟨callB_of 0 hG (zGood g685) rfl rfl rfl (hG _ g204) (hG _ g682) hX6_semicolon ⟨Nat.le_of_ble_eq_true rfl, Nat.le_of_ble_eq_true rfl⟩, hG _ g684, hG _ g15⟩ (zpreV (va_recv hX.1 hP (ci := 6) (q0 := 3) rfl rfl) hX hP hD hS hA [3, 4] rfl (by decide)) rfl rfl hl.1 rfl (lv_room (Nat.le_of_ble_eq_true rfl)) dX6_readSheet_65 ⟨Nat.le_of_ble_eq_true rfl, Nat.le_of_ble_eq_true rfl⟩) hP hD hS hA [3, 4] [0, 1, 2] rfl rfl (by decide) (by decide) (fun _ H locs hp hP hD hS => ?_)
  refine W.cs (cells' := 0) (slots' := 0) rfl rfl ?_
  have hP : va_P g.1 vwCl [(dr, .inr (4, [.int 0, .int 0, .int 0, .int 30, .int 0, .int 0, .ref d_toolWidth, .ref d_told, .ref d_name, .ref d_parent, .ref d_side, .ref d_from, .ref d_width, .ref d_height, .ref d_radius, .ref d_toolSet])), (d_width, .inl (g.2.1.1, 9, .inl (upd fw (0 : Int32).toNatClampNeg 0))), (d_height, .inl (g.2.1.1, 9, .inl (upd fh (0 : Int32).toNatClampNeg 0))), (xr, .inr (6, [.ref xt, .ref dr, .int 1, .int 0, .int (-1), .int 1, .int 0])), (xt, .inr (7, [.ref xb, .int 0]))] H := hP
  have hD : va_D A [(dr, .inr (4, [.int 0, .int 0, .int 0, .int 30, .int 0, .int 0, .ref d_toolWidth, .ref d_told, .ref d_name, .ref d_parent, .ref d_side, .ref d_from, .ref d_width, .ref d_height, .ref d_radius, .ref d_toolSet])), (d_width, .inl (g.2.1.1, 9, .inl (upd fw (0 : Int32).toNatClampNeg 0))), (d_height, .inl (g.2.1.1, 9, .inl (upd fh (0 : Int32).toNatClampNeg 0))), (xr, .inr (6, [.ref xt, .ref dr, .int 1, .int 0, .int (-1), .int 1, .int 0])), (xt, .inr (7, [.ref xb, .int 0]))] := hD
  refine lv_aload_n hx hb dX6_readSheet_68 rfl (lv_at hl 0 rfl) ?_
  refine va_get (D := g.1) (ci := 6) (v := .ref dr) (C := RX6) (T := TX6) (N := 7) hx hb hG iX6 hown hX.1 hP 3 rfl rfl 1 (by decide) (hG _ g252) (fun _ h9 => h9) rfl dX6_readSheet_69 ?_
  refine lv_iconst (v := 1) hx hb dX6_readSheet_72 (by decide) ?_
  refine va_putN (D := g.1) (ci := 4) (v := .int 1) (ty := .int) (C := RX4) (T := TX4) (N := 16) hx hb hG iX4 tyX4 tyX4_ok nmX4 hown hX.1 hP hD hS 0 rfl rfl 0 (by decide) (hX.2.1.fl g415) (fun _ h9 => h9) rfl (by decide +kernel) rfl rfl (Nat.le_of_ble_eq_true rfl) dX6_readSheet_73 (fun H locs hP hD hS => ?_)
  have hP : va_P g.1 vwCl [(dr, .inr (4, [.int 1, .int 0, .int 0, .int 30, .int 0, .int 0, .ref d_toolWidth, .ref d_told, .ref d_name, .ref d_parent, .ref d_side, .ref d_from, .ref d_width, .ref d_height, .ref d_radius, .ref d_toolSet])), (d_width, .inl (g.2.1.1, 9, .inl (upd fw (0 : Int32).toNatClampNeg 0))), (d_height, .inl (g.2.1.1, 9, .inl (upd fh (0 : Int32).toNatClampNeg 0))), (xr, .inr (6, [.ref xt, .ref dr, .int 1, .int 0, .int (-1), .int 1, .int 0])), (xt, .inr (7, [.ref xb, .int 0]))] H := hP
  have hD : va_D A [(dr, .inr (4, [.int 1, .int 0, .int 0, .int 30, .int 0, .int 0, .ref d_toolWidth, .ref d_told, .ref d_name, .ref d_parent, .ref d_side, .ref d_from, .ref d_width, .ref d_height, .ref d_radius, .ref d_toolSet])), (d_width, .inl (g.2.1.1, 9, .inl (upd fw (0 : Int32).toNatClampNeg 0))), (d_height, .inl (g.2.1.1, 9, .inl (upd fh (0 : Int32).toNatClampNeg 0))), (xr, .inr (6, [.ref xt, .ref dr, .int 1, .int 0, .int (-1), .int 1, .int 0])), (xt, .inr (7, [.ref xb, .int 0]))] := hD
  exact zrv (rm := { frames := 4, cells := 0, slots := 0, locals := 84 }) (upd fw (0 : Int32).toNatClampNeg 0, upd fh (0 : Int32).toNatClampNeg 0) hx hb hr hlocks (Nat.le_of_ble_eq_true rfl) (Nat.le_of_ble_eq_true rfl) (trivial) (hP.sub [3, 4, 0, 1, 2] rfl) (hD.sub [3, 4, 0, 1, 2] (by decide) rfl) hS dX6_readSheet_76
theorem dX6_read_0 : decode cX6_read 0 = .ok (.aload_n 0, 1) := by decide +kernel
theorem dX6_read_1 : decode cX6_read 1 = .ok (.aload_n 1, 1) := by decide +kernel
theorem dX6_read_2 : decode cX6_read 2 = .ok (.invokevirtual 19, 3) := by decide +kernel
theorem dX6_read_5 : decode cX6_read 5 = .ok (.aload_n 0, 1) := by decide +kernel
theorem dX6_read_6 : decode cX6_read 6 = .ok (.invokevirtual 23, 3) := by decide +kernel
theorem dX6_read_9 : decode cX6_read 9 = .ok (.iconst 0, 1) := by decide +kernel
theorem dX6_read_10 : decode cX6_read 10 = .ok (.istore_n 2, 1) := by decide +kernel
theorem dX6_read_11 : decode cX6_read 11 = .ok (.iload_n 2, 1) := by decide +kernel
theorem dX6_read_12 : decode cX6_read 12 = .ok (.sipush 1200, 3) := by decide +kernel
theorem dX6_read_15 : decode cX6_read 15 = .ok (.if_icmp .ge 114, 3) := by decide +kernel
theorem dX6_read_18 : decode cX6_read 18 = .ok (.aload_n 0, 1) := by decide +kernel
theorem dX6_read_19 : decode cX6_read 19 = .ok (.getfield 26, 3) := by decide +kernel
theorem dX6_read_22 : decode cX6_read 22 = .ok (.ifCond .ne 107, 3) := by decide +kernel
theorem dX6_read_129 : decode cX6_read 129 = .ok (.return_, 1) := by decide +kernel
set_option maxHeartbeats 4000000 in
set_option maxRecDepth 100000 in
theorem kX6_read (l : Launch) (g : zL) (xr : Nat) (dr : Nat) (xt : Nat) (xb : Nat) (d_toolWidth : Nat) (d_told : Nat) (d_name : Nat) (d_parent : Nat) (d_side : Nat) (d_from : Nat) (d_width : Nat) (d_height : Nat) (d_radius : Nat) (d_toolSet : Nat) (f : Nat → Int32) (fw : Nat → Int32) (fh : Nat → Int32) : zCv l g yX6_read cX6_read 3 none { frames := 5, cells := 0, slots := 0, locals := 104 } [.ref xr, .ref dr] [(xr, .inr (6, [.ref xt, .null, .int 0, .int 0, .int 0, .int 0, .int (-1)])), (xt, .inr (7, [.ref xb, .int 0])), (dr, .inr (4, [.int 0, .int 0, .int 0, .int 0, .int 0, .int 0, .ref d_toolWidth, .ref d_told, .ref d_name, .ref d_parent, .ref d_side, .ref d_from, .ref d_width, .ref d_height, .ref d_radius, .ref d_toolSet])), (d_told, .inl (g.2.1.1, 10, .inl f)), (d_width, .inl (g.2.1.1, 9, .inl fw)), (d_height, .inl (g.2.1.1, 9, .inl fh))] (fun (u : (Nat → Int32) × (Nat → Int32) × (Nat → Int32)) => True) (fun (u : (Nat → Int32) × (Nat → Int32) × (Nat → Int32)) => [(xr, .inr (6, [.ref xt, .ref dr, .int 1, .int 0, .int (-1), .int 1, .int 0])), (xt, .inr (7, [.ref xb, .int 0])), (dr, .inr (4, [.int 1, .int 0, .int 0, .int 30, .int 0, .int 0, .ref d_toolWidth, .ref d_told, .ref d_name, .ref d_parent, .ref d_side, .ref d_from, .ref d_width, .ref d_height, .ref d_radius, .ref d_toolSet])), (d_told, .inl (g.2.1.1, 10, .inl u.1)), (d_width, .inl (g.2.1.1, 9, .inl u.2.1)), (d_height, .inl (g.2.1.1, 9, .inl u.2.2))]) := by
  refine zCv.mk (by decide) (Nat.le_of_ble_eq_true rfl) ?_
  intro p e s m below meth c A hE hP hD hS ls hl
  obtain ⟨hx, hb, hr, hml, hown, hG, hlocks, hnm, hX, hA⟩ := hE
  have hown : s.vm.findClass RX6 = some m.cls := hown
  have hl : lv_has ls 3 [(0, .ref xr), (1, .ref dr)] := hl
  refine lv_aload_n hx hb dX6_read_0 rfl (lv_at hl 0 rfl) ?_
  refine lv_aload_n hx hb dX6_read_1 rfl (lv_at hl 1 rfl) ?_
  refine zfv (wr := [(xt, .inr (7, [.ref xb, .int 0])), (d_width, .inl (g.2.1.1, 9, .inl fw)), (d_height, .inl (g.2.1.1, 9, .inl fh))]) (va_runV (As := [.ref dr]) (rest := []) ⟨hx, hb, hml, hown, hG⟩ (kX6_begin l g xr dr xt d_toolWidth d_told d_name d_parent d_side d_from d_width d_height d_radius d_toolSet f _) ⟨callB_of 1 hG (zGood g585) rfl rfl rfl (hG _ g204) (hG _ g582) hX6_begin ⟨Nat.le_of_ble_eq_true rfl, Nat.le_of_ble_eq_true rfl⟩, hG _ g584, hG _ g5⟩ (zpreV (va_recv hX.1 hP (ci := 6) (q0 := 0) rfl rfl) hX hP hD hS hA [0, 2, 3] rfl (by decide)) rfl rfl hl.1 rfl (lv_room (Nat.le_of_ble_eq_true rfl)) dX6_read_2 ⟨Nat.le_of_ble_eq_true rfl, Nat.le_of_ble_eq_true rfl⟩) hP hD hS hA [0, 2, 3] [1, 4, 5] rfl rfl (by decide) (by decide) (fun u2 H locs hp hP hD hS => ?_)
  refine W.cs (cells' := 0) (slots' := 0) rfl rfl ?_
  have hP : va_P g.1 vwCl [(xt, .inr (7, [.ref xb, .int 0])), (d_width, .inl (g.2.1.1, 9, .inl fw)), (d_height, .inl (g.2.1.1, 9, .inl fh)), (xr, .inr (6, [.ref xt, .ref dr, .int 0, .int 0, .int (-1), .int 0, .int (-1)])), (dr, .inr (4, [.int 0, .int 0, .int 0, .int 30, .int 0, .int 0, .ref d_toolWidth, .ref d_told, .ref d_name, .ref d_parent, .ref d_side, .ref d_from, .ref d_width, .ref d_height, .ref d_radius, .ref d_toolSet])), (d_told, .inl (g.2.1.1, 10, .inl u2))] H := hP
  have hD : va_D A [(xt, .inr (7, [.ref xb, .int 0])), (d_width, .inl (g.2.1.1, 9, .inl fw)), (d_height, .inl (g.2.1.1, 9, .inl fh)), (xr, .inr (6, [.ref xt, .ref dr, .int 0, .int 0, .int (-1), .int 0, .int (-1)])), (dr, .inr (4, [.int 0, .int 0, .int 0, .int 30, .int 0, .int 0, .ref d_toolWidth, .ref d_told, .ref d_name, .ref d_parent, .ref d_side, .ref d_from, .ref d_width, .ref d_height, .ref d_radius, .ref d_toolSet])), (d_told, .inl (g.2.1.1, 10, .inl u2))] := hD
  refine lv_aload_n hx hb dX6_read_5 rfl (lv_at hl 0 rfl) ?_
  refine zfv (wr := [(d_told, .inl (g.2.1.1, 10, .inl u2))]) (va_runV (As := []) (rest := []) ⟨hx, hb, hml, hown, hG⟩ (kX6_readSheet l g xr xt dr xb d_toolWidth d_told d_name d_parent d_side d_from d_width d_height d_radius d_toolSet fw fh _) ⟨callB_of 0 hG (zGood g596) rfl rfl rfl (hG _ g204) (hG _ g593) hX6_readSheet ⟨Nat.le_of_ble_eq_true rfl, Nat.le_of_ble_eq_true rfl⟩, hG _ g595, hG _ g7⟩ (zpreV (va_recv hX.1 hP (ci := 6) (q0 := 3) rfl rfl) hX hP hD hS hA [3, 0, 4, 1, 2] rfl (by decide)) rfl rfl hl.1 rfl (lv_room (Nat.le_of_ble_eq_true rfl)) dX6_read_6 ⟨Nat.le_of_ble_eq_true rfl, Nat.le_of_ble_eq_true rfl⟩) hP hD hS hA [3, 0, 4, 1, 2] [5] rfl rfl (by decide) (by decide) (fun z6 H locs hp hP hD hS => ?_)
  refine W.cs (cells' := 0) (slots' := 0) rfl rfl ?_
  obtain ⟨u4, u5⟩ := z6
  have hP : va_P g.1 vwCl [(d_told, .inl (g.2.1.1, 10, .inl u2)), (xr, .inr (6, [.ref xt, .ref dr, .int 1, .int 0, .int (-1), .int 1, .int 0])), (xt, .inr (7, [.ref xb, .int 0])), (dr, .inr (4, [.int 1, .int 0, .int 0, .int 30, .int 0, .int 0, .ref d_toolWidth, .ref d_told, .ref d_name, .ref d_parent, .ref d_side, .ref d_from, .ref d_width, .ref d_height, .ref d_radius, .ref d_toolSet])), (d_width, .inl (g.2.1.1, 9, .inl u4)), (d_height, .inl (g.2.1.1, 9, .inl u5))] H := hP
  have hD : va_D A [(d_told, .inl (g.2.1.1, 10, .inl u2)), (xr, .inr (6, [.ref xt, .ref dr, .int 1, .int 0, .int (-1), .int 1, .int 0])), (xt, .inr (7, [.ref xb, .int 0])), (dr, .inr (4, [.int 1, .int 0, .int 0, .int 30, .int 0, .int 0, .ref d_toolWidth, .ref d_told, .ref d_name, .ref d_parent, .ref d_side, .ref d_from, .ref d_width, .ref d_height, .ref d_radius, .ref d_toolSet])), (d_width, .inl (g.2.1.1, 9, .inl u4)), (d_height, .inl (g.2.1.1, 9, .inl u5))] := hD
  refine lv_iconst (v := 0) hx hb dX6_read_9 (by decide) ?_
  refine lv_istore_n (lv' := [(2, .int 0), (0, .ref xr), (1, .ref dr)]) hx hb dX6_read_10 rfl hl (by decide) rfl (fun ls hl => ?_)
  refine lv_iload_n hx hb dX6_read_11 rfl (lv_at hl 0 rfl) ?_
  refine lv_sipush (v := 1200) hx hb dX6_read_12 (by decide) ?_
  refine lv_icmp_ge (tgt := 129) hx hb dX6_read_15 (by decide) (fun c15 => absurd c15 (by decide)) (fun c15 => ?_)
  refine lv_aload_n hx hb dX6_read_18 rfl (lv_at hl 1 rfl) ?_
  refine va_get (D := g.1) (ci := 6) (v := .int 1) (C := RX6) (T := TX6) (N := 7) hx hb hG iX6 hown hX.1 hP 1 rfl rfl 5 (by decide) (hG _ g256) (fun _ h9 => h9) rfl dX6_read_19 ?_
  refine lv_if_ne (tgt := 129) hx hb dX6_read_22 (by decide) (fun c22 => ?_) (fun c22 => absurd c22 (by decide))
  exact zrv (rm := { frames := 5, cells := 0, slots := 0, locals := 104 }) (u2, u4, u5) hx hb hr hlocks (Nat.le_of_ble_eq_true rfl) (Nat.le_of_ble_eq_true rfl) (trivial) (hP.sub [1, 2, 3, 0, 4, 5] rfl) (hD.sub [1, 2, 3, 0, 4, 5] (by decide) rfl) hS dX6_read_129
theorem dX8_part_0 : decode cX8_part 0 = .ok (.aload_n 0, 1) := by decide +kernel
theorem dX8_part_1 : decode cX8_part 1 = .ok (.getfield 21, 3) := by decide +kernel
theorem dX8_part_4 : decode cX8_part 4 = .ok (.aload_n 0, 1) := by decide +kernel
theorem dX8_part_5 : decode cX8_part 5 = .ok (.getfield 71, 3) := by decide +kernel
theorem dX8_part_8 : decode cX8_part 8 = .ok (.invokevirtual 97, 3) := by decide +kernel
theorem dX8_part_11 : decode cX8_part 11 = .ok (.aload_n 0, 1) := by decide +kernel
theorem dX8_part_12 : decode cX8_part 12 = .ok (.getfield 10, 3) := by decide +kernel
theorem dX8_part_15 : decode cX8_part 15 = .ok (.iconst 0, 1) := by decide +kernel
theorem dX8_part_16 : decode cX8_part 16 = .ok (.putfield 90, 3) := by decide +kernel
theorem dX8_part_19 : decode cX8_part 19 = .ok (.aload_n 0, 1) := by decide +kernel
theorem dX8_part_20 : decode cX8_part 20 = .ok (.getfield 21, 3) := by decide +kernel
theorem dX8_part_23 : decode cX8_part 23 = .ok (.getfield 101, 3) := by decide +kernel
theorem dX8_part_26 : decode cX8_part 26 = .ok (.ifCond .eq 9, 3) := by decide +kernel
theorem dX8_part_29 : decode cX8_part 29 = .ok (.aload_n 0, 1) := by decide +kernel
theorem dX8_part_30 : decode cX8_part 30 = .ok (.iconst 1, 1) := by decide +kernel
theorem dX8_part_31 : decode cX8_part 31 = .ok (.invokevirtual 82, 3) := by decide +kernel
theorem dX8_part_34 : decode cX8_part 34 = .ok (.ireturn, 1) := by decide +kernel
set_option maxHeartbeats 4000000 in
set_option maxRecDepth 100000 in
theorem kX8_part (l : Launch) (g : zL) (h0 : Nat) (xt : Nat) (xr : Nat) (xp : Nat) (xs : Nat) (xm : Nat) (xh : Nat) (xe : Nat) (xf : Nat) (pa : Nat) (dr : Nat) (xb : Nat) (d_toolWidth : Nat) (d_told : Nat) (d_name : Nat) (d_parent : Nat) (d_side : Nat) (d_from : Nat) (d_width : Nat) (d_height : Nat) (d_radius : Nat) (d_toolSet : Nat) (f : Nat → Int32) (fw : Nat → Int32) (fh : Nat → Int32) (fx : Nat → Int32) : zCi l g yX8_part cX8_part 2 (some .int) { frames := 6, cells := 0, slots := 0, locals := 126 } [.ref h0] [(h0, .inr (8, [.ref xt, .ref xr, .ref xp, .ref xs, .ref xm, .ref xh, .ref xe, .ref xf, .ref pa, .ref dr, .int 0, .int 1, .int 0, .int 0])), (xt, .inr (7, [.ref xb, .int 0])), (xr, .inr (6, [.ref xt, .null, .int 0, .int 0, .int 0, .int 0, .int (-1)])), (dr, .inr (4, [.int 0, .int 0, .int 0, .int 0, .int 0, .int 0, .ref d_toolWidth, .ref d_told, .ref d_name, .ref d_parent, .ref d_side, .ref d_from, .ref d_width, .ref d_height, .ref d_radius, .ref d_toolSet])), (d_told, .inl (g.2.1.1, 10, .inl f)), (d_width, .inl (g.2.1.1, 9, .inl fw)), (d_height, .inl (g.2.1.1, 9, .inl fh)), (xf, .inl (g.2.1.1, 6, .inl fx))] (fun (r : Int32) (u : Unit) => r = (-1)) (fun (u : Unit) => []) := by
  refine zCi.mk (by decide) (Nat.le_of_ble_eq_true rfl) ?_
  intro p e s m below meth c A hE hP hD hS ls hl
  obtain ⟨hx, hb, hr, hml, hown, hG, hlocks, hnm, hX, hA⟩ := hE
  have hown : s.vm.findClass RX8 = some m.cls := hown
  have hl : lv_has ls 2 [(0, .ref h0)] := hl
  refine lv_aload_n hx hb dX8_part_0 rfl (lv_at hl 0 rfl) ?_
  refine va_get (D := g.1) (ci := 8) (v := .ref xr) (C := RX8) (T := TX8) (N := 14) hx hb hG iX8 hown hX.1 hP 0 rfl rfl 1 (by decide) (hG _ g508) (fun _ h9 => h9) rfl dX8_part_1 ?_
  refine lv_aload_n hx hb dX8_part_4 rfl (lv_at hl 0 rfl) ?_
  refine va_get (D := g.1) (ci := 8) (v := .ref dr) (C := RX8) (T := TX8) (N := 14) hx hb hG iX8 hown hX.1 hP 0 rfl rfl 9 (by decide) (hG _ g516) (fun _ h9 => h9) rfl dX8_part_5 ?_
  refine zfv (wr := [(h0, .inr (8, [.ref xt, .ref xr, .ref xp, .ref xs, .ref xm, .ref xh, .ref xe, .ref xf, .ref pa, .ref dr, .int 0, .int 1, .int 0, .int 0])), (xf, .inl (g.2.1.1, 6, .inl fx))]) (va_runVN (As := [.ref dr]) (rest := []) ⟨hx, hb, hml, hown, hG⟩ (kX6_read l g xr dr xt xb d_toolWidth d_told d_name d_parent d_side d_from d_width d_height d_radius d_toolSet f fw fh _) ⟨va_cnB 1 hG (zGood g581) rfl rfl rfl (hX.2.1.ml g578) (hG _ g204) hX6_read ⟨Nat.le_of_ble_eq_true rfl, Nat.le_of_ble_eq_true rfl⟩, hG _ g580, hG _ g4⟩ (zpreV (va_recv hX.1 hP (ci := 6) (q0 := 2) rfl rfl) hX hP hD hS hA [2, 1, 3, 4, 5, 6] rfl (by decide)) rfl rfl hl.1 rfl (lv_room (Nat.le_of_ble_eq_true rfl)) dX8_part_8 ⟨Nat.le_of_ble_eq_true rfl, Nat.le_of_ble_eq_true rfl⟩) hP hD hS hA [2, 1, 3, 4, 5, 6] [0, 7] rfl rfl (by decide) (by decide) (fun z5 H locs hp hP hD hS => ?_)
  refine W.cs (cells' := 0) (slots' := 0) rfl rfl ?_
  obtain ⟨u2, u3, u4⟩ := z5
  have hP : va_P g.1 vwCl [(h0, .inr (8, [.ref xt, .ref xr, .ref xp, .ref xs, .ref xm, .ref xh, .ref xe, .ref xf, .ref pa, .ref dr, .int 0, .int 1, .int 0, .int 0])), (xf, .inl (g.2.1.1, 6, .inl fx)), (xr, .inr (6, [.ref xt, .ref dr, .int 1, .int 0, .int (-1), .int 1, .int 0])), (xt, .inr (7, [.ref xb, .int 0])), (dr, .inr (4, [.int 1, .int 0, .int 0, .int 30, .int 0, .int 0, .ref d_toolWidth, .ref d_told, .ref d_name, .ref d_parent, .ref d_side, .ref d_from, .ref d_width, .ref d_height, .ref d_radius, .ref d_toolSet])), (d_told, .inl (g.2.1.1, 10, .inl u2)), (d_width, .inl (g.2.1.1, 9, .inl u3)), (d_height, .inl (g.2.1.1, 9, .inl u4))] H := hP
  have hD : va_D A [(h0, .inr (8, [.ref xt, .ref xr, .ref xp, .ref xs, .ref xm, .ref xh, .ref xe, .ref xf, .ref pa, .ref dr, .int 0, .int 1, .int 0, .int 0])), (xf, .inl (g.2.1.1, 6, .inl fx)), (xr, .inr (6, [.ref xt, .ref dr, .int 1, .int 0, .int (-1), .int 1, .int 0])), (xt, .inr (7, [.ref xb, .int 0])), (dr, .inr (4, [.int 1, .int 0, .int 0, .int 30, .int 0, .int 0, .ref d_toolWidth, .ref d_told, .ref d_name, .ref d_parent, .ref d_side, .ref d_from, .ref d_width, .ref d_height, .ref d_radius, .ref d_toolSet])), (d_told, .inl (g.2.1.1, 10, .inl u2)), (d_width, .inl (g.2.1.1, 9, .inl u3)), (d_height, .inl (g.2.1.1, 9, .inl u4))] := hD
  refine lv_aload_n hx hb dX8_part_11 rfl (lv_at hl 0 rfl) ?_
  refine va_get (D := g.1) (ci := 8) (v := .ref xt) (C := RX8) (T := TX8) (N := 14) hx hb hG iX8 hown hX.1 hP 0 rfl rfl 0 (by decide) (hG _ g507) (fun _ h9 => h9) rfl dX8_part_12 ?_
  refine lv_iconst (v := 0) hx hb dX8_part_15 (by decide) ?_
  refine va_putN (D := g.1) (ci := 7) (v := .int 0) (ty := .int) (C := RX7) (T := TX7) (N := 2) hx hb hG iX7 tyX7 tyX7_ok nmX7 hown hX.1 hP hD hS 3 rfl rfl 1 (by decide) (hX.2.1.fl g237) (fun _ h9 => h9) rfl (by decide +kernel) rfl rfl (Nat.le_of_ble_eq_true rfl) dX8_part_16 (fun H locs hP hD hS => ?_)
  have hP : va_P g.1 vwCl [(h0, .inr (8, [.ref xt, .ref xr, .ref xp, .ref xs, .ref xm, .ref xh, .ref xe, .ref xf, .ref pa, .ref dr, .int 0, .int 1, .int 0, .int 0])), (xf, .inl (g.2.1.1, 6, .inl fx)), (xr, .inr (6, [.ref xt, .ref dr, .int 1, .int 0, .int (-1), .int 1, .int 0])), (xt, .inr (7, [.ref xb, .int 0])), (dr, .inr (4, [.int 1, .int 0, .int 0, .int 30, .int 0, .int 0, .ref d_toolWidth, .ref d_told, .ref d_name, .ref d_parent, .ref d_side, .ref d_from, .ref d_width, .ref d_height, .ref d_radius, .ref d_toolSet])), (d_told, .inl (g.2.1.1, 10, .inl u2)), (d_width, .inl (g.2.1.1, 9, .inl u3)), (d_height, .inl (g.2.1.1, 9, .inl u4))] H := hP
  have hD : va_D A [(h0, .inr (8, [.ref xt, .ref xr, .ref xp, .ref xs, .ref xm, .ref xh, .ref xe, .ref xf, .ref pa, .ref dr, .int 0, .int 1, .int 0, .int 0])), (xf, .inl (g.2.1.1, 6, .inl fx)), (xr, .inr (6, [.ref xt, .ref dr, .int 1, .int 0, .int (-1), .int 1, .int 0])), (xt, .inr (7, [.ref xb, .int 0])), (dr, .inr (4, [.int 1, .int 0, .int 0, .int 30, .int 0, .int 0, .ref d_toolWidth, .ref d_told, .ref d_name, .ref d_parent, .ref d_side, .ref d_from, .ref d_width, .ref d_height, .ref d_radius, .ref d_toolSet])), (d_told, .inl (g.2.1.1, 10, .inl u2)), (d_width, .inl (g.2.1.1, 9, .inl u3)), (d_height, .inl (g.2.1.1, 9, .inl u4))] := hD
  refine lv_aload_n hx hb dX8_part_19 rfl (lv_at hl 0 rfl) ?_
  refine va_get (D := g.1) (ci := 8) (v := .ref xr) (C := RX8) (T := TX8) (N := 14) hx hb hG iX8 hown hX.1 hP 0 rfl rfl 1 (by decide) (hG _ g508) (fun _ h9 => h9) rfl dX8_part_20 ?_
  refine va_getN (D := g.1) (ci := 6) (v := .int 1) (C := RX6) (T := TX6) (N := 7) hx hb hG iX6 hown hX.1 hP 2 rfl rfl 5 (by decide) (hX.2.1.fl g257) (fun _ h9 => h9) rfl dX8_part_23 ?_
  refine lv_if_eq (tgt := 35) hx hb dX8_part_26 (by decide) (fun c26 => absurd c26 (by decide)) (fun c26 => ?_)
  refine lv_aload_n hx hb dX8_part_29 rfl (lv_at hl 0 rfl) ?_
  refine lv_iconst (v := 1) hx hb dX8_part_30 (by decide) ?_
  refine zfi (wr := [(xr, .inr (6, [.ref xt, .ref dr, .int 1, .int 0, .int (-1), .int 1, .int 0])), (xt, .inr (7, [.ref xb, .int 0])), (dr, .inr (4, [.int 1, .int 0, .int 0, .int 30, .int 0, .int 0, .ref d_toolWidth, .ref d_told, .ref d_name, .ref d_parent, .ref d_side, .ref d_from, .ref d_width, .ref d_height, .ref d_radius, .ref d_toolSet])), (d_told, .inl (g.2.1.1, 10, .inl u2)), (d_width, .inl (g.2.1.1, 9, .inl u3)), (d_height, .inl (g.2.1.1, 9, .inl u4))]) (va_runV (As := [.int 1]) (rest := []) ⟨hx, hb, hml, hown, hG⟩ (kX8_refuse1 l g h0 xt xr xp xs xm xh xe xf pa dr fx _) ⟨callB_of 1 hG (zGood g561) rfl rfl rfl (hG _ g202) (hG _ g558) hX8_refuse ⟨Nat.le_of_ble_eq_true rfl, Nat.le_of_ble_eq_true rfl⟩, hG _ g560, hG _ g1⟩ (zpreV (va_recv hX.1 hP (ci := 8) (q0 := 0) rfl rfl) hX hP hD hS hA [0, 1] rfl (by decide)) rfl rfl hl.1 rfl (lv_room (Nat.le_of_ble_eq_true rfl)) dX8_part_31 ⟨Nat.le_of_ble_eq_true rfl, Nat.le_of_ble_eq_true rfl⟩) hP hD hS hA [0, 1] [2, 3, 4, 5, 6, 7] rfl rfl (by decide) (by decide) (fun r6 u7 H locs hp hP hD hS => ?_)
  refine W.cs (cells' := 0) (slots' := 0) rfl rfl ?_
  have hq8 : r6 = (-1) := hp
  subst hq8
  have hP : va_P g.1 vwCl [(xr, .inr (6, [.ref xt, .ref dr, .int 1, .int 0, .int (-1), .int 1, .int 0])), (xt, .inr (7, [.ref xb, .int 0])), (dr, .inr (4, [.int 1, .int 0, .int 0, .int 30, .int 0, .int 0, .ref d_toolWidth, .ref d_told, .ref d_name, .ref d_parent, .ref d_side, .ref d_from, .ref d_width, .ref d_height, .ref d_radius, .ref d_toolSet])), (d_told, .inl (g.2.1.1, 10, .inl u2)), (d_width, .inl (g.2.1.1, 9, .inl u3)), (d_height, .inl (g.2.1.1, 9, .inl u4)), (h0, .inr (8, [.ref xt, .ref xr, .ref xp, .ref xs, .ref xm, .ref xh, .ref xe, .ref xf, .ref pa, .ref dr, .int 0, .int 1, .int 0, .int 0])), (xf, .inl (g.2.1.1, 6, .inl u7))] H := hP
  have hD : va_D A [(xr, .inr (6, [.ref xt, .ref dr, .int 1, .int 0, .int (-1), .int 1, .int 0])), (xt, .inr (7, [.ref xb, .int 0])), (dr, .inr (4, [.int 1, .int 0, .int 0, .int 30, .int 0, .int 0, .ref d_toolWidth, .ref d_told, .ref d_name, .ref d_parent, .ref d_side, .ref d_from, .ref d_width, .ref d_height, .ref d_radius, .ref d_toolSet])), (d_told, .inl (g.2.1.1, 10, .inl u2)), (d_width, .inl (g.2.1.1, 9, .inl u3)), (d_height, .inl (g.2.1.1, 9, .inl u4)), (h0, .inr (8, [.ref xt, .ref xr, .ref xp, .ref xs, .ref xm, .ref xh, .ref xe, .ref xf, .ref pa, .ref dr, .int 0, .int 1, .int 0, .int 0])), (xf, .inl (g.2.1.1, 6, .inl u7))] := hD
  exact zri (rm := { frames := 6, cells := 0, slots := 0, locals := 126 }) (v := (-1)) () hx hb hr hlocks (Nat.le_of_ble_eq_true rfl) (Nat.le_of_ble_eq_true rfl) (rfl) (hP.sub [] rfl) (hD.sub [] (by decide) rfl) hS dX8_part_34
