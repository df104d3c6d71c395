theorem dX4_isThere_0 : decode cX4_isThere 0 = .ok (.aload_n 0, 1) := by decide +kernel
theorem dX4_isThere_1 : decode cX4_isThere 1 = .ok (.getfield 42, 3) := by decide +kernel
theorem dX4_isThere_4 : decode cX4_isThere 4 = .ok (.ifCond .le 7, 3) := by decide +kernel
theorem dX4_isThere_11 : decode cX4_isThere 11 = .ok (.iconst 0, 1) := by decide +kernel
theorem dX4_isThere_12 : decode cX4_isThere 12 = .ok (.ireturn, 1) := by decide +kernel
set_option maxHeartbeats 4000000 in
set_option maxRecDepth 100000 in
theorem kX4_isThere (l : Launch) (g : zL) (pa : Nat) (p_toolWidth : Nat) (p_told : Nat) (p_name : Nat) (p_parent : Nat) (p_side : Nat) (p_from : Nat) (p_width : Nat) (p_height : Nat) (p_radius : Nat) (p_toolSet : Nat) : zCi l g yX4_isThere cX4_isThere 1 (some .boolean) { frames := 0, cells := 0, slots := 0, locals := 0 } [.ref pa] [(pa, .inr (4, [.int 0, .int 0, .int 0, .int 0, .int 0, .int 0, .ref p_toolWidth, .ref p_told, .ref p_name, .ref p_parent, .ref p_side, .ref p_from, .ref p_width, .ref p_height, .ref p_radius, .ref p_toolSet]))] (fun (r : Int32) (u : Unit) => r = 0) (fun (u : Unit) => [(pa, .inr (4, [.int 0, .int 0, .int 0, .int 0, .int 0, .int 0, .ref p_toolWidth, .ref p_told, .ref p_name, .ref p_parent, .ref p_side, .ref p_from, .ref p_width, .ref p_height, .ref p_radius, .ref p_toolSet]))]) := by
  refine zCi.mk (by decide) (Nat.le_of_ble_eq_true rfl) ?_
  intro p e s m below meth c A hE hP hD hS ls hl
  obtain ⟨hx, hb, hr, hml, hown, hG, hlocks, hnm, hX, hA⟩ := hE
  have hown : s.vm.findClass RX4 = some m.cls := hown
  have hl : lv_has ls 1 [(0, .ref pa)] := hl
  refine lv_aload_n hx hb dX4_isThere_0 rfl (lv_at hl 0 rfl) ?_
  refine va_get (D := g.1) (ci := 4) (v := .int 0) (C := RX4) (T := TX4) (N := 16) hx hb hG iX4 hown hX.1 hP 0 rfl rfl 0 (by decide) (hG _ g409) (fun _ h9 => h9) rfl dX4_isThere_1 ?_
  refine lv_if_le (tgt := 11) hx hb dX4_isThere_4 (by decide) (fun c4 => ?_) (fun c4 => (c4 (by decide)).elim)
  refine lv_iconst (v := 0) hx hb dX4_isThere_11 (by decide) ?_
  exact zrz (rm := { frames := 0, cells := 0, slots := 0, locals := 0 }) (v := 0) () hx hb hr hlocks (rfl) (Nat.le_of_ble_eq_true rfl) (Nat.le_of_ble_eq_true rfl) (rfl) hP hD hS dX4_isThere_12
theorem dX4_isFlange_0 : decode cX4_isFlange 0 = .ok (.iload_n 1, 1) := by decide +kernel
theorem dX4_isFlange_1 : decode cX4_isFlange 1 = .ok (.ifCond .lt 15, 3) := by decide +kernel
theorem dX4_isFlange_16 : decode cX4_isFlange 16 = .ok (.iconst 0, 1) := by decide +kernel
theorem dX4_isFlange_17 : decode cX4_isFlange 17 = .ok (.ireturn, 1) := by decide +kernel
theorem dX4_isFlange_4 : decode cX4_isFlange 4 = .ok (.iload_n 1, 1) := by decide +kernel
theorem dX4_isFlange_5 : decode cX4_isFlange 5 = .ok (.aload_n 0, 1) := by decide +kernel
theorem dX4_isFlange_6 : decode cX4_isFlange 6 = .ok (.getfield 42, 3) := by decide +kernel
theorem dX4_isFlange_9 : decode cX4_isFlange 9 = .ok (.if_icmp .ge 7, 3) := by decide +kernel
set_option maxHeartbeats 4000000 in
set_option maxRecDepth 100000 in
theorem kX4_isFlange (l : Launch) (g : zL) (pa : Nat) (x : Int32) (p_toolWidth : Nat) (p_told : Nat) (p_name : Nat) (p_parent : Nat) (p_side : Nat) (p_from : Nat) (p_width : Nat) (p_height : Nat) (p_radius : Nat) (p_toolSet : Nat) : zCi l g yX4_isFlange cX4_isFlange 2 (some .boolean) { frames := 0, cells := 0, slots := 0, locals := 0 } [.ref pa, .int x] [(pa, .inr (4, [.int 0, .int 0, .int 0, .int 0, .int 0, .int 0, .ref p_toolWidth, .ref p_told, .ref p_name, .ref p_parent, .ref p_side, .ref p_from, .ref p_width, .ref p_height, .ref p_radius, .ref p_toolSet]))] (fun (r : Int32) (u : Unit) => r = 0) (fun (u : Unit) => [(pa, .inr (4, [.int 0, .int 0, .int 0, .int 0, .int 0, .int 0, .ref p_toolWidth, .ref p_told, .ref p_name, .ref p_parent, .ref p_side, .ref p_from, .ref p_width, .ref p_height, .ref p_radius, .ref p_toolSet]))]) := by
  refine zCi.mk (by decide) (Nat.le_of_ble_eq_true rfl) ?_
  intro p e s m below meth c A hE hP hD hS ls hl
  obtain ⟨hx, hb, hr, hml, hown, hG, hlocks, hnm, hX, hA⟩ := hE
  have hown : s.vm.findClass RX4 = some m.cls := hown
  have hl : lv_has ls 2 [(0, .ref pa), (1, .int x)] := hl
  refine lv_iload_n hx hb dX4_isFlange_0 rfl (lv_at hl 1 rfl) ?_
  refine lv_if_lt (tgt := 16) hx hb dX4_isFlange_1 (by decide) (fun c1 => ?_) (fun c1 => ?_)
  · skip
    have c1i : x.toInt < 0 := (zc_lt (rfl : x.toInt = _) (show (0 : Int32).toInt = 0 from by decide)).mp c1
    refine lv_iconst (v := 0) hx hb dX4_isFlange_16 (by decide) ?_
    exact zrz (rm := { frames := 0, cells := 0, slots := 0, locals := 0 }) (v := 0) () hx hb hr hlocks (rfl) (Nat.le_of_ble_eq_true rfl) (Nat.le_of_ble_eq_true rfl) (rfl) hP hD hS dX4_isFlange_17
  · skip
    have c1i : ¬ x.toInt < 0 := fun q => c1 ((zc_lt (rfl : x.toInt = _) (show (0 : Int32).toInt = 0 from by decide)).mpr q)
    refine lv_iload_n hx hb dX4_isFlange_4 rfl (lv_at hl 1 rfl) ?_
    refine lv_aload_n hx hb dX4_isFlange_5 rfl (lv_at hl 0 rfl) ?_
    refine va_get (D := g.1) (ci := 4) (v := .int 0) (C := RX4) (T := TX4) (N := 16) hx hb hG iX4 hown hX.1 hP 0 rfl rfl 0 (by decide) (hG _ g409) (fun _ h9 => h9) rfl dX4_isFlange_6 ?_
    refine lv_icmp_ge (tgt := 16) hx hb dX4_isFlange_9 (by decide) (fun c9 => ?_) (fun c9 => (c9 (by rw [zc_le (show (0 : Int32).toInt = 0 from by decide) (rfl : x.toInt = _)]; omega)).elim)
    refine lv_iconst (v := 0) hx hb dX4_isFlange_16 (by decide) ?_
    exact zrz (rm := { frames := 0, cells := 0, slots := 0, locals := 0 }) (v := 0) () hx hb hr hlocks (rfl) (Nat.le_of_ble_eq_true rfl) (Nat.le_of_ble_eq_true rfl) (rfl) hP hD hS dX4_isFlange_17
